/-! words of the tables by their places -/
/-- the words that a contract may ask for -/
def wTab : List Cond := lw_tbl.filter goodWord
theorem mw {w : Cond} (h : w ∈ lw_tbl) (hg : goodWord w = true) : w ∈ wTab := List.mem_filter.mpr ⟨h, hg⟩
set_option maxRecDepth 100000 in
theorem tw_good : ∀ w ∈ wTab, goodWord w = true := fun w h => (List.mem_filter.mp h).2
theorem mem_r {big ws : List Cond} (ps : List Nat) (hp : ws = ps.filterMap (fun i => big[i]?)) : ∀ w ∈ ws, w ∈ big := by
  intro w hw
  rw [hp] at hw
  obtain ⟨i, -, hi⟩ := List.mem_filterMap.mp hw
  exact List.mem_of_getElem? hi

theorem tb_X0 : ∀ w ∈ wsX00, w ∈ wTab := fun w h => mw (mem_r (ws := wsX00) [418, 420, 422, 424, 426, 428, 430, 432, 434, 436, 438, 440, 442, 444, 446, 448, 450] (by decide +kernel) w h) (List.all_eq_true.mp (by decide +kernel : wsX00.all goodWord = true) w h)
theorem tb_X1 : ∀ w ∈ wsX10, w ∈ wTab := fun w h => mw (mem_r (ws := wsX10) [234, 236, 238, 240, 242, 244, 246, 248, 250, 252, 254, 256, 258, 260, 262] (by decide +kernel) w h) (List.all_eq_true.mp (by decide +kernel : wsX10.all goodWord = true) w h)
theorem tb_X2 : ∀ w ∈ wsX20, w ∈ wTab := fun w h => mw (mem_r (ws := wsX20) [351, 353, 355, 357] (by decide +kernel) w h) (List.all_eq_true.mp (by decide +kernel : wsX20.all goodWord = true) w h)
theorem tb_X3 : ∀ w ∈ wsX30, w ∈ wTab := fun w h => mw (mem_r (ws := wsX30) [377, 379, 381, 383, 385, 387] (by decide +kernel) w h) (List.all_eq_true.mp (by decide +kernel : wsX30.all goodWord = true) w h)
theorem tb_X4 : ∀ w ∈ wsX40, w ∈ wTab := fun w h => mw (mem_r (ws := wsX40) [170, 172, 174, 176, 178, 180, 182, 184, 186, 188] (by decide +kernel) w h) (List.all_eq_true.mp (by decide +kernel : wsX40.all goodWord = true) w h)
theorem tb_X5 : ∀ w ∈ wsX50, w ∈ wTab := fun w h => mw (mem_r (ws := wsX50) [511, 513, 515, 517, 519, 521, 523, 525, 527, 529, 531, 533, 535, 537, 539, 541, 543] (by decide +kernel) w h) (List.all_eq_true.mp (by decide +kernel : wsX50.all goodWord = true) w h)
theorem tb_X6 : ∀ w ∈ wsX60, w ∈ wTab := fun w h => mw (mem_r (ws := wsX60) [825, 827] (by decide +kernel) w h) (List.all_eq_true.mp (by decide +kernel : wsX60.all goodWord = true) w h)
theorem tb_X7 : ∀ w ∈ wsX70, w ∈ wTab := fun w h => mw (mem_r (ws := wsX70) [331, 333] (by decide +kernel) w h) (List.all_eq_true.mp (by decide +kernel : wsX70.all goodWord = true) w h)
theorem tb_X8 : ∀ w ∈ wsX80, w ∈ wTab := fun w h => mw (mem_r (ws := wsX80) [467, 469, 471, 473] (by decide +kernel) w h) (List.all_eq_true.mp (by decide +kernel : wsX80.all goodWord = true) w h)
theorem tb_X9 : ∀ w ∈ wsX90, w ∈ wTab := fun w h => mw (mem_r (ws := wsX90) [1028, 1030, 1032, 1034, 1036, 1038, 1040, 1042, 1044, 1046] (by decide +kernel) w h) (List.all_eq_true.mp (by decide +kernel : wsX90.all goodWord = true) w h)
theorem tb_X10 : ∀ w ∈ wsX100, w ∈ wTab := fun w h => mw (mem_r (ws := wsX100) [292, 294, 296, 298, 300, 302, 304, 306, 308, 310, 312] (by decide +kernel) w h) (List.all_eq_true.mp (by decide +kernel : wsX100.all goodWord = true) w h)
theorem tb_X11 : ∀ w ∈ wsX110, w ∈ wTab := fun w h => mw (mem_r (ws := wsX110) [562, 564, 566, 568, 570, 572, 574, 576, 578, 580, 582, 584, 586, 588, 590, 592] (by decide +kernel) w h) (List.all_eq_true.mp (by decide +kernel : wsX110.all goodWord = true) w h)
theorem tb_X12 : ∀ w ∈ wsX120, w ∈ wTab := fun w h => mw (mem_r (ws := wsX120) [1444, 1446, 1448, 1450, 1452, 1454, 1456, 1458, 1460, 1462, 1464, 1466, 1468, 1470, 1472, 1474, 1476, 1478, 1480, 1482, 1484, 1486, 1488, 1490, 1492, 1494, 1496, 1498, 1500, 1502, 1504, 1506, 1508, 1510, 1512, 1514, 1516, 1518, 1520, 1522, 1524, 1526, 1528, 1530, 1532, 1534, 1536, 1538, 1540, 1542, 1544, 1546] (by decide +kernel) w h) (List.all_eq_true.mp (by decide +kernel : wsX120.all goodWord = true) w h)
theorem tm_p : ∀ q ∈ lw_privs, Cond.selects q.1.cls q.1 q.1 ∈ lw_tbl := fun q hq => List.mem_append_left _ (List.mem_map.mpr ⟨q, hq, rfl⟩)
theorem tp_1 : ∀ q ∈ lw_privs_1, Cond.selects q.1.cls q.1 q.1 ∈ lw_tbl := fun q h => tm_p q (List.mem_append_left _ h)
theorem tp_2 : ∀ q ∈ lw_privs_2, Cond.selects q.1.cls q.1 q.1 ∈ lw_tbl := fun q h => tm_p q (List.mem_append_right _ (List.mem_append_left _ h))
theorem tp_3 : ∀ q ∈ lw_privs_3, Cond.selects q.1.cls q.1 q.1 ∈ lw_tbl := fun q h => tm_p q (List.mem_append_right _ (List.mem_append_right _ (List.mem_append_left _ h)))
theorem tp_4 : ∀ q ∈ lw_privs_4, Cond.selects q.1.cls q.1 q.1 ∈ lw_tbl := fun q h => tm_p q (List.mem_append_right _ (List.mem_append_right _ (List.mem_append_right _ (List.mem_append_left _ h))))
theorem tp_5 : ∀ q ∈ lw_privs_5, Cond.selects q.1.cls q.1 q.1 ∈ lw_tbl := fun q h => tm_p q (List.mem_append_right _ (List.mem_append_right _ (List.mem_append_right _ (List.mem_append_right _ (List.mem_append_left _ h)))))
theorem tp_6 : ∀ q ∈ lw_privs_6, Cond.selects q.1.cls q.1 q.1 ∈ lw_tbl := fun q h => tm_p q (List.mem_append_right _ (List.mem_append_right _ (List.mem_append_right _ (List.mem_append_right _ (List.mem_append_right _ (List.mem_append_left _ h))))))
theorem tp_7 : ∀ q ∈ lw_privs_7, Cond.selects q.1.cls q.1 q.1 ∈ lw_tbl := fun q h => tm_p q (List.mem_append_right _ (List.mem_append_right _ (List.mem_append_right _ (List.mem_append_right _ (List.mem_append_right _ (List.mem_append_right _ h))))))
theorem tt_1 : ∀ w ∈ tables_1_1, w ∈ lw_tbl := fun w h => List.mem_append_right _ (List.mem_append_left _ h)
theorem tt_2 : ∀ w ∈ tables_1_2, w ∈ lw_tbl := fun w h => List.mem_append_right _ (List.mem_append_right _ (List.mem_append_left _ h))
theorem tt_3 : ∀ w ∈ tables_1_3, w ∈ lw_tbl := fun w h => List.mem_append_right _ (List.mem_append_right _ (List.mem_append_right _ (List.mem_append_left _ h)))
theorem tt_4 : ∀ w ∈ tables_1_4, w ∈ lw_tbl := fun w h => List.mem_append_right _ (List.mem_append_right _ (List.mem_append_right _ (List.mem_append_right _ (List.mem_append_left _ h))))
theorem tt_5 : ∀ w ∈ tables_1_5, w ∈ lw_tbl := fun w h => List.mem_append_right _ (List.mem_append_right _ (List.mem_append_right _ (List.mem_append_right _ (List.mem_append_right _ (List.mem_append_left _ h)))))
theorem tt_6 : ∀ w ∈ tables_1_6, w ∈ lw_tbl := fun w h => List.mem_append_right _ (List.mem_append_right _ (List.mem_append_right _ (List.mem_append_right _ (List.mem_append_right _ (List.mem_append_right _ (List.mem_append_left _ h))))))
theorem tt_7 : ∀ w ∈ tables_1_7, w ∈ lw_tbl := fun w h => List.mem_append_right _ (List.mem_append_right _ (List.mem_append_right _ (List.mem_append_right _ (List.mem_append_right _ (List.mem_append_right _ (List.mem_append_right _ (List.mem_append_left _ h)))))))
theorem tt_8 : ∀ w ∈ tables_1_8, w ∈ lw_tbl := fun w h => List.mem_append_right _ (List.mem_append_right _ (List.mem_append_right _ (List.mem_append_right _ (List.mem_append_right _ (List.mem_append_right _ (List.mem_append_right _ (List.mem_append_right _ (List.mem_append_left _ h))))))))
theorem tt_9 : ∀ w ∈ tables_1_9, w ∈ lw_tbl := fun w h => List.mem_append_right _ (List.mem_append_right _ (List.mem_append_right _ (List.mem_append_right _ (List.mem_append_right _ (List.mem_append_right _ (List.mem_append_right _ (List.mem_append_right _ (List.mem_append_right _ h))))))))
theorem tw_0 : Cond.selects RX11 yX11_refuse yX11_refuse ∈ wTab := mw (tp_1 (⟨"NoRent", "refuse", "(I)I"⟩, 16) (List.mem_of_getElem? (i := 0) rfl)) rfl
theorem tw_1 : Cond.selects RX11 yX11_accept yX11_accept ∈ wTab := mw (tp_1 (⟨"NoRent", "accept", "(I)I"⟩, 16) (List.mem_of_getElem? (i := 1) rfl)) rfl
theorem tw_2 : Cond.selects RX0 yX0_ask yX0_ask ∈ wTab := mw (tp_1 (⟨"NoRent$County", "ask", "(LNoRent$Text;III)J"⟩, 17) (List.mem_of_getElem? (i := 2) rfl)) rfl
theorem tw_3 : Cond.selects RX0 yX0_wordOf yX0_wordOf ∈ wTab := mw (tp_1 (⟨"NoRent$County", "wordOf", "(III)I"⟩, 17) (List.mem_of_getElem? (i := 3) rfl)) rfl
theorem tw_4 : Cond.selects RX11 yX11_whyNoRow yX11_whyNoRow ∈ wTab := mw (tp_1 (⟨"NoRent", "whyNoRow", "(II)I"⟩, 16) (List.mem_of_getElem? (i := 4) rfl)) rfl
theorem tw_5 : Cond.selects RX11 yX11_keepRow yX11_keepRow ∈ wTab := mw (tp_1 (⟨"NoRent", "keepRow", "(II)I"⟩, 16) (List.mem_of_getElem? (i := 5) rfl)) rfl
theorem tw_6 : Cond.selects RX8 yX8_nearest yX8_nearest ∈ wTab := mw (tp_1 (⟨"NoRent$Tape", "nearest", "(II)D"⟩, 4) (List.mem_of_getElem? (i := 6) rfl)) rfl
theorem tw_7 : Cond.selects RX5 yX5_split yX5_split ∈ wTab := mw (tp_1 (⟨"NoRent$Reader", "split", "(LNoRent$Tape;)V"⟩, 17) (List.mem_of_getElem? (i := 7) rfl)) rfl
theorem tw_8 : Cond.selects RX5 yX5_readClause yX5_readClause ∈ wTab := mw (tp_1 (⟨"NoRent$Reader", "readClause", "()V"⟩, 17) (List.mem_of_getElem? (i := 8) rfl)) rfl
theorem tw_9 : Cond.selects RX5 yX5_fail yX5_fail ∈ wTab := mw (tp_1 (⟨"NoRent$Reader", "fail", "()V"⟩, 17) (List.mem_of_getElem? (i := 9) rfl)) rfl
theorem tw_10 : Cond.selects RX5 yX5_readNumber yX5_readNumber ∈ wTab := mw (tp_1 (⟨"NoRent$Reader", "readNumber", "(II)I"⟩, 17) (List.mem_of_getElem? (i := 10) rfl)) rfl
theorem tw_11 : Cond.selects RX5 yX5_expect yX5_expect ∈ wTab := mw (tp_1 (⟨"NoRent$Reader", "expect", "(I)V"⟩, 17) (List.mem_of_getElem? (i := 11) rfl)) rfl
theorem tw_12 : Cond.selects RX5 yX5_readSum yX5_readSum ∈ wTab := mw (tp_1 (⟨"NoRent$Reader", "readSum", "(I)V"⟩, 17) (List.mem_of_getElem? (i := 12) rfl)) rfl
theorem tw_13 : Cond.selects RX5 yX5_readPart yX5_readPart ∈ wTab := mw (tp_1 (⟨"NoRent$Reader", "readPart", "(I)V"⟩, 17) (List.mem_of_getElem? (i := 13) rfl)) rfl
theorem tw_14 : Cond.selects RX5 yX5_takeLeaf yX5_takeLeaf ∈ wTab := mw (tp_1 (⟨"NoRent$Reader", "takeLeaf", "()V"⟩, 17) (List.mem_of_getElem? (i := 14) rfl)) rfl
theorem tw_15 : Cond.selects RX5 yX5_write yX5_write ∈ wTab := mw (tp_1 (⟨"NoRent$Reader", "write", "(II)V"⟩, 17) (List.mem_of_getElem? (i := 15) rfl)) rfl
theorem tw_16 : Cond.selects RX5 yX5_readTest yX5_readTest ∈ wTab := mw (tp_2 (⟨"NoRent$Reader", "readTest", "(I)V"⟩, 17) (List.mem_of_getElem? (i := 0) rfl)) rfl
theorem tw_17 : Cond.selects RX5 yX5_readPlain yX5_readPlain ∈ wTab := mw (tp_2 (⟨"NoRent$Reader", "readPlain", "(I)V"⟩, 17) (List.mem_of_getElem? (i := 1) rfl)) rfl
theorem tw_18 : Cond.selects RX5 yX5_skipToHere yX5_skipToHere ∈ wTab := mw (tp_2 (⟨"NoRent$Reader", "skipToHere", "(I)V"⟩, 17) (List.mem_of_getElem? (i := 2) rfl)) rfl
theorem tw_19 : Cond.selects RX11 yX11_canGo yX11_canGo ∈ wTab := mw (tp_2 (⟨"NoRent", "canGo", "(I)Z"⟩, 16) (List.mem_of_getElem? (i := 3) rfl)) rfl
theorem tw_20 : Cond.selects RX0 yX0_reap yX0_reap ∈ wTab := mw (tp_2 (⟨"NoRent$County", "reap", "()V"⟩, 17) (List.mem_of_getElem? (i := 4) rfl)) rfl
theorem tw_21 : Cond.selects RX0 yX0_collectRents yX0_collectRents ∈ wTab := mw (tp_2 (⟨"NoRent$County", "collectRents", "()V"⟩, 17) (List.mem_of_getElem? (i := 5) rfl)) rfl
theorem tw_22 : Cond.selects RX0 yX0_pay yX0_pay ∈ wTab := mw (tp_2 (⟨"NoRent$County", "pay", "(II)I"⟩, 17) (List.mem_of_getElem? (i := 6) rfl)) rfl
theorem tw_23 : Cond.selects RX0 yX0_payMortgages yX0_payMortgages ∈ wTab := mw (tp_2 (⟨"NoRent$County", "payMortgages", "()V"⟩, 17) (List.mem_of_getElem? (i := 7) rfl)) rfl
theorem tw_24 : Cond.selects RX0 yX0_tellWrits yX0_tellWrits ∈ wTab := mw (tp_2 (⟨"NoRent$County", "tellWrits", "()V"⟩, 17) (List.mem_of_getElem? (i := 8) rfl)) rfl
theorem tw_25 : Cond.selects RX0 yX0_advanceWrit yX0_advanceWrit ∈ wTab := mw (tp_2 (⟨"NoRent$County", "advanceWrit", "(I)V"⟩, 17) (List.mem_of_getElem? (i := 9) rfl)) rfl
theorem tw_26 : Cond.selects RX0 yX0_putOut yX0_putOut ∈ wTab := mw (tp_2 (⟨"NoRent$County", "putOut", "(II)V"⟩, 17) (List.mem_of_getElem? (i := 10) rfl)) rfl
theorem tw_27 : Cond.selects RX0 yX0_payDraws yX0_payDraws ∈ wTab := mw (tp_2 (⟨"NoRent$County", "payDraws", "()V"⟩, 17) (List.mem_of_getElem? (i := 11) rfl)) rfl
theorem tw_28 : Cond.selects RX0 yX0_drawOf yX0_drawOf ∈ wTab := mw (tp_2 (⟨"NoRent$County", "drawOf", "(I)J"⟩, 17) (List.mem_of_getElem? (i := 12) rfl)) rfl
theorem tw_29 : Cond.selects RX0 yX0_renewBans yX0_renewBans ∈ wTab := mw (tp_2 (⟨"NoRent$County", "renewBans", "()V"⟩, 17) (List.mem_of_getElem? (i := 13) rfl)) rfl
theorem tw_30 : Cond.selects RX0 yX0_takeMostSpared yX0_takeMostSpared ∈ wTab := mw (tp_2 (⟨"NoRent$County", "takeMostSpared", "(I)I"⟩, 17) (List.mem_of_getElem? (i := 14) rfl)) rfl
theorem tw_31 : Cond.selects RX3 yX3_sumOf yX3_sumOf ∈ wTab := mw (tp_2 (⟨"NoRent$League", "sumOf", "(I[I)I"⟩, 6) (List.mem_of_getElem? (i := 15) rfl)) rfl
theorem tw_32 : Cond.selects RX11 yX11_isWished yX11_isWished ∈ wTab := mw (tp_3 (⟨"NoRent", "isWished", "(I)Z"⟩, 16) (List.mem_of_getElem? (i := 0) rfl)) rfl
theorem tw_33 : Cond.selects RX11 yX11_canChoose yX11_canChoose ∈ wTab := mw (tp_3 (⟨"NoRent", "canChoose", "(I)Z"⟩, 16) (List.mem_of_getElem? (i := 1) rfl)) rfl
theorem tw_34 : Cond.selects RX11 yX11_bitsOfRow yX11_bitsOfRow ∈ wTab := mw (tp_3 (⟨"NoRent", "bitsOfRow", "(I)I"⟩, 16) (List.mem_of_getElem? (i := 2) rfl)) rfl
theorem tw_35 : Cond.selects RX11 yX11_worstOf yX11_worstOf ∈ wTab := mw (tp_3 (⟨"NoRent", "worstOf", "(III)I"⟩, 16) (List.mem_of_getElem? (i := 3) rfl)) rfl
theorem tw_36 : Cond.selects RX11 yX11_gotOnPaper yX11_gotOnPaper ∈ wTab := mw (tp_3 (⟨"NoRent", "gotOnPaper", "(ILNoRent$Text;)J"⟩, 16) (List.mem_of_getElem? (i := 4) rfl)) rfl
theorem tw_37 : Cond.selects RX12 yX12_told yX12_told ∈ wTab := mw (tp_3 (⟨"NoRentModel", "told", "(I)I"⟩, 52) (List.mem_of_getElem? (i := 5) rfl)) rfl
theorem tw_38 : Cond.selects RX12 yX12_addFour yX12_addFour ∈ wTab := mw (tp_3 (⟨"NoRentModel", "addFour", "(IIIII)V"⟩, 52) (List.mem_of_getElem? (i := 6) rfl)) rfl
theorem tw_39 : Cond.selects RX12 yX12_isPerson yX12_isPerson ∈ wTab := mw (tp_3 (⟨"NoRentModel", "isPerson", "(I)Z"⟩, 52) (List.mem_of_getElem? (i := 7) rfl)) rfl
theorem tw_40 : Cond.selects RX12 yX12_gets yX12_gets ∈ wTab := mw (tp_3 (⟨"NoRentModel", "gets", "(IJ)V"⟩, 52) (List.mem_of_getElem? (i := 8) rfl)) rfl
theorem tw_41 : Cond.selects RX12 yX12_isEstate yX12_isEstate ∈ wTab := mw (tp_3 (⟨"NoRentModel", "isEstate", "(I)Z"⟩, 52) (List.mem_of_getElem? (i := 9) rfl)) rfl
theorem tw_42 : Cond.selects RX12 yX12_kinOf yX12_kinOf ∈ wTab := mw (tp_3 (⟨"NoRentModel", "kinOf", "(I)I"⟩, 52) (List.mem_of_getElem? (i := 10) rfl)) rfl
theorem tw_43 : Cond.selects RX12 yX12_isField yX12_isField ∈ wTab := mw (tp_3 (⟨"NoRentModel", "isField", "(I)Z"⟩, 52) (List.mem_of_getElem? (i := 11) rfl)) rfl
theorem tw_44 : Cond.selects RX12 yX12_writOf yX12_writOf ∈ wTab := mw (tp_3 (⟨"NoRentModel", "writOf", "(I)I"⟩, 52) (List.mem_of_getElem? (i := 12) rfl)) rfl
theorem tw_45 : Cond.selects RX12 yX12_forceNow yX12_forceNow ∈ wTab := mw (tp_3 (⟨"NoRentModel", "forceNow", "()V"⟩, 52) (List.mem_of_getElem? (i := 13) rfl)) rfl
theorem tw_46 : Cond.selects RX12 yX12_findForce yX12_findForce ∈ wTab := mw (tp_3 (⟨"NoRentModel", "findForce", "(I)V"⟩, 52) (List.mem_of_getElem? (i := 14) rfl)) rfl
theorem tw_47 : Cond.selects RX12 yX12_fairOf yX12_fairOf ∈ wTab := mw (tp_3 (⟨"NoRentModel", "fairOf", "(I)I"⟩, 52) (List.mem_of_getElem? (i := 15) rfl)) rfl
theorem tw_48 : Cond.selects RX12 yX12_rentOf yX12_rentOf ∈ wTab := mw (tp_4 (⟨"NoRentModel", "rentOf", "(I)I"⟩, 52) (List.mem_of_getElem? (i := 0) rfl)) rfl
theorem tw_49 : Cond.selects RX12 yX12_find yX12_find ∈ wTab := mw (tp_4 (⟨"NoRentModel", "find", "(III)Z"⟩, 52) (List.mem_of_getElem? (i := 1) rfl)) rfl
theorem tw_50 : Cond.selects RX12 yX12_setFor yX12_setFor ∈ wTab := mw (tp_4 (⟨"NoRentModel", "setFor", "(II)V"⟩, 52) (List.mem_of_getElem? (i := 2) rfl)) rfl
theorem tw_51 : Cond.selects RX12 yX12_priceNow yX12_priceNow ∈ wTab := mw (tp_4 (⟨"NoRentModel", "priceNow", "()I"⟩, 52) (List.mem_of_getElem? (i := 3) rfl)) rfl
theorem tw_52 : Cond.selects RX12 yX12_holdsAny yX12_holdsAny ∈ wTab := mw (tp_4 (⟨"NoRentModel", "holdsAny", "(IZ)Z"⟩, 52) (List.mem_of_getElem? (i := 4) rfl)) rfl
theorem tw_53 : Cond.selects RX12 yX12_isIn yX12_isIn ∈ wTab := mw (tp_4 (⟨"NoRentModel", "isIn", "(II)Z"⟩, 52) (List.mem_of_getElem? (i := 5) rfl)) rfl
theorem tw_54 : Cond.selects RX12 yX12_isSo yX12_isSo ∈ wTab := mw (tp_4 (⟨"NoRentModel", "isSo", "(II)Z"⟩, 52) (List.mem_of_getElem? (i := 6) rfl)) rfl
theorem tw_55 : Cond.selects RX12 yX12_run yX12_run ∈ wTab := mw (tp_4 (⟨"NoRentModel", "run", "(III)V"⟩, 52) (List.mem_of_getElem? (i := 7) rfl)) rfl
theorem tw_56 : Cond.selects RX12 yX12_reckon yX12_reckon ∈ wTab := mw (tp_4 (⟨"NoRentModel", "reckon", "(IJJ)J"⟩, 52) (List.mem_of_getElem? (i := 8) rfl)) rfl
theorem tw_57 : Cond.selects RX12 yX12_keepsField yX12_keepsField ∈ wTab := mw (tp_4 (⟨"NoRentModel", "keepsField", "(I)Z"⟩, 52) (List.mem_of_getElem? (i := 9) rfl)) rfl
theorem tw_58 : Cond.selects RX12 yX12_readFloat yX12_readFloat ∈ wTab := mw (tp_4 (⟨"NoRentModel", "readFloat", "(I)Z"⟩, 52) (List.mem_of_getElem? (i := 10) rfl)) rfl
theorem tw_59 : Cond.selects RX12 yX12_numberOf yX12_numberOf ∈ wTab := mw (tp_4 (⟨"NoRentModel", "numberOf", "(II)D"⟩, 52) (List.mem_of_getElem? (i := 11) rfl)) rfl
theorem tw_60 : Cond.selects RX12 yX12_four yX12_four ∈ wTab := mw (tp_4 (⟨"NoRentModel", "four", "(I)V"⟩, 52) (List.mem_of_getElem? (i := 12) rfl)) rfl
theorem tw_61 : Cond.selects RX12 yX12_readText yX12_readText ∈ wTab := mw (tp_4 (⟨"NoRentModel", "readText", "(I)Z"⟩, 52) (List.mem_of_getElem? (i := 13) rfl)) rfl
theorem tw_62 : Cond.selects RX12 yX12_begin yX12_begin ∈ wTab := mw (tp_4 (⟨"NoRentModel", "begin", "()V"⟩, 52) (List.mem_of_getElem? (i := 14) rfl)) rfl
theorem tw_63 : Cond.selects RX12 yX12_next yX12_next ∈ wTab := mw (tp_4 (⟨"NoRentModel", "next", "()V"⟩, 52) (List.mem_of_getElem? (i := 15) rfl)) rfl
theorem tw_64 : Cond.selects RX12 yX12_readClause yX12_readClause ∈ wTab := mw (tp_5 (⟨"NoRentModel", "readClause", "()V"⟩, 52) (List.mem_of_getElem? (i := 0) rfl)) rfl
theorem tw_65 : Cond.selects RX12 yX12_headAt yX12_headAt ∈ wTab := mw (tp_5 (⟨"NoRentModel", "headAt", "()I"⟩, 52) (List.mem_of_getElem? (i := 1) rfl)) rfl
theorem tw_66 : Cond.selects RX12 yX12_isWord yX12_isWord ∈ wTab := mw (tp_5 (⟨"NoRentModel", "isWord", "(J)Z"⟩, 52) (List.mem_of_getElem? (i := 2) rfl)) rfl
theorem tw_67 : Cond.selects RX12 yX12_must yX12_must ∈ wTab := mw (tp_5 (⟨"NoRentModel", "must", "(Z)V"⟩, 52) (List.mem_of_getElem? (i := 3) rfl)) rfl
theorem tw_68 : Cond.selects RX12 yX12_number yX12_number ∈ wTab := mw (tp_5 (⟨"NoRentModel", "number", "(JJ)I"⟩, 52) (List.mem_of_getElem? (i := 4) rfl)) rfl
theorem tw_69 : Cond.selects RX12 yX12_readExpression yX12_readExpression ∈ wTab := mw (tp_5 (⟨"NoRentModel", "readExpression", "(Z)V"⟩, 52) (List.mem_of_getElem? (i := 5) rfl)) rfl
theorem tw_70 : Cond.selects RX12 yX12_readPlain yX12_readPlain ∈ wTab := mw (tp_5 (⟨"NoRentModel", "readPlain", "()I"⟩, 52) (List.mem_of_getElem? (i := 6) rfl)) rfl
theorem tw_71 : Cond.selects RX12 yX12_push yX12_push ∈ wTab := mw (tp_5 (⟨"NoRentModel", "push", "(II)V"⟩, 52) (List.mem_of_getElem? (i := 7) rfl)) rfl
theorem tw_72 : Cond.selects RX12 yX12_isSign yX12_isSign ∈ wTab := mw (tp_5 (⟨"NoRentModel", "isSign", "(I)Z"⟩, 52) (List.mem_of_getElem? (i := 8) rfl)) rfl
theorem tw_73 : Cond.selects RX12 yX12_open yX12_open ∈ wTab := mw (tp_5 (⟨"NoRentModel", "open", "(I)V"⟩, 52) (List.mem_of_getElem? (i := 9) rfl)) rfl
theorem tw_74 : Cond.selects RX12 yX12_plainAt yX12_plainAt ∈ wTab := mw (tp_5 (⟨"NoRentModel", "plainAt", "()I"⟩, 52) (List.mem_of_getElem? (i := 10) rfl)) rfl
theorem tw_75 : Cond.selects RX12 yX12_leaf yX12_leaf ∈ wTab := mw (tp_5 (⟨"NoRentModel", "leaf", "(ZII)V"⟩, 52) (List.mem_of_getElem? (i := 11) rfl)) rfl
theorem tw_76 : Cond.selects RX12 yX12_emit yX12_emit ∈ wTab := mw (tp_5 (⟨"NoRentModel", "emit", "(II)V"⟩, 52) (List.mem_of_getElem? (i := 12) rfl)) rfl
theorem tw_77 : Cond.selects RX12 yX12_readPart yX12_readPart ∈ wTab := mw (tp_5 (⟨"NoRentModel", "readPart", "()I"⟩, 52) (List.mem_of_getElem? (i := 13) rfl)) rfl
theorem tw_78 : Cond.selects RX12 yX12_partAt yX12_partAt ∈ wTab := mw (tp_5 (⟨"NoRentModel", "partAt", "()I"⟩, 52) (List.mem_of_getElem? (i := 14) rfl)) rfl
theorem tw_79 : Cond.selects RX12 yX12_behindSum yX12_behindSum ∈ wTab := mw (tp_5 (⟨"NoRentModel", "behindSum", "(Z)I"⟩, 52) (List.mem_of_getElem? (i := 15) rfl)) rfl
theorem tw_80 : Cond.selects RX12 yX12_settle yX12_settle ∈ wTab := mw (tp_6 (⟨"NoRentModel", "settle", "(I)V"⟩, 52) (List.mem_of_getElem? (i := 0) rfl)) rfl
theorem tw_81 : Cond.selects RX12 yX12_inner yX12_inner ∈ wTab := mw (tp_6 (⟨"NoRentModel", "inner", "()I"⟩, 52) (List.mem_of_getElem? (i := 1) rfl)) rfl
theorem tw_82 : Cond.selects RX12 yX12_isCompared yX12_isCompared ∈ wTab := mw (tp_6 (⟨"NoRentModel", "isCompared", "()Z"⟩, 52) (List.mem_of_getElem? (i := 2) rfl)) rfl
theorem tw_83 : Cond.selects RX12 yX12_behindTest yX12_behindTest ∈ wTab := mw (tp_6 (⟨"NoRentModel", "behindTest", "()I"⟩, 52) (List.mem_of_getElem? (i := 3) rfl)) rfl
theorem tw_84 : Cond.selects RX12 yX12_goWeek yX12_goWeek ∈ wTab := mw (tp_6 (⟨"NoRentModel", "goWeek", "()V"⟩, 52) (List.mem_of_getElem? (i := 4) rfl)) rfl
theorem tw_85 : Cond.selects RX12 yX12_bringCrops yX12_bringCrops ∈ wTab := mw (tp_6 (⟨"NoRentModel", "bringCrops", "()V"⟩, 52) (List.mem_of_getElem? (i := 5) rfl)) rfl
theorem tw_86 : Cond.selects RX12 yX12_payRents yX12_payRents ∈ wTab := mw (tp_6 (⟨"NoRentModel", "payRents", "()V"⟩, 52) (List.mem_of_getElem? (i := 6) rfl)) rfl
theorem tw_87 : Cond.selects RX12 yX12_canWrit yX12_canWrit ∈ wTab := mw (tp_6 (⟨"NoRentModel", "canWrit", "(I)Z"⟩, 52) (List.mem_of_getElem? (i := 7) rfl)) rfl
theorem tw_88 : Cond.selects RX12 yX12_addWrit yX12_addWrit ∈ wTab := mw (tp_6 (⟨"NoRentModel", "addWrit", "(I)V"⟩, 52) (List.mem_of_getElem? (i := 8) rfl)) rfl
theorem tw_89 : Cond.selects RX12 yX12_stepWeeks yX12_stepWeeks ∈ wTab := mw (tp_6 (⟨"NoRentModel", "stepWeeks", "(I)I"⟩, 52) (List.mem_of_getElem? (i := 9) rfl)) rfl
theorem tw_90 : Cond.selects RX12 yX12_goWrit yX12_goWrit ∈ wTab := mw (tp_6 (⟨"NoRentModel", "goWrit", "(I)V"⟩, 52) (List.mem_of_getElem? (i := 10) rfl)) rfl
theorem tw_91 : Cond.selects RX12 yX12_isGuarded yX12_isGuarded ∈ wTab := mw (tp_6 (⟨"NoRentModel", "isGuarded", "(I)Z"⟩, 52) (List.mem_of_getElem? (i := 11) rfl)) rfl
theorem tw_92 : Cond.selects RX12 yX12_isAbout yX12_isAbout ∈ wTab := mw (tp_6 (⟨"NoRentModel", "isAbout", "(I)Z"⟩, 52) (List.mem_of_getElem? (i := 12) rfl)) rfl
theorem tw_93 : Cond.selects RX12 yX12_keepsBan yX12_keepsBan ∈ wTab := mw (tp_6 (⟨"NoRentModel", "keepsBan", "(II)Z"⟩, 52) (List.mem_of_getElem? (i := 13) rfl)) rfl
theorem tw_94 : Cond.selects RX12 yX12_falls yX12_falls ∈ wTab := mw (tp_6 (⟨"NoRentModel", "falls", "(IJI)Z"⟩, 52) (List.mem_of_getElem? (i := 14) rfl)) rfl
theorem tw_95 : Cond.selects RX12 yX12_isSpan yX12_isSpan ∈ wTab := mw (tp_6 (⟨"NoRentModel", "isSpan", "(I)Z"⟩, 52) (List.mem_of_getElem? (i := 15) rfl)) rfl
theorem tw_96 : Cond.selects RX12 yX12_areThere yX12_areThere ∈ wTab := mw (tp_7 (⟨"NoRentModel", "areThere", "()Z"⟩, 52) (List.mem_of_getElem? (i := 0) rfl)) rfl
theorem tw_97 : Cond.selects RX12 yX12_worst yX12_worst ∈ wTab := mw (tp_7 (⟨"NoRentModel", "worst", "(II)I"⟩, 52) (List.mem_of_getElem? (i := 1) rfl)) rfl
theorem tw_98 : Cond.selects RX12 yX12_keepPaper yX12_keepPaper ∈ wTab := mw (tp_7 (⟨"NoRentModel", "keepPaper", "()V"⟩, 52) (List.mem_of_getElem? (i := 2) rfl)) rfl
theorem tw_99 : Cond.selects RX12 yX12_putBack yX12_putBack ∈ wTab := mw (tp_7 (⟨"NoRentModel", "putBack", "()V"⟩, 52) (List.mem_of_getElem? (i := 3) rfl)) rfl
theorem tw_100 : Cond.selects RX12 yX12_chests yX12_chests ∈ wTab := mw (tp_7 (⟨"NoRentModel", "chests", "(I)J"⟩, 52) (List.mem_of_getElem? (i := 4) rfl)) rfl
theorem tw_101 : Cond.selects RX12 yX12_addFields yX12_addFields ∈ wTab := mw (tp_7 (⟨"NoRentModel", "addFields", "()V"⟩, 52) (List.mem_of_getElem? (i := 5) rfl)) rfl
theorem tw_103 : Cond.initialized RX11 ∈ wTab := mw (tt_1 _ (List.mem_of_getElem? (i := 1) (by decide +kernel))) rfl
theorem tw_104 : Cond.initialized RX0 ∈ wTab := mw (tt_1 _ (List.mem_of_getElem? (i := 2) (by decide +kernel))) rfl
theorem tw_105 : Cond.initialized RX4 ∈ wTab := mw (tt_1 _ (List.mem_of_getElem? (i := 3) (by decide +kernel))) rfl
theorem tw_106 : Cond.initialized RX1 ∈ wTab := mw (tt_1 _ (List.mem_of_getElem? (i := 4) (by decide +kernel))) rfl
theorem tw_107 : Cond.initialized RX10 ∈ wTab := mw (tt_1 _ (List.mem_of_getElem? (i := 5) (by decide +kernel))) rfl
theorem tw_108 : Cond.initialized RX7 ∈ wTab := mw (tt_1 _ (List.mem_of_getElem? (i := 6) (by decide +kernel))) rfl
theorem tw_109 : Cond.initialized RJ7 ∈ wTab := mw (tt_1 _ (List.mem_of_getElem? (i := 7) (by decide +kernel))) rfl
theorem tw_110 : Cond.initialized RX2 ∈ wTab := mw (tt_1 _ (List.mem_of_getElem? (i := 8) (by decide +kernel))) rfl
theorem tw_111 : Cond.initialized RX3 ∈ wTab := mw (tt_1 _ (List.mem_of_getElem? (i := 9) (by decide +kernel))) rfl
theorem tw_112 : Cond.initialized RX8 ∈ wTab := mw (tt_1 _ (List.mem_of_getElem? (i := 10) (by decide +kernel))) rfl
theorem tw_113 : Cond.initialized RX5 ∈ wTab := mw (tt_1 _ (List.mem_of_getElem? (i := 11) (by decide +kernel))) rfl
theorem tw_114 : Cond.initialized RX12 ∈ wTab := mw (tt_1 _ (List.mem_of_getElem? (i := 12) (by decide +kernel))) rfl
theorem tw_115 : Cond.initialized "java/lang/Math" ∈ wTab := mw (tt_1 _ (List.mem_of_getElem? (i := 13) (by decide +kernel))) rfl
theorem tw_122 : Cond.initialized "java/lang/System" ∈ wTab := mw (tt_1 _ (List.mem_of_getElem? (i := 20) (by decide +kernel))) rfl
theorem tw_123 : Cond.initialized RJ6 ∈ wTab := mw (tt_1 _ (List.mem_of_getElem? (i := 21) (by decide +kernel))) rfl
theorem tw_144 : Cond.fieldLink RX4 39 "NoRent$People" "count" "I" ∈ wTab := mw (tt_1 _ (List.mem_of_getElem? (i := 42) (by decide +kernel))) rfl
theorem tw_145 : Cond.fieldLink RX11 67 "NoRent$People" "count" "I" ∈ wTab := mw (tt_1 _ (List.mem_of_getElem? (i := 43) (by decide +kernel))) rfl
theorem tw_146 : Cond.fieldLink RX0 263 "NoRent$People" "count" "I" ∈ wTab := mw (tt_1 _ (List.mem_of_getElem? (i := 44) (by decide +kernel))) rfl
theorem tw_147 : Cond.fieldLink RX4 9 "NoRent$People" "house" "[I" ∈ wTab := mw (tt_1 _ (List.mem_of_getElem? (i := 45) (by decide +kernel))) rfl
theorem tw_148 : Cond.fieldLink RX0 351 "NoRent$People" "house" "[I" ∈ wTab := mw (tt_1 _ (List.mem_of_getElem? (i := 46) (by decide +kernel))) rfl
theorem tw_149 : Cond.fieldLink RX4 15 "NoRent$People" "coin" "[I" ∈ wTab := mw (tt_1 _ (List.mem_of_getElem? (i := 47) (by decide +kernel))) rfl
theorem tw_150 : Cond.fieldLink RX11 94 "NoRent$People" "coin" "[I" ∈ wTab := mw (tt_1 _ (List.mem_of_getElem? (i := 48) (by decide +kernel))) rfl
theorem tw_151 : Cond.fieldLink RX0 213 "NoRent$People" "coin" "[I" ∈ wTab := mw (tt_1 _ (List.mem_of_getElem? (i := 49) (by decide +kernel))) rfl
theorem tw_152 : Cond.fieldLink RX4 18 "NoRent$People" "fear" "[I" ∈ wTab := mw (tt_1 _ (List.mem_of_getElem? (i := 50) (by decide +kernel))) rfl
theorem tw_153 : Cond.fieldLink RX0 348 "NoRent$People" "fear" "[I" ∈ wTab := mw (tt_1 _ (List.mem_of_getElem? (i := 51) (by decide +kernel))) rfl
theorem tw_154 : Cond.fieldLink RX4 21 "NoRent$People" "heeds" "[I" ∈ wTab := mw (tt_1 _ (List.mem_of_getElem? (i := 52) (by decide +kernel))) rfl
theorem tw_155 : Cond.fieldLink RX11 84 "NoRent$People" "heeds" "[I" ∈ wTab := mw (tt_1 _ (List.mem_of_getElem? (i := 53) (by decide +kernel))) rfl
theorem tw_156 : Cond.fieldLink RX4 24 "NoRent$People" "sacks" "[I" ∈ wTab := mw (tt_1 _ (List.mem_of_getElem? (i := 54) (by decide +kernel))) rfl
theorem tw_157 : Cond.fieldLink RX0 179 "NoRent$People" "sacks" "[I" ∈ wTab := mw (tt_1 _ (List.mem_of_getElem? (i := 55) (by decide +kernel))) rfl
theorem tw_158 : Cond.fieldLink RX11 138 "NoRent$People" "sacks" "[I" ∈ wTab := mw (tt_1 _ (List.mem_of_getElem? (i := 56) (by decide +kernel))) rfl
theorem tw_159 : Cond.fieldLink RX4 27 "NoRent$People" "state" "[I" ∈ wTab := mw (tt_1 _ (List.mem_of_getElem? (i := 57) (by decide +kernel))) rfl
theorem tw_160 : Cond.fieldLink RX11 87 "NoRent$People" "state" "[I" ∈ wTab := mw (tt_1 _ (List.mem_of_getElem? (i := 58) (by decide +kernel))) rfl
theorem tw_161 : Cond.fieldLink RX0 182 "NoRent$People" "state" "[I" ∈ wTab := mw (tt_1 _ (List.mem_of_getElem? (i := 59) (by decide +kernel))) rfl
theorem tw_162 : Cond.fieldLink RX4 30 "NoRent$People" "outSince" "[I" ∈ wTab := mw (tt_1 _ (List.mem_of_getElem? (i := 60) (by decide +kernel))) rfl
theorem tw_163 : Cond.fieldLink RX0 130 "NoRent$People" "outSince" "[I" ∈ wTab := mw (tt_1 _ (List.mem_of_getElem? (i := 61) (by decide +kernel))) rfl
theorem tw_164 : Cond.fieldLink RX11 144 "NoRent$People" "outSince" "[I" ∈ wTab := mw (tt_1 _ (List.mem_of_getElem? (i := 62) (by decide +kernel))) rfl
theorem tw_165 : Cond.fieldLink RX4 33 "NoRent$People" "banned" "[I" ∈ wTab := mw (tt_1 _ (List.mem_of_getElem? (i := 63) (by decide +kernel))) rfl
theorem tw_166 : Cond.fieldLink RX11 141 "NoRent$People" "banned" "[I" ∈ wTab := mw (tt_1 _ (List.mem_of_getElem? (i := 64) (by decide +kernel))) rfl
theorem tw_167 : Cond.fieldLink RX0 277 "NoRent$People" "banned" "[I" ∈ wTab := mw (tt_1 _ (List.mem_of_getElem? (i := 65) (by decide +kernel))) rfl
theorem tw_169 : Cond.fieldLink RX0 274 "NoRent$People" "bannedNext" "[I" ∈ wTab := mw (tt_1 _ (List.mem_of_getElem? (i := 67) (by decide +kernel))) rfl
theorem tw_198 : Cond.fieldLink RX1 46 "NoRent$Land" "count" "I" ∈ wTab := mw (tt_1 _ (List.mem_of_getElem? (i := 96) (by decide +kernel))) rfl
theorem tw_199 : Cond.fieldLink RX0 171 "NoRent$Land" "count" "I" ∈ wTab := mw (tt_1 _ (List.mem_of_getElem? (i := 97) (by decide +kernel))) rfl
theorem tw_200 : Cond.fieldLink RX11 130 "NoRent$Land" "count" "I" ∈ wTab := mw (tt_1 _ (List.mem_of_getElem? (i := 98) (by decide +kernel))) rfl
theorem tw_201 : Cond.fieldLink RX1 9 "NoRent$Land" "estate" "[I" ∈ wTab := mw (tt_1 _ (List.mem_of_getElem? (i := 99) (by decide +kernel))) rfl
theorem tw_202 : Cond.fieldLink RX0 204 "NoRent$Land" "estate" "[I" ∈ wTab := mw (tt_1 _ (List.mem_of_getElem? (i := 100) (by decide +kernel))) rfl
theorem tw_203 : Cond.fieldLink RX1 15 "NoRent$Land" "worth" "[I" ∈ wTab := mw (tt_1 _ (List.mem_of_getElem? (i := 101) (by decide +kernel))) rfl
theorem tw_204 : Cond.fieldLink RX0 172 "NoRent$Land" "worth" "[I" ∈ wTab := mw (tt_1 _ (List.mem_of_getElem? (i := 102) (by decide +kernel))) rfl
theorem tw_205 : Cond.fieldLink RX11 378 "NoRent$Land" "worth" "[I" ∈ wTab := mw (tt_1 _ (List.mem_of_getElem? (i := 103) (by decide +kernel))) rfl
theorem tw_206 : Cond.fieldLink RX1 18 "NoRent$Land" "rent" "[I" ∈ wTab := mw (tt_1 _ (List.mem_of_getElem? (i := 104) (by decide +kernel))) rfl
theorem tw_207 : Cond.fieldLink RX11 157 "NoRent$Land" "rent" "[I" ∈ wTab := mw (tt_1 _ (List.mem_of_getElem? (i := 105) (by decide +kernel))) rfl
theorem tw_208 : Cond.fieldLink RX0 342 "NoRent$Land" "rent" "[I" ∈ wTab := mw (tt_1 _ (List.mem_of_getElem? (i := 106) (by decide +kernel))) rfl
theorem tw_209 : Cond.fieldLink RX1 21 "NoRent$Land" "holder" "[I" ∈ wTab := mw (tt_1 _ (List.mem_of_getElem? (i := 107) (by decide +kernel))) rfl
theorem tw_210 : Cond.fieldLink RX0 124 "NoRent$Land" "holder" "[I" ∈ wTab := mw (tt_1 _ (List.mem_of_getElem? (i := 108) (by decide +kernel))) rfl
theorem tw_211 : Cond.fieldLink RX11 154 "NoRent$Land" "holder" "[I" ∈ wTab := mw (tt_1 _ (List.mem_of_getElem? (i := 109) (by decide +kernel))) rfl
theorem tw_212 : Cond.fieldLink RX1 24 "NoRent$Land" "arrear" "[I" ∈ wTab := mw (tt_1 _ (List.mem_of_getElem? (i := 110) (by decide +kernel))) rfl
theorem tw_213 : Cond.fieldLink RX0 188 "NoRent$Land" "arrear" "[I" ∈ wTab := mw (tt_1 _ (List.mem_of_getElem? (i := 111) (by decide +kernel))) rfl
theorem tw_214 : Cond.fieldLink RX11 160 "NoRent$Land" "arrear" "[I" ∈ wTab := mw (tt_1 _ (List.mem_of_getElem? (i := 112) (by decide +kernel))) rfl
theorem tw_215 : Cond.fieldLink RX1 27 "NoRent$Land" "grabbed" "[I" ∈ wTab := mw (tt_1 _ (List.mem_of_getElem? (i := 113) (by decide +kernel))) rfl
theorem tw_216 : Cond.fieldLink RX0 127 "NoRent$Land" "grabbed" "[I" ∈ wTab := mw (tt_1 _ (List.mem_of_getElem? (i := 114) (by decide +kernel))) rfl
theorem tw_217 : Cond.fieldLink RX1 30 "NoRent$Land" "emptied" "[I" ∈ wTab := mw (tt_1 _ (List.mem_of_getElem? (i := 115) (by decide +kernel))) rfl
theorem tw_218 : Cond.fieldLink RX11 182 "NoRent$Land" "emptied" "[I" ∈ wTab := mw (tt_1 _ (List.mem_of_getElem? (i := 116) (by decide +kernel))) rfl
theorem tw_219 : Cond.fieldLink RX0 256 "NoRent$Land" "emptied" "[I" ∈ wTab := mw (tt_1 _ (List.mem_of_getElem? (i := 117) (by decide +kernel))) rfl
theorem tw_220 : Cond.fieldLink RX1 49 "NoRent$Land" "estates" "I" ∈ wTab := mw (tt_1 _ (List.mem_of_getElem? (i := 118) (by decide +kernel))) rfl
theorem tw_221 : Cond.fieldLink RX11 118 "NoRent$Land" "estates" "I" ∈ wTab := mw (tt_1 _ (List.mem_of_getElem? (i := 119) (by decide +kernel))) rfl
theorem tw_222 : Cond.fieldLink RX0 216 "NoRent$Land" "estates" "I" ∈ wTab := mw (tt_1 _ (List.mem_of_getElem? (i := 120) (by decide +kernel))) rfl
theorem tw_223 : Cond.fieldLink RX1 33 "NoRent$Land" "chest" "[I" ∈ wTab := mw (tt_1 _ (List.mem_of_getElem? (i := 121) (by decide +kernel))) rfl
theorem tw_224 : Cond.fieldLink RX0 201 "NoRent$Land" "chest" "[I" ∈ wTab := mw (tt_1 _ (List.mem_of_getElem? (i := 122) (by decide +kernel))) rfl
theorem tw_225 : Cond.fieldLink RX11 185 "NoRent$Land" "chest" "[I" ∈ wTab := mw (tt_1 _ (List.mem_of_getElem? (i := 123) (by decide +kernel))) rfl
theorem tw_226 : Cond.fieldLink RX1 36 "NoRent$Land" "mortgage" "[I" ∈ wTab := mw (tt_1 _ (List.mem_of_getElem? (i := 124) (by decide +kernel))) rfl
theorem tw_227 : Cond.fieldLink RX0 222 "NoRent$Land" "mortgage" "[I" ∈ wTab := mw (tt_1 _ (List.mem_of_getElem? (i := 125) (by decide +kernel))) rfl
theorem tw_228 : Cond.fieldLink RX1 39 "NoRent$Land" "fallen" "[I" ∈ wTab := mw (tt_1 _ (List.mem_of_getElem? (i := 126) (by decide +kernel))) rfl
theorem tw_229 : Cond.fieldLink RX0 219 "NoRent$Land" "fallen" "[I" ∈ wTab := mw (tt_1 _ (List.mem_of_getElem? (i := 127) (by decide +kernel))) rfl
theorem tw_230 : Cond.fieldLink RX11 188 "NoRent$Land" "fallen" "[I" ∈ wTab := mw (tt_1 _ (List.mem_of_getElem? (i := 128) (by decide +kernel))) rfl
theorem tw_231 : Cond.fieldLink RX1 42 "NoRent$Land" "sealedCount" "I" ∈ wTab := mw (tt_1 _ (List.mem_of_getElem? (i := 129) (by decide +kernel))) rfl
theorem tw_232 : Cond.fieldLink RX1 62 "NoRent$Land" "sealedSum" "J" ∈ wTab := mw (tt_1 _ (List.mem_of_getElem? (i := 130) (by decide +kernel))) rfl
theorem tw_233 : Cond.fieldLink RX1 69 "NoRent$Land" "sealedByPlace" "J" ∈ wTab := mw (tt_1 _ (List.mem_of_getElem? (i := 131) (by decide +kernel))) rfl
theorem tw_271 : Cond.fieldLink RX10 39 "NoRent$Writs" "count" "I" ∈ wTab := mw (tt_1 _ (List.mem_of_getElem? (i := 169) (by decide +kernel))) rfl
theorem tw_272 : Cond.fieldLink RX0 148 "NoRent$Writs" "count" "I" ∈ wTab := mw (tt_1 _ (List.mem_of_getElem? (i := 170) (by decide +kernel))) rfl
theorem tw_273 : Cond.fieldLink RX11 251 "NoRent$Writs" "count" "I" ∈ wTab := mw (tt_1 _ (List.mem_of_getElem? (i := 171) (by decide +kernel))) rfl
theorem tw_274 : Cond.fieldLink RX10 9 "NoRent$Writs" "field" "[I" ∈ wTab := mw (tt_1 _ (List.mem_of_getElem? (i := 172) (by decide +kernel))) rfl
theorem tw_275 : Cond.fieldLink RX0 235 "NoRent$Writs" "field" "[I" ∈ wTab := mw (tt_1 _ (List.mem_of_getElem? (i := 173) (by decide +kernel))) rfl
theorem tw_276 : Cond.fieldLink RX10 15 "NoRent$Writs" "holder" "[I" ∈ wTab := mw (tt_1 _ (List.mem_of_getElem? (i := 174) (by decide +kernel))) rfl
theorem tw_277 : Cond.fieldLink RX0 238 "NoRent$Writs" "holder" "[I" ∈ wTab := mw (tt_1 _ (List.mem_of_getElem? (i := 175) (by decide +kernel))) rfl
theorem tw_278 : Cond.fieldLink RX10 18 "NoRent$Writs" "step" "[I" ∈ wTab := mw (tt_1 _ (List.mem_of_getElem? (i := 176) (by decide +kernel))) rfl
theorem tw_279 : Cond.fieldLink RX0 249 "NoRent$Writs" "step" "[I" ∈ wTab := mw (tt_1 _ (List.mem_of_getElem? (i := 177) (by decide +kernel))) rfl
theorem tw_280 : Cond.fieldLink RX10 21 "NoRent$Writs" "left" "[I" ∈ wTab := mw (tt_1 _ (List.mem_of_getElem? (i := 178) (by decide +kernel))) rfl
theorem tw_281 : Cond.fieldLink RX0 246 "NoRent$Writs" "left" "[I" ∈ wTab := mw (tt_1 _ (List.mem_of_getElem? (i := 179) (by decide +kernel))) rfl
theorem tw_282 : Cond.fieldLink RX10 24 "NoRent$Writs" "toldIn" "[I" ∈ wTab := mw (tt_1 _ (List.mem_of_getElem? (i := 180) (by decide +kernel))) rfl
theorem tw_283 : Cond.fieldLink RX0 239 "NoRent$Writs" "toldIn" "[I" ∈ wTab := mw (tt_1 _ (List.mem_of_getElem? (i := 181) (by decide +kernel))) rfl
theorem tw_284 : Cond.fieldLink RX10 27 "NoRent$Writs" "open" "[I" ∈ wTab := mw (tt_1 _ (List.mem_of_getElem? (i := 182) (by decide +kernel))) rfl
theorem tw_285 : Cond.fieldLink RX0 151 "NoRent$Writs" "open" "[I" ∈ wTab := mw (tt_1 _ (List.mem_of_getElem? (i := 183) (by decide +kernel))) rfl
theorem tw_286 : Cond.fieldLink RX11 261 "NoRent$Writs" "open" "[I" ∈ wTab := mw (tt_1 _ (List.mem_of_getElem? (i := 184) (by decide +kernel))) rfl
theorem tw_287 : Cond.fieldLink RX10 43 "NoRent$Writs" "guards" "I" ∈ wTab := mw (tt_1 _ (List.mem_of_getElem? (i := 185) (by decide +kernel))) rfl
theorem tw_288 : Cond.fieldLink RX11 264 "NoRent$Writs" "guards" "I" ∈ wTab := mw (tt_1 _ (List.mem_of_getElem? (i := 186) (by decide +kernel))) rfl
theorem tw_289 : Cond.fieldLink RX10 30 "NoRent$Writs" "guardField" "[I" ∈ wTab := mw (tt_1 _ (List.mem_of_getElem? (i := 187) (by decide +kernel))) rfl
theorem tw_290 : Cond.fieldLink RX10 33 "NoRent$Writs" "guardFrom" "[I" ∈ wTab := mw (tt_1 _ (List.mem_of_getElem? (i := 188) (by decide +kernel))) rfl
theorem tw_291 : Cond.fieldLink RX10 36 "NoRent$Writs" "guardTo" "[I" ∈ wTab := mw (tt_1 _ (List.mem_of_getElem? (i := 189) (by decide +kernel))) rfl
theorem tw_324 : Cond.static yJ7_fill_53178 ∈ wTab := mw (tt_1 _ (List.mem_of_getElem? (i := 222) (by decide +kernel))) rfl
theorem tw_325 : Cond.code yJ7_fill_53178 cJ7_fill_53178 4 none ∈ wTab := mw (tt_1 _ (List.mem_of_getElem? (i := 223) (by decide +kernel))) rfl
theorem tw_326 : Cond.fieldLink RX7 9 "NoRent$Seasons" "price" "[I" ∈ wTab := mw (tt_1 _ (List.mem_of_getElem? (i := 224) (by decide +kernel))) rfl
theorem tw_327 : Cond.fieldLink RX11 198 "NoRent$Seasons" "price" "[I" ∈ wTab := mw (tt_1 _ (List.mem_of_getElem? (i := 225) (by decide +kernel))) rfl
theorem tw_328 : Cond.fieldLink RX7 17 "NoRent$Seasons" "rows" "[LNoRent$Row;" ∈ wTab := mw (tt_1 _ (List.mem_of_getElem? (i := 226) (by decide +kernel))) rfl
theorem tw_329 : Cond.fieldLink RX0 167 "NoRent$Seasons" "rows" "[LNoRent$Row;" ∈ wTab := mw (tt_1 _ (List.mem_of_getElem? (i := 227) (by decide +kernel))) rfl
theorem tw_330 : Cond.fieldLink RX11 359 "NoRent$Seasons" "rows" "[LNoRent$Row;" ∈ wTab := mw (tt_1 _ (List.mem_of_getElem? (i := 228) (by decide +kernel))) rfl
theorem tw_344 : Cond.fieldLink RX2 24 "NoRent$Law" "count" "I" ∈ wTab := mw (tt_2 _ (List.mem_of_getElem? (i := 2) (by decide +kernel))) rfl
theorem tw_345 : Cond.fieldLink RX0 286 "NoRent$Law" "count" "I" ∈ wTab := mw (tt_2 _ (List.mem_of_getElem? (i := 3) (by decide +kernel))) rfl
theorem tw_346 : Cond.fieldLink RX11 223 "NoRent$Law" "count" "I" ∈ wTab := mw (tt_2 _ (List.mem_of_getElem? (i := 4) (by decide +kernel))) rfl
theorem tw_347 : Cond.fieldLink RX2 11 "NoRent$Law" "texts" "[LNoRent$Text;" ∈ wTab := mw (tt_2 _ (List.mem_of_getElem? (i := 5) (by decide +kernel))) rfl
theorem tw_348 : Cond.fieldLink RX0 287 "NoRent$Law" "texts" "[LNoRent$Text;" ∈ wTab := mw (tt_2 _ (List.mem_of_getElem? (i := 6) (by decide +kernel))) rfl
theorem tw_349 : Cond.fieldLink RX2 17 "NoRent$Law" "inForce" "[I" ∈ wTab := mw (tt_2 _ (List.mem_of_getElem? (i := 7) (by decide +kernel))) rfl
theorem tw_350 : Cond.fieldLink RX2 21 "NoRent$Law" "struck" "[I" ∈ wTab := mw (tt_2 _ (List.mem_of_getElem? (i := 8) (by decide +kernel))) rfl
theorem tw_366 : Cond.fieldLink RX3 35 "NoRent$League" "fund" "I" ∈ wTab := mw (tt_2 _ (List.mem_of_getElem? (i := 24) (by decide +kernel))) rfl
theorem tw_367 : Cond.fieldLink RX11 102 "NoRent$League" "fund" "I" ∈ wTab := mw (tt_2 _ (List.mem_of_getElem? (i := 25) (by decide +kernel))) rfl
theorem tw_368 : Cond.fieldLink RX0 268 "NoRent$League" "fund" "I" ∈ wTab := mw (tt_2 _ (List.mem_of_getElem? (i := 26) (by decide +kernel))) rfl
theorem tw_369 : Cond.fieldLink RX3 9 "NoRent$League" "brave" "I" ∈ wTab := mw (tt_2 _ (List.mem_of_getElem? (i := 27) (by decide +kernel))) rfl
theorem tw_370 : Cond.fieldLink RX11 282 "NoRent$League" "brave" "I" ∈ wTab := mw (tt_2 _ (List.mem_of_getElem? (i := 28) (by decide +kernel))) rfl
theorem tw_371 : Cond.fieldLink RX3 38 "NoRent$League" "deals" "I" ∈ wTab := mw (tt_2 _ (List.mem_of_getElem? (i := 29) (by decide +kernel))) rfl
theorem tw_372 : Cond.fieldLink RX11 288 "NoRent$League" "deals" "I" ∈ wTab := mw (tt_2 _ (List.mem_of_getElem? (i := 30) (by decide +kernel))) rfl
theorem tw_373 : Cond.fieldLink RX3 22 "NoRent$League" "offers" "I" ∈ wTab := mw (tt_2 _ (List.mem_of_getElem? (i := 31) (by decide +kernel))) rfl
theorem tw_374 : Cond.fieldLink RX11 297 "NoRent$League" "offers" "I" ∈ wTab := mw (tt_2 _ (List.mem_of_getElem? (i := 32) (by decide +kernel))) rfl
theorem tw_375 : Cond.fieldLink RX3 15 "NoRent$League" "toLeague" "[I" ∈ wTab := mw (tt_2 _ (List.mem_of_getElem? (i := 33) (by decide +kernel))) rfl
theorem tw_376 : Cond.fieldLink RX3 19 "NoRent$League" "toOwners" "[I" ∈ wTab := mw (tt_2 _ (List.mem_of_getElem? (i := 34) (by decide +kernel))) rfl
theorem tw_390 : Cond.methodLink RX0 68 yJ7_fill_53178 ∈ wTab := mw (tt_2 _ (List.mem_of_getElem? (i := 48) (by decide +kernel))) rfl
theorem tw_391 : Cond.fieldLink RX0 12 "NoRent$County" "people" "LNoRent$People;" ∈ wTab := mw (tt_2 _ (List.mem_of_getElem? (i := 49) (by decide +kernel))) rfl
theorem tw_392 : Cond.fieldLink RX11 63 "NoRent$County" "people" "LNoRent$People;" ∈ wTab := mw (tt_2 _ (List.mem_of_getElem? (i := 50) (by decide +kernel))) rfl
theorem tw_393 : Cond.fieldLink RX0 21 "NoRent$County" "land" "LNoRent$Land;" ∈ wTab := mw (tt_2 _ (List.mem_of_getElem? (i := 51) (by decide +kernel))) rfl
theorem tw_394 : Cond.fieldLink RX11 114 "NoRent$County" "land" "LNoRent$Land;" ∈ wTab := mw (tt_2 _ (List.mem_of_getElem? (i := 52) (by decide +kernel))) rfl
theorem tw_395 : Cond.fieldLink RX0 28 "NoRent$County" "writs" "LNoRent$Writs;" ∈ wTab := mw (tt_2 _ (List.mem_of_getElem? (i := 53) (by decide +kernel))) rfl
theorem tw_396 : Cond.fieldLink RX11 170 "NoRent$County" "writs" "LNoRent$Writs;" ∈ wTab := mw (tt_2 _ (List.mem_of_getElem? (i := 54) (by decide +kernel))) rfl
theorem tw_397 : Cond.fieldLink RX0 35 "NoRent$County" "seasons" "LNoRent$Seasons;" ∈ wTab := mw (tt_2 _ (List.mem_of_getElem? (i := 55) (by decide +kernel))) rfl
theorem tw_398 : Cond.fieldLink RX11 194 "NoRent$County" "seasons" "LNoRent$Seasons;" ∈ wTab := mw (tt_2 _ (List.mem_of_getElem? (i := 56) (by decide +kernel))) rfl
theorem tw_399 : Cond.fieldLink RX0 42 "NoRent$County" "law" "LNoRent$Law;" ∈ wTab := mw (tt_2 _ (List.mem_of_getElem? (i := 57) (by decide +kernel))) rfl
theorem tw_400 : Cond.fieldLink RX11 219 "NoRent$County" "law" "LNoRent$Law;" ∈ wTab := mw (tt_2 _ (List.mem_of_getElem? (i := 58) (by decide +kernel))) rfl
theorem tw_401 : Cond.fieldLink RX0 49 "NoRent$County" "league" "LNoRent$League;" ∈ wTab := mw (tt_2 _ (List.mem_of_getElem? (i := 59) (by decide +kernel))) rfl
theorem tw_402 : Cond.fieldLink RX11 98 "NoRent$County" "league" "LNoRent$League;" ∈ wTab := mw (tt_2 _ (List.mem_of_getElem? (i := 60) (by decide +kernel))) rfl
theorem tw_403 : Cond.fieldLink RX0 93 "NoRent$County" "now" "I" ∈ wTab := mw (tt_2 _ (List.mem_of_getElem? (i := 61) (by decide +kernel))) rfl
theorem tw_404 : Cond.fieldLink RX11 255 "NoRent$County" "now" "I" ∈ wTab := mw (tt_2 _ (List.mem_of_getElem? (i := 62) (by decide +kernel))) rfl
theorem tw_405 : Cond.fieldLink RX0 64 "NoRent$County" "onPaper" "Z" ∈ wTab := mw (tt_2 _ (List.mem_of_getElem? (i := 63) (by decide +kernel))) rfl
theorem tw_406 : Cond.fieldLink RX0 53 "NoRent$County" "choice" "[I" ∈ wTab := mw (tt_2 _ (List.mem_of_getElem? (i := 64) (by decide +kernel))) rfl
theorem tw_407 : Cond.fieldLink RX11 386 "NoRent$County" "choice" "[I" ∈ wTab := mw (tt_2 _ (List.mem_of_getElem? (i := 65) (by decide +kernel))) rfl
theorem tw_408 : Cond.fieldLink RX0 97 "NoRent$County" "choosing" "Z" ∈ wTab := mw (tt_2 _ (List.mem_of_getElem? (i := 66) (by decide +kernel))) rfl
theorem tw_409 : Cond.fieldLink RX0 107 "NoRent$County" "toldPrice" "I" ∈ wTab := mw (tt_2 _ (List.mem_of_getElem? (i := 67) (by decide +kernel))) rfl
theorem tw_410 : Cond.fieldLink RX0 110 "NoRent$County" "toldSacks" "I" ∈ wTab := mw (tt_2 _ (List.mem_of_getElem? (i := 68) (by decide +kernel))) rfl
theorem tw_411 : Cond.fieldLink RX0 100 "NoRent$County" "outs" "I" ∈ wTab := mw (tt_2 _ (List.mem_of_getElem? (i := 69) (by decide +kernel))) rfl
theorem tw_412 : Cond.fieldLink RX11 389 "NoRent$County" "outs" "I" ∈ wTab := mw (tt_2 _ (List.mem_of_getElem? (i := 70) (by decide +kernel))) rfl
theorem tw_413 : Cond.fieldLink RX0 103 "NoRent$County" "got" "J" ∈ wTab := mw (tt_2 _ (List.mem_of_getElem? (i := 71) (by decide +kernel))) rfl
theorem tw_414 : Cond.fieldLink RX11 395 "NoRent$County" "got" "J" ∈ wTab := mw (tt_2 _ (List.mem_of_getElem? (i := 72) (by decide +kernel))) rfl
theorem tw_415 : Cond.fieldLink RX0 121 "NoRent$County" "priceNow" "I" ∈ wTab := mw (tt_2 _ (List.mem_of_getElem? (i := 73) (by decide +kernel))) rfl
theorem tw_416 : Cond.fieldLink RX0 57 "NoRent$County" "stack" "[J" ∈ wTab := mw (tt_2 _ (List.mem_of_getElem? (i := 74) (by decide +kernel))) rfl
theorem tw_417 : Cond.fieldLink RX0 61 "NoRent$County" "spared" "[I" ∈ wTab := mw (tt_2 _ (List.mem_of_getElem? (i := 75) (by decide +kernel))) rfl
theorem tw_460 : Cond.fieldLink RX8 19 "NoRent$Tape" "length" "I" ∈ wTab := mw (tt_2 _ (List.mem_of_getElem? (i := 118) (by decide +kernel))) rfl
theorem tw_461 : Cond.fieldLink RX5 80 "NoRent$Tape" "length" "I" ∈ wTab := mw (tt_2 _ (List.mem_of_getElem? (i := 119) (by decide +kernel))) rfl
theorem tw_462 : Cond.fieldLink RX11 209 "NoRent$Tape" "length" "I" ∈ wTab := mw (tt_2 _ (List.mem_of_getElem? (i := 120) (by decide +kernel))) rfl
theorem tw_463 : Cond.fieldLink RX8 9 "NoRent$Tape" "bytes" "[I" ∈ wTab := mw (tt_2 _ (List.mem_of_getElem? (i := 121) (by decide +kernel))) rfl
theorem tw_464 : Cond.fieldLink RX5 85 "NoRent$Tape" "bytes" "[I" ∈ wTab := mw (tt_2 _ (List.mem_of_getElem? (i := 122) (by decide +kernel))) rfl
theorem tw_465 : Cond.fieldLink RX8 15 "NoRent$Tape" "numbers" "[D" ∈ wTab := mw (tt_2 _ (List.mem_of_getElem? (i := 123) (by decide +kernel))) rfl
theorem tw_466 : Cond.fieldLink RX8 29 "NoRent$Tape" "numbersRead" "I" ∈ wTab := mw (tt_2 _ (List.mem_of_getElem? (i := 124) (by decide +kernel))) rfl
theorem tw_483 : Cond.fieldLink RX5 9 "NoRent$Reader" "fault" "I" ∈ wTab := mw (tt_2 _ (List.mem_of_getElem? (i := 141) (by decide +kernel))) rfl
theorem tw_484 : Cond.fieldLink RX11 233 "NoRent$Reader" "fault" "I" ∈ wTab := mw (tt_2 _ (List.mem_of_getElem? (i := 142) (by decide +kernel))) rfl
theorem tw_486 : Cond.fieldLink RX5 50 "NoRent$Reader" "clauses" "I" ∈ wTab := mw (tt_2 _ (List.mem_of_getElem? (i := 144) (by decide +kernel))) rfl
theorem tw_488 : Cond.fieldLink RX5 53 "NoRent$Reader" "asksBanned" "Z" ∈ wTab := mw (tt_2 _ (List.mem_of_getElem? (i := 146) (by decide +kernel))) rfl
theorem tw_489 : Cond.fieldLink RX5 15 "NoRent$Reader" "kind" "[I" ∈ wTab := mw (tt_2 _ (List.mem_of_getElem? (i := 147) (by decide +kernel))) rfl
theorem tw_491 : Cond.fieldLink RX5 19 "NoRent$Reader" "first" "[I" ∈ wTab := mw (tt_2 _ (List.mem_of_getElem? (i := 149) (by decide +kernel))) rfl
theorem tw_493 : Cond.fieldLink RX5 22 "NoRent$Reader" "second" "[I" ∈ wTab := mw (tt_2 _ (List.mem_of_getElem? (i := 151) (by decide +kernel))) rfl
theorem tw_495 : Cond.fieldLink RX5 25 "NoRent$Reader" "start" "[I" ∈ wTab := mw (tt_2 _ (List.mem_of_getElem? (i := 153) (by decide +kernel))) rfl
theorem tw_497 : Cond.fieldLink RX5 28 "NoRent$Reader" "stop" "[I" ∈ wTab := mw (tt_2 _ (List.mem_of_getElem? (i := 155) (by decide +kernel))) rfl
theorem tw_500 : Cond.fieldLink RX5 57 "NoRent$Reader" "written" "I" ∈ wTab := mw (tt_2 _ (List.mem_of_getElem? (i := 158) (by decide +kernel))) rfl
theorem tw_501 : Cond.fieldLink RX5 31 "NoRent$Reader" "op" "[I" ∈ wTab := mw (tt_2 _ (List.mem_of_getElem? (i := 159) (by decide +kernel))) rfl
theorem tw_503 : Cond.fieldLink RX5 34 "NoRent$Reader" "arg" "[I" ∈ wTab := mw (tt_2 _ (List.mem_of_getElem? (i := 161) (by decide +kernel))) rfl
theorem tw_505 : Cond.fieldLink RX5 69 "NoRent$Reader" "tokens" "I" ∈ wTab := mw (tt_2 _ (List.mem_of_getElem? (i := 163) (by decide +kernel))) rfl
theorem tw_506 : Cond.fieldLink RX5 37 "NoRent$Reader" "token" "[I" ∈ wTab := mw (tt_2 _ (List.mem_of_getElem? (i := 164) (by decide +kernel))) rfl
theorem tw_507 : Cond.fieldLink RX5 40 "NoRent$Reader" "place" "[I" ∈ wTab := mw (tt_2 _ (List.mem_of_getElem? (i := 165) (by decide +kernel))) rfl
theorem tw_508 : Cond.fieldLink RX5 43 "NoRent$Reader" "value" "[I" ∈ wTab := mw (tt_2 _ (List.mem_of_getElem? (i := 166) (by decide +kernel))) rfl
theorem tw_509 : Cond.fieldLink RX5 60 "NoRent$Reader" "at" "I" ∈ wTab := mw (tt_2 _ (List.mem_of_getElem? (i := 167) (by decide +kernel))) rfl
theorem tw_510 : Cond.fieldLink RX5 63 "NoRent$Reader" "leaves" "I" ∈ wTab := mw (tt_2 _ (List.mem_of_getElem? (i := 168) (by decide +kernel))) rfl
theorem tw_546 : Cond.fieldLink RX11 12 "NoRent" "county" "LNoRent$County;" ∈ wTab := mw (tt_2 _ (List.mem_of_getElem? (i := 204) (by decide +kernel))) rfl
theorem tw_547 : Cond.fieldLink RX11 18 "NoRent" "paper" "LNoRent$County;" ∈ wTab := mw (tt_2 _ (List.mem_of_getElem? (i := 205) (by decide +kernel))) rfl
theorem tw_548 : Cond.fieldLink RX11 21 "NoRent" "firstImage" "LNoRent$County;" ∈ wTab := mw (tt_2 _ (List.mem_of_getElem? (i := 206) (by decide +kernel))) rfl
theorem tw_549 : Cond.fieldLink RX11 24 "NoRent" "secondImage" "LNoRent$County;" ∈ wTab := mw (tt_2 _ (List.mem_of_getElem? (i := 207) (by decide +kernel))) rfl
theorem tw_550 : Cond.fieldLink RX11 349 "NoRent" "firstKept" "Z" ∈ wTab := mw (tt_2 _ (List.mem_of_getElem? (i := 208) (by decide +kernel))) rfl
theorem tw_551 : Cond.fieldLink RX11 353 "NoRent" "secondKept" "Z" ∈ wTab := mw (tt_2 _ (List.mem_of_getElem? (i := 209) (by decide +kernel))) rfl
theorem tw_552 : Cond.fieldLink RX11 30 "NoRent" "tape" "LNoRent$Tape;" ∈ wTab := mw (tt_2 _ (List.mem_of_getElem? (i := 210) (by decide +kernel))) rfl
theorem tw_553 : Cond.fieldLink RX11 37 "NoRent" "reader" "LNoRent$Reader;" ∈ wTab := mw (tt_2 _ (List.mem_of_getElem? (i := 211) (by decide +kernel))) rfl
theorem tw_554 : Cond.fieldLink RX11 41 "NoRent" "wished" "[I" ∈ wTab := mw (tt_2 _ (List.mem_of_getElem? (i := 212) (by decide +kernel))) rfl
theorem tw_555 : Cond.fieldLink RX11 309 "NoRent" "wishes" "I" ∈ wTab := mw (tt_2 _ (List.mem_of_getElem? (i := 213) (by decide +kernel))) rfl
theorem tw_556 : Cond.fieldLink RX11 45 "NoRent" "cropPrice" "[I" ∈ wTab := mw (tt_2 _ (List.mem_of_getElem? (i := 214) (by decide +kernel))) rfl
theorem tw_557 : Cond.fieldLink RX11 48 "NoRent" "cropSacks" "[I" ∈ wTab := mw (tt_2 _ (List.mem_of_getElem? (i := 215) (by decide +kernel))) rfl
theorem tw_558 : Cond.fieldLink RX11 312 "NoRent" "cropsTold" "I" ∈ wTab := mw (tt_2 _ (List.mem_of_getElem? (i := 216) (by decide +kernel))) rfl
theorem tw_559 : Cond.fieldLink RX11 51 "NoRent" "best" "[I" ∈ wTab := mw (tt_2 _ (List.mem_of_getElem? (i := 217) (by decide +kernel))) rfl
theorem tw_560 : Cond.fieldLink RX11 329 "NoRent" "bestLength" "I" ∈ wTab := mw (tt_2 _ (List.mem_of_getElem? (i := 218) (by decide +kernel))) rfl
theorem tw_561 : Cond.fieldLink RX11 356 "NoRent" "refusal" "I" ∈ wTab := mw (tt_2 _ (List.mem_of_getElem? (i := 219) (by decide +kernel))) rfl
theorem tw_596 : Cond.instanceMethod yX11_person ∈ wTab := mw (tt_3 _ (List.mem_of_getElem? (i := 14) (by decide +kernel))) rfl
theorem tw_597 : Cond.selects RX11 yX11_person yX11_person ∈ wTab := mw (tt_3 _ (List.mem_of_getElem? (i := 15) (by decide +kernel))) rfl
theorem tw_598 : Cond.code yX11_person cX11_person 4 (some .int) ∈ wTab := mw (tt_3 _ (List.mem_of_getElem? (i := 16) (by decide +kernel))) rfl
theorem tw_599 : Cond.methodLink RX11 54 yX11_within ∈ wTab := mw (tt_3 _ (List.mem_of_getElem? (i := 17) (by decide +kernel))) rfl
theorem tw_600 : Cond.static yX11_within ∈ wTab := mw (tt_3 _ (List.mem_of_getElem? (i := 18) (by decide +kernel))) rfl
theorem tw_601 : Cond.code yX11_within cX11_within 3 (some .boolean) ∈ wTab := mw (tt_3 _ (List.mem_of_getElem? (i := 19) (by decide +kernel))) rfl
theorem tw_602 : Cond.constant RX11 58 (1000000) ∈ wTab := mw (tt_3 _ (List.mem_of_getElem? (i := 20) (by decide +kernel))) rfl
theorem tw_603 : Cond.methodLink RX11 59 yX11_refuse ∈ wTab := mw (tt_3 _ (List.mem_of_getElem? (i := 21) (by decide +kernel))) rfl
theorem tw_605 : Cond.instanceMethod yX11_refuse ∈ wTab := mw (tt_3 _ (List.mem_of_getElem? (i := 23) (by decide +kernel))) rfl
theorem tw_606 : Cond.code yX11_refuse cX11_refuse 2 (some .int) ∈ wTab := mw (tt_3 _ (List.mem_of_getElem? (i := 24) (by decide +kernel))) rfl
theorem tw_607 : Cond.methodLink RX11 73 yX4_add ∈ wTab := mw (tt_3 _ (List.mem_of_getElem? (i := 25) (by decide +kernel))) rfl
theorem tw_608 : Cond.instanceMethod yX4_add ∈ wTab := mw (tt_3 _ (List.mem_of_getElem? (i := 26) (by decide +kernel))) rfl
theorem tw_609 : Cond.selects RX4 yX4_add yX4_add ∈ wTab := mw (tt_3 _ (List.mem_of_getElem? (i := 27) (by decide +kernel))) rfl
theorem tw_610 : Cond.code yX4_add cX4_add 5 (some .int) ∈ wTab := mw (tt_3 _ (List.mem_of_getElem? (i := 28) (by decide +kernel))) rfl
theorem tw_611 : Cond.methodLink RX11 77 yX11_accept ∈ wTab := mw (tt_3 _ (List.mem_of_getElem? (i := 29) (by decide +kernel))) rfl
theorem tw_613 : Cond.instanceMethod yX11_accept ∈ wTab := mw (tt_3 _ (List.mem_of_getElem? (i := 31) (by decide +kernel))) rfl
theorem tw_614 : Cond.code yX11_accept cX11_accept 2 (some .int) ∈ wTab := mw (tt_3 _ (List.mem_of_getElem? (i := 32) (by decide +kernel))) rfl
theorem tw_616 : Cond.instanceMethod yX11_heed ∈ wTab := mw (tt_3 _ (List.mem_of_getElem? (i := 34) (by decide +kernel))) rfl
theorem tw_617 : Cond.selects RX11 yX11_heed yX11_heed ∈ wTab := mw (tt_3 _ (List.mem_of_getElem? (i := 35) (by decide +kernel))) rfl
theorem tw_618 : Cond.code yX11_heed cX11_heed 4 (some .int) ∈ wTab := mw (tt_3 _ (List.mem_of_getElem? (i := 36) (by decide +kernel))) rfl
theorem tw_619 : Cond.methodLink RX11 80 yX4_has ∈ wTab := mw (tt_3 _ (List.mem_of_getElem? (i := 37) (by decide +kernel))) rfl
theorem tw_620 : Cond.instanceMethod yX4_has ∈ wTab := mw (tt_3 _ (List.mem_of_getElem? (i := 38) (by decide +kernel))) rfl
theorem tw_621 : Cond.selects RX4 yX4_has yX4_has ∈ wTab := mw (tt_3 _ (List.mem_of_getElem? (i := 39) (by decide +kernel))) rfl
theorem tw_622 : Cond.code yX4_has cX4_has 2 (some .boolean) ∈ wTab := mw (tt_3 _ (List.mem_of_getElem? (i := 40) (by decide +kernel))) rfl
theorem tw_624 : Cond.instanceMethod yX11_goes ∈ wTab := mw (tt_3 _ (List.mem_of_getElem? (i := 42) (by decide +kernel))) rfl
theorem tw_625 : Cond.selects RX11 yX11_goes yX11_goes ∈ wTab := mw (tt_3 _ (List.mem_of_getElem? (i := 43) (by decide +kernel))) rfl
theorem tw_626 : Cond.code yX11_goes cX11_goes 4 (some .int) ∈ wTab := mw (tt_3 _ (List.mem_of_getElem? (i := 44) (by decide +kernel))) rfl
theorem tw_628 : Cond.instanceMethod yX11_coin ∈ wTab := mw (tt_3 _ (List.mem_of_getElem? (i := 46) (by decide +kernel))) rfl
theorem tw_629 : Cond.selects RX11 yX11_coin yX11_coin ∈ wTab := mw (tt_3 _ (List.mem_of_getElem? (i := 47) (by decide +kernel))) rfl
theorem tw_630 : Cond.code yX11_coin cX11_coin 4 (some .int) ∈ wTab := mw (tt_3 _ (List.mem_of_getElem? (i := 48) (by decide +kernel))) rfl
theorem tw_631 : Cond.methodLink RX11 90 yX4_gain ∈ wTab := mw (tt_3 _ (List.mem_of_getElem? (i := 49) (by decide +kernel))) rfl
theorem tw_632 : Cond.instanceMethod yX4_gain ∈ wTab := mw (tt_3 _ (List.mem_of_getElem? (i := 50) (by decide +kernel))) rfl
theorem tw_633 : Cond.selects RX4 yX4_gain yX4_gain ∈ wTab := mw (tt_3 _ (List.mem_of_getElem? (i := 51) (by decide +kernel))) rfl
theorem tw_634 : Cond.code yX4_gain cX4_gain 3 none ∈ wTab := mw (tt_3 _ (List.mem_of_getElem? (i := 52) (by decide +kernel))) rfl
theorem tw_635 : Cond.constant RX4 43 (10000000) ∈ wTab := mw (tt_3 _ (List.mem_of_getElem? (i := 53) (by decide +kernel))) rfl
theorem tw_636 : Cond.methodLink RX4 44 Lib.Math.min.name ∈ wTab := mw (tt_3 _ (List.mem_of_getElem? (i := 54) (by decide +kernel))) rfl
theorem tw_637 : Cond.static Lib.Math.min.name ∈ wTab := mw (tt_3 _ (List.mem_of_getElem? (i := 55) (by decide +kernel))) rfl
theorem tw_638 : Cond.code Lib.Math.min.name Lib.Math.min.code 2 (some .int) ∈ wTab := mw (tt_3 _ (List.mem_of_getElem? (i := 56) (by decide +kernel))) rfl
theorem tw_640 : Cond.instanceMethod yX11_give ∈ wTab := mw (tt_3 _ (List.mem_of_getElem? (i := 58) (by decide +kernel))) rfl
theorem tw_641 : Cond.selects RX11 yX11_give yX11_give ∈ wTab := mw (tt_3 _ (List.mem_of_getElem? (i := 59) (by decide +kernel))) rfl
theorem tw_642 : Cond.code yX11_give cX11_give 3 (some .int) ∈ wTab := mw (tt_3 _ (List.mem_of_getElem? (i := 60) (by decide +kernel))) rfl
theorem tw_643 : Cond.constant RX11 97 (10000000) ∈ wTab := mw (tt_3 _ (List.mem_of_getElem? (i := 61) (by decide +kernel))) rfl
theorem tw_644 : Cond.constant RX11 107 (100000000) ∈ wTab := mw (tt_3 _ (List.mem_of_getElem? (i := 62) (by decide +kernel))) rfl
theorem tw_645 : Cond.methodLink RX11 108 Lib.Math.min.name ∈ wTab := mw (tt_3 _ (List.mem_of_getElem? (i := 63) (by decide +kernel))) rfl
theorem tw_647 : Cond.instanceMethod yX11_estate ∈ wTab := mw (tt_3 _ (List.mem_of_getElem? (i := 65) (by decide +kernel))) rfl
theorem tw_648 : Cond.selects RX11 yX11_estate yX11_estate ∈ wTab := mw (tt_3 _ (List.mem_of_getElem? (i := 66) (by decide +kernel))) rfl
theorem tw_649 : Cond.code yX11_estate cX11_estate 3 (some .int) ∈ wTab := mw (tt_3 _ (List.mem_of_getElem? (i := 67) (by decide +kernel))) rfl
theorem tw_650 : Cond.methodLink RX11 123 yX1_addEstate ∈ wTab := mw (tt_3 _ (List.mem_of_getElem? (i := 68) (by decide +kernel))) rfl
theorem tw_651 : Cond.instanceMethod yX1_addEstate ∈ wTab := mw (tt_3 _ (List.mem_of_getElem? (i := 69) (by decide +kernel))) rfl
theorem tw_652 : Cond.selects RX1 yX1_addEstate yX1_addEstate ∈ wTab := mw (tt_3 _ (List.mem_of_getElem? (i := 70) (by decide +kernel))) rfl
theorem tw_653 : Cond.code yX1_addEstate cX1_addEstate 4 (some .int) ∈ wTab := mw (tt_3 _ (List.mem_of_getElem? (i := 71) (by decide +kernel))) rfl
theorem tw_655 : Cond.instanceMethod yX11_field ∈ wTab := mw (tt_3 _ (List.mem_of_getElem? (i := 73) (by decide +kernel))) rfl
theorem tw_656 : Cond.selects RX11 yX11_field yX11_field ∈ wTab := mw (tt_3 _ (List.mem_of_getElem? (i := 74) (by decide +kernel))) rfl
theorem tw_657 : Cond.code yX11_field cX11_field 7 (some .int) ∈ wTab := mw (tt_3 _ (List.mem_of_getElem? (i := 75) (by decide +kernel))) rfl
theorem tw_658 : Cond.constant RX11 126 (100000) ∈ wTab := mw (tt_3 _ (List.mem_of_getElem? (i := 76) (by decide +kernel))) rfl
theorem tw_659 : Cond.methodLink RX11 127 yX1_hasEstate ∈ wTab := mw (tt_3 _ (List.mem_of_getElem? (i := 77) (by decide +kernel))) rfl
theorem tw_660 : Cond.instanceMethod yX1_hasEstate ∈ wTab := mw (tt_3 _ (List.mem_of_getElem? (i := 78) (by decide +kernel))) rfl
theorem tw_661 : Cond.selects RX1 yX1_hasEstate yX1_hasEstate ∈ wTab := mw (tt_3 _ (List.mem_of_getElem? (i := 79) (by decide +kernel))) rfl
theorem tw_662 : Cond.code yX1_hasEstate cX1_hasEstate 2 (some .boolean) ∈ wTab := mw (tt_3 _ (List.mem_of_getElem? (i := 80) (by decide +kernel))) rfl
theorem tw_663 : Cond.methodLink RX11 131 yX1_addField ∈ wTab := mw (tt_3 _ (List.mem_of_getElem? (i := 81) (by decide +kernel))) rfl
theorem tw_664 : Cond.instanceMethod yX1_addField ∈ wTab := mw (tt_3 _ (List.mem_of_getElem? (i := 82) (by decide +kernel))) rfl
theorem tw_665 : Cond.selects RX1 yX1_addField yX1_addField ∈ wTab := mw (tt_3 _ (List.mem_of_getElem? (i := 83) (by decide +kernel))) rfl
theorem tw_666 : Cond.code yX1_addField cX1_addField 5 (some .int) ∈ wTab := mw (tt_3 _ (List.mem_of_getElem? (i := 84) (by decide +kernel))) rfl
theorem tw_667 : Cond.methodLink RX11 134 yX0_settle ∈ wTab := mw (tt_3 _ (List.mem_of_getElem? (i := 85) (by decide +kernel))) rfl
theorem tw_668 : Cond.instanceMethod yX0_settle ∈ wTab := mw (tt_3 _ (List.mem_of_getElem? (i := 86) (by decide +kernel))) rfl
theorem tw_669 : Cond.selects RX0 yX0_settle yX0_settle ∈ wTab := mw (tt_3 _ (List.mem_of_getElem? (i := 87) (by decide +kernel))) rfl
theorem tw_670 : Cond.code yX0_settle cX0_settle 4 none ∈ wTab := mw (tt_3 _ (List.mem_of_getElem? (i := 88) (by decide +kernel))) rfl
theorem tw_672 : Cond.instanceMethod yX11_of ∈ wTab := mw (tt_3 _ (List.mem_of_getElem? (i := 90) (by decide +kernel))) rfl
theorem tw_673 : Cond.selects RX11 yX11_of yX11_of ∈ wTab := mw (tt_3 _ (List.mem_of_getElem? (i := 91) (by decide +kernel))) rfl
theorem tw_674 : Cond.code yX11_of cX11_of 4 (some .int) ∈ wTab := mw (tt_3 _ (List.mem_of_getElem? (i := 92) (by decide +kernel))) rfl
theorem tw_675 : Cond.methodLink RX11 147 yX4_kinOf ∈ wTab := mw (tt_3 _ (List.mem_of_getElem? (i := 93) (by decide +kernel))) rfl
theorem tw_676 : Cond.instanceMethod yX4_kinOf ∈ wTab := mw (tt_3 _ (List.mem_of_getElem? (i := 94) (by decide +kernel))) rfl
theorem tw_677 : Cond.selects RX4 yX4_kinOf yX4_kinOf ∈ wTab := mw (tt_3 _ (List.mem_of_getElem? (i := 95) (by decide +kernel))) rfl
theorem tw_678 : Cond.code yX4_kinOf cX4_kinOf 4 (some .int) ∈ wTab := mw (tt_3 _ (List.mem_of_getElem? (i := 96) (by decide +kernel))) rfl
theorem tw_680 : Cond.instanceMethod yX11_tells ∈ wTab := mw (tt_3 _ (List.mem_of_getElem? (i := 98) (by decide +kernel))) rfl
theorem tw_681 : Cond.selects RX11 yX11_tells yX11_tells ∈ wTab := mw (tt_3 _ (List.mem_of_getElem? (i := 99) (by decide +kernel))) rfl
theorem tw_682 : Cond.code yX11_tells cX11_tells 4 (some .int) ∈ wTab := mw (tt_3 _ (List.mem_of_getElem? (i := 100) (by decide +kernel))) rfl
theorem tw_683 : Cond.methodLink RX11 150 yX1_has ∈ wTab := mw (tt_3 _ (List.mem_of_getElem? (i := 101) (by decide +kernel))) rfl
theorem tw_684 : Cond.instanceMethod yX1_has ∈ wTab := mw (tt_3 _ (List.mem_of_getElem? (i := 102) (by decide +kernel))) rfl
theorem tw_685 : Cond.selects RX1 yX1_has yX1_has ∈ wTab := mw (tt_3 _ (List.mem_of_getElem? (i := 103) (by decide +kernel))) rfl
theorem tw_686 : Cond.code yX1_has cX1_has 2 (some .boolean) ∈ wTab := mw (tt_3 _ (List.mem_of_getElem? (i := 104) (by decide +kernel))) rfl
theorem tw_687 : Cond.methodLink RX11 151 yX0_lookAtNow ∈ wTab := mw (tt_3 _ (List.mem_of_getElem? (i := 105) (by decide +kernel))) rfl
theorem tw_688 : Cond.instanceMethod yX0_lookAtNow ∈ wTab := mw (tt_3 _ (List.mem_of_getElem? (i := 106) (by decide +kernel))) rfl
theorem tw_689 : Cond.selects RX0 yX0_lookAtNow yX0_lookAtNow ∈ wTab := mw (tt_3 _ (List.mem_of_getElem? (i := 107) (by decide +kernel))) rfl
theorem tw_690 : Cond.code yX0_lookAtNow cX0_lookAtNow 1 none ∈ wTab := mw (tt_3 _ (List.mem_of_getElem? (i := 108) (by decide +kernel))) rfl
theorem tw_691 : Cond.methodLink RX0 113 yX2_mark ∈ wTab := mw (tt_3 _ (List.mem_of_getElem? (i := 109) (by decide +kernel))) rfl
theorem tw_692 : Cond.instanceMethod yX2_mark ∈ wTab := mw (tt_3 _ (List.mem_of_getElem? (i := 110) (by decide +kernel))) rfl
theorem tw_693 : Cond.selects RX2 yX2_mark yX2_mark ∈ wTab := mw (tt_3 _ (List.mem_of_getElem? (i := 111) (by decide +kernel))) rfl
theorem tw_694 : Cond.code yX2_mark cX2_mark 6 none ∈ wTab := mw (tt_3 _ (List.mem_of_getElem? (i := 112) (by decide +kernel))) rfl
theorem tw_695 : Cond.methodLink RX2 31 yJ7_fill_53178 ∈ wTab := mw (tt_3 _ (List.mem_of_getElem? (i := 113) (by decide +kernel))) rfl
theorem tw_696 : Cond.methodLink RX2 43 yX2_isInForce ∈ wTab := mw (tt_3 _ (List.mem_of_getElem? (i := 114) (by decide +kernel))) rfl
theorem tw_697 : Cond.instanceMethod yX2_isInForce ∈ wTab := mw (tt_3 _ (List.mem_of_getElem? (i := 115) (by decide +kernel))) rfl
theorem tw_698 : Cond.selects RX2 yX2_isInForce yX2_isInForce ∈ wTab := mw (tt_3 _ (List.mem_of_getElem? (i := 116) (by decide +kernel))) rfl
theorem tw_699 : Cond.code yX2_isInForce cX2_isInForce 3 (some .boolean) ∈ wTab := mw (tt_3 _ (List.mem_of_getElem? (i := 117) (by decide +kernel))) rfl
theorem tw_700 : Cond.methodLink RX0 117 yX7_priceIn ∈ wTab := mw (tt_3 _ (List.mem_of_getElem? (i := 118) (by decide +kernel))) rfl
theorem tw_701 : Cond.instanceMethod yX7_priceIn ∈ wTab := mw (tt_3 _ (List.mem_of_getElem? (i := 119) (by decide +kernel))) rfl
theorem tw_702 : Cond.selects RX7 yX7_priceIn yX7_priceIn ∈ wTab := mw (tt_3 _ (List.mem_of_getElem? (i := 120) (by decide +kernel))) rfl
theorem tw_703 : Cond.code yX7_priceIn cX7_priceIn 3 (some .int) ∈ wTab := mw (tt_3 _ (List.mem_of_getElem? (i := 121) (by decide +kernel))) rfl
theorem tw_704 : Cond.methodLink RX7 27 Lib.Math.min.name ∈ wTab := mw (tt_3 _ (List.mem_of_getElem? (i := 122) (by decide +kernel))) rfl
theorem tw_705 : Cond.methodLink RX11 163 yX0_fairOf ∈ wTab := mw (tt_3 _ (List.mem_of_getElem? (i := 123) (by decide +kernel))) rfl
theorem tw_706 : Cond.instanceMethod yX0_fairOf ∈ wTab := mw (tt_3 _ (List.mem_of_getElem? (i := 124) (by decide +kernel))) rfl
theorem tw_707 : Cond.selects RX0 yX0_fairOf yX0_fairOf ∈ wTab := mw (tt_3 _ (List.mem_of_getElem? (i := 125) (by decide +kernel))) rfl
theorem tw_708 : Cond.code yX0_fairOf cX0_fairOf 8 (some .int) ∈ wTab := mw (tt_3 _ (List.mem_of_getElem? (i := 126) (by decide +kernel))) rfl
theorem tw_709 : Cond.methodLink RX0 185 yX1_rentOf ∈ wTab := mw (tt_3 _ (List.mem_of_getElem? (i := 127) (by decide +kernel))) rfl
theorem tw_710 : Cond.instanceMethod yX1_rentOf ∈ wTab := mw (tt_3 _ (List.mem_of_getElem? (i := 128) (by decide +kernel))) rfl
theorem tw_711 : Cond.selects RX1 yX1_rentOf yX1_rentOf ∈ wTab := mw (tt_3 _ (List.mem_of_getElem? (i := 129) (by decide +kernel))) rfl
theorem tw_712 : Cond.code yX1_rentOf cX1_rentOf 2 (some .int) ∈ wTab := mw (tt_3 _ (List.mem_of_getElem? (i := 130) (by decide +kernel))) rfl
theorem tw_713 : Cond.methodLink RX1 52 Lib.Math.max.name ∈ wTab := mw (tt_3 _ (List.mem_of_getElem? (i := 131) (by decide +kernel))) rfl
theorem tw_714 : Cond.static Lib.Math.max.name ∈ wTab := mw (tt_3 _ (List.mem_of_getElem? (i := 132) (by decide +kernel))) rfl
theorem tw_715 : Cond.code Lib.Math.max.name Lib.Math.max.code 2 (some .int) ∈ wTab := mw (tt_3 _ (List.mem_of_getElem? (i := 133) (by decide +kernel))) rfl
theorem tw_716 : Cond.methodLink RX0 299 yX2_isInForce ∈ wTab := mw (tt_3 _ (List.mem_of_getElem? (i := 134) (by decide +kernel))) rfl
theorem tw_717 : Cond.methodLink RX0 302 yX0_ask ∈ wTab := mw (tt_3 _ (List.mem_of_getElem? (i := 135) (by decide +kernel))) rfl
theorem tw_719 : Cond.instanceMethod yX0_ask ∈ wTab := mw (tt_3 _ (List.mem_of_getElem? (i := 137) (by decide +kernel))) rfl
theorem tw_720 : Cond.code yX0_ask cX0_ask 12 (some .long) ∈ wTab := mw (tt_3 _ (List.mem_of_getElem? (i := 138) (by decide +kernel))) rfl
theorem tw_721 : Cond.constantLong RX0 306 (-4000000000000000000) ∈ wTab := mw (tt_3 _ (List.mem_of_getElem? (i := 139) (by decide +kernel))) rfl
theorem tw_722 : Cond.methodLink RX0 326 yX0_wordOf ∈ wTab := mw (tt_3 _ (List.mem_of_getElem? (i := 140) (by decide +kernel))) rfl
theorem tw_724 : Cond.instanceMethod yX0_wordOf ∈ wTab := mw (tt_3 _ (List.mem_of_getElem? (i := 142) (by decide +kernel))) rfl
theorem tw_725 : Cond.code yX0_wordOf cX0_wordOf 4 (some .int) ∈ wTab := mw (tt_3 _ (List.mem_of_getElem? (i := 143) (by decide +kernel))) rfl
theorem tw_726 : Cond.methodLink RX0 338 yX4_has ∈ wTab := mw (tt_3 _ (List.mem_of_getElem? (i := 144) (by decide +kernel))) rfl
theorem tw_727 : Cond.methodLink RX0 341 yX1_has ∈ wTab := mw (tt_3 _ (List.mem_of_getElem? (i := 145) (by decide +kernel))) rfl
theorem tw_728 : Cond.methodLink RX0 259 yX1_isHeldBy ∈ wTab := mw (tt_3 _ (List.mem_of_getElem? (i := 146) (by decide +kernel))) rfl
theorem tw_729 : Cond.instanceMethod yX1_isHeldBy ∈ wTab := mw (tt_3 _ (List.mem_of_getElem? (i := 147) (by decide +kernel))) rfl
theorem tw_730 : Cond.selects RX1 yX1_isHeldBy yX1_isHeldBy ∈ wTab := mw (tt_3 _ (List.mem_of_getElem? (i := 148) (by decide +kernel))) rfl
theorem tw_731 : Cond.code yX1_isHeldBy cX1_isHeldBy 3 (some .boolean) ∈ wTab := mw (tt_3 _ (List.mem_of_getElem? (i := 149) (by decide +kernel))) rfl
theorem tw_732 : Cond.methodLink RX0 345 yX1_isGrabbedBy ∈ wTab := mw (tt_3 _ (List.mem_of_getElem? (i := 150) (by decide +kernel))) rfl
theorem tw_733 : Cond.instanceMethod yX1_isGrabbedBy ∈ wTab := mw (tt_3 _ (List.mem_of_getElem? (i := 151) (by decide +kernel))) rfl
theorem tw_734 : Cond.selects RX1 yX1_isGrabbedBy yX1_isGrabbedBy ∈ wTab := mw (tt_3 _ (List.mem_of_getElem? (i := 152) (by decide +kernel))) rfl
theorem tw_735 : Cond.code yX1_isGrabbedBy cX1_isGrabbedBy 3 (some .boolean) ∈ wTab := mw (tt_3 _ (List.mem_of_getElem? (i := 153) (by decide +kernel))) rfl
theorem tw_736 : Cond.methodLink RX0 354 yX4_kinOf ∈ wTab := mw (tt_3 _ (List.mem_of_getElem? (i := 154) (by decide +kernel))) rfl
theorem tw_737 : Cond.methodLink RX0 330 yX0_join ∈ wTab := mw (tt_3 _ (List.mem_of_getElem? (i := 155) (by decide +kernel))) rfl
theorem tw_738 : Cond.static yX0_join ∈ wTab := mw (tt_3 _ (List.mem_of_getElem? (i := 156) (by decide +kernel))) rfl
theorem tw_739 : Cond.code yX0_join cX0_join 7 (some .long) ∈ wTab := mw (tt_3 _ (List.mem_of_getElem? (i := 157) (by decide +kernel))) rfl
theorem tw_740 : Cond.constantLong RX0 334 (-1000000000) ∈ wTab := mw (tt_3 _ (List.mem_of_getElem? (i := 158) (by decide +kernel))) rfl
theorem tw_741 : Cond.constantLong RX0 336 (1000000000) ∈ wTab := mw (tt_3 _ (List.mem_of_getElem? (i := 159) (by decide +kernel))) rfl
theorem tw_742 : Cond.methodLink RX0 308 Lib.MathLoose.min_long.x ∈ wTab := mw (tt_3 _ (List.mem_of_getElem? (i := 160) (by decide +kernel))) rfl
theorem tw_743 : Cond.static Lib.MathLoose.min_long.x ∈ wTab := mw (tt_3 _ (List.mem_of_getElem? (i := 161) (by decide +kernel))) rfl
theorem tw_744 : Cond.code Lib.MathLoose.min_long.x Lib.MathLoose.min_long.code 4 (some .long) ∈ wTab := mw (tt_3 _ (List.mem_of_getElem? (i := 162) (by decide +kernel))) rfl
theorem tw_745 : Cond.methodLink RX0 311 Lib.MathLoose.max_long.x ∈ wTab := mw (tt_3 _ (List.mem_of_getElem? (i := 163) (by decide +kernel))) rfl
theorem tw_746 : Cond.static Lib.MathLoose.max_long.x ∈ wTab := mw (tt_3 _ (List.mem_of_getElem? (i := 164) (by decide +kernel))) rfl
theorem tw_747 : Cond.code Lib.MathLoose.max_long.x Lib.MathLoose.max_long.code 4 (some .long) ∈ wTab := mw (tt_3 _ (List.mem_of_getElem? (i := 165) (by decide +kernel))) rfl
theorem tw_748 : Cond.methodLink RX11 166 yX0_keepsFor ∈ wTab := mw (tt_3 _ (List.mem_of_getElem? (i := 166) (by decide +kernel))) rfl
theorem tw_749 : Cond.instanceMethod yX0_keepsFor ∈ wTab := mw (tt_3 _ (List.mem_of_getElem? (i := 167) (by decide +kernel))) rfl
theorem tw_750 : Cond.selects RX0 yX0_keepsFor yX0_keepsFor ∈ wTab := mw (tt_3 _ (List.mem_of_getElem? (i := 168) (by decide +kernel))) rfl
theorem tw_751 : Cond.code yX0_keepsFor cX0_keepsFor 3 (some .boolean) ∈ wTab := mw (tt_3 _ (List.mem_of_getElem? (i := 169) (by decide +kernel))) rfl
theorem tw_752 : Cond.methodLink RX0 191 yX0_anyHolds ∈ wTab := mw (tt_3 _ (List.mem_of_getElem? (i := 170) (by decide +kernel))) rfl
theorem tw_753 : Cond.instanceMethod yX0_anyHolds ∈ wTab := mw (tt_3 _ (List.mem_of_getElem? (i := 171) (by decide +kernel))) rfl
theorem tw_754 : Cond.selects RX0 yX0_anyHolds yX0_anyHolds ∈ wTab := mw (tt_3 _ (List.mem_of_getElem? (i := 172) (by decide +kernel))) rfl
theorem tw_755 : Cond.code yX0_anyHolds cX0_anyHolds 7 (some .boolean) ∈ wTab := mw (tt_3 _ (List.mem_of_getElem? (i := 173) (by decide +kernel))) rfl
theorem tw_756 : Cond.methodLink RX11 174 yX10_stepOf ∈ wTab := mw (tt_3 _ (List.mem_of_getElem? (i := 174) (by decide +kernel))) rfl
theorem tw_757 : Cond.instanceMethod yX10_stepOf ∈ wTab := mw (tt_3 _ (List.mem_of_getElem? (i := 175) (by decide +kernel))) rfl
theorem tw_758 : Cond.selects RX10 yX10_stepOf yX10_stepOf ∈ wTab := mw (tt_3 _ (List.mem_of_getElem? (i := 176) (by decide +kernel))) rfl
theorem tw_759 : Cond.code yX10_stepOf cX10_stepOf 3 (some .int) ∈ wTab := mw (tt_3 _ (List.mem_of_getElem? (i := 177) (by decide +kernel))) rfl
theorem tw_760 : Cond.methodLink RX10 46 yX10_openOn ∈ wTab := mw (tt_3 _ (List.mem_of_getElem? (i := 178) (by decide +kernel))) rfl
theorem tw_761 : Cond.instanceMethod yX10_openOn ∈ wTab := mw (tt_3 _ (List.mem_of_getElem? (i := 179) (by decide +kernel))) rfl
theorem tw_762 : Cond.selects RX10 yX10_openOn yX10_openOn ∈ wTab := mw (tt_3 _ (List.mem_of_getElem? (i := 180) (by decide +kernel))) rfl
theorem tw_763 : Cond.code yX10_openOn cX10_openOn 3 (some .int) ∈ wTab := mw (tt_3 _ (List.mem_of_getElem? (i := 181) (by decide +kernel))) rfl
theorem tw_764 : Cond.methodLink RX11 179 yX10_leftOf ∈ wTab := mw (tt_3 _ (List.mem_of_getElem? (i := 182) (by decide +kernel))) rfl
theorem tw_765 : Cond.instanceMethod yX10_leftOf ∈ wTab := mw (tt_3 _ (List.mem_of_getElem? (i := 183) (by decide +kernel))) rfl
theorem tw_766 : Cond.selects RX10 yX10_leftOf yX10_leftOf ∈ wTab := mw (tt_3 _ (List.mem_of_getElem? (i := 184) (by decide +kernel))) rfl
theorem tw_767 : Cond.code yX10_leftOf cX10_leftOf 3 (some .int) ∈ wTab := mw (tt_3 _ (List.mem_of_getElem? (i := 185) (by decide +kernel))) rfl
theorem tw_769 : Cond.instanceMethod yX11_owner ∈ wTab := mw (tt_3 _ (List.mem_of_getElem? (i := 187) (by decide +kernel))) rfl
theorem tw_770 : Cond.selects RX11 yX11_owner yX11_owner ∈ wTab := mw (tt_3 _ (List.mem_of_getElem? (i := 188) (by decide +kernel))) rfl
theorem tw_771 : Cond.code yX11_owner cX11_owner 4 (some .int) ∈ wTab := mw (tt_3 _ (List.mem_of_getElem? (i := 189) (by decide +kernel))) rfl
theorem tw_773 : Cond.instanceMethod yX11_fund ∈ wTab := mw (tt_3 _ (List.mem_of_getElem? (i := 191) (by decide +kernel))) rfl
theorem tw_774 : Cond.selects RX11 yX11_fund yX11_fund ∈ wTab := mw (tt_3 _ (List.mem_of_getElem? (i := 192) (by decide +kernel))) rfl
theorem tw_775 : Cond.code yX11_fund cX11_fund 1 (some .int) ∈ wTab := mw (tt_3 _ (List.mem_of_getElem? (i := 193) (by decide +kernel))) rfl
theorem tw_777 : Cond.instanceMethod yX11_price ∈ wTab := mw (tt_3 _ (List.mem_of_getElem? (i := 195) (by decide +kernel))) rfl
theorem tw_778 : Cond.selects RX11 yX11_price yX11_price ∈ wTab := mw (tt_3 _ (List.mem_of_getElem? (i := 196) (by decide +kernel))) rfl
theorem tw_779 : Cond.code yX11_price cX11_price 3 (some .int) ∈ wTab := mw (tt_3 _ (List.mem_of_getElem? (i := 197) (by decide +kernel))) rfl
theorem tw_780 : Cond.methodLink RX11 191 yX11_isWeek ∈ wTab := mw (tt_3 _ (List.mem_of_getElem? (i := 198) (by decide +kernel))) rfl
theorem tw_781 : Cond.static yX11_isWeek ∈ wTab := mw (tt_3 _ (List.mem_of_getElem? (i := 199) (by decide +kernel))) rfl
theorem tw_782 : Cond.code yX11_isWeek cX11_isWeek 1 (some .boolean) ∈ wTab := mw (tt_3 _ (List.mem_of_getElem? (i := 200) (by decide +kernel))) rfl
theorem tw_784 : Cond.instanceMethod yX11_row ∈ wTab := mw (tt_3 _ (List.mem_of_getElem? (i := 202) (by decide +kernel))) rfl
theorem tw_785 : Cond.selects RX11 yX11_row yX11_row ∈ wTab := mw (tt_3 _ (List.mem_of_getElem? (i := 203) (by decide +kernel))) rfl
theorem tw_786 : Cond.code yX11_row cX11_row 5 (some .int) ∈ wTab := mw (tt_3 _ (List.mem_of_getElem? (i := 204) (by decide +kernel))) rfl
theorem tw_787 : Cond.methodLink RX11 203 yX11_whyNoRow ∈ wTab := mw (tt_3 _ (List.mem_of_getElem? (i := 205) (by decide +kernel))) rfl
theorem tw_789 : Cond.instanceMethod yX11_whyNoRow ∈ wTab := mw (tt_3 _ (List.mem_of_getElem? (i := 207) (by decide +kernel))) rfl
theorem tw_790 : Cond.code yX11_whyNoRow cX11_whyNoRow 4 (some .int) ∈ wTab := mw (tt_3 _ (List.mem_of_getElem? (i := 208) (by decide +kernel))) rfl
theorem tw_791 : Cond.methodLink RX11 363 yX8_floats ∈ wTab := mw (tt_3 _ (List.mem_of_getElem? (i := 209) (by decide +kernel))) rfl
theorem tw_792 : Cond.instanceMethod yX8_floats ∈ wTab := mw (tt_3 _ (List.mem_of_getElem? (i := 210) (by decide +kernel))) rfl
theorem tw_793 : Cond.selects RX8 yX8_floats yX8_floats ∈ wTab := mw (tt_3 _ (List.mem_of_getElem? (i := 211) (by decide +kernel))) rfl
theorem tw_794 : Cond.code yX8_floats cX8_floats 1 (some .int) ∈ wTab := mw (tt_3 _ (List.mem_of_getElem? (i := 212) (by decide +kernel))) rfl
theorem tw_795 : Cond.methodLink RX11 206 yX11_keepRow ∈ wTab := mw (tt_3 _ (List.mem_of_getElem? (i := 213) (by decide +kernel))) rfl
theorem tw_797 : Cond.instanceMethod yX11_keepRow ∈ wTab := mw (tt_3 _ (List.mem_of_getElem? (i := 215) (by decide +kernel))) rfl
theorem tw_798 : Cond.code yX11_keepRow cX11_keepRow 6 (some .int) ∈ wTab := mw (tt_3 _ (List.mem_of_getElem? (i := 216) (by decide +kernel))) rfl
theorem tw_801 : Cond.methodLink RX11 368 yX8_readNumbers ∈ wTab := mw (tt_3 _ (List.mem_of_getElem? (i := 219) (by decide +kernel))) rfl
theorem tw_802 : Cond.instanceMethod yX8_readNumbers ∈ wTab := mw (tt_3 _ (List.mem_of_getElem? (i := 220) (by decide +kernel))) rfl
theorem tw_803 : Cond.selects RX8 yX8_readNumbers yX8_readNumbers ∈ wTab := mw (tt_3 _ (List.mem_of_getElem? (i := 221) (by decide +kernel))) rfl
theorem tw_804 : Cond.code yX8_readNumbers cX8_readNumbers 3 (some .int) ∈ wTab := mw (tt_3 _ (List.mem_of_getElem? (i := 222) (by decide +kernel))) rfl
theorem tw_805 : Cond.methodLink RX8 23 Lib.Math.min.name ∈ wTab := mw (tt_3 _ (List.mem_of_getElem? (i := 223) (by decide +kernel))) rfl
theorem tw_806 : Cond.methodLink RX8 32 yX8_valueOf ∈ wTab := mw (tt_3 _ (List.mem_of_getElem? (i := 224) (by decide +kernel))) rfl
theorem tw_807 : Cond.static yX8_valueOf ∈ wTab := mw (tt_3 _ (List.mem_of_getElem? (i := 225) (by decide +kernel))) rfl
theorem tw_808 : Cond.code yX8_valueOf cX8_valueOf 7 (some .double) ∈ wTab := mw (tt_3 _ (List.mem_of_getElem? (i := 226) (by decide +kernel))) rfl
theorem tw_809 : Cond.constant RX8 44 (8388607) ∈ wTab := mw (tt_3 _ (List.mem_of_getElem? (i := 227) (by decide +kernel))) rfl
theorem tw_811 : Cond.constant RX8 45 (8388608) ∈ wTab := mw (tt_3 _ (List.mem_of_getElem? (i := 229) (by decide +kernel))) rfl
theorem tw_812 : Cond.methodLink RX8 46 Lib.Math.max.name ∈ wTab := mw (tt_3 _ (List.mem_of_getElem? (i := 230) (by decide +kernel))) rfl
theorem tw_815 : Cond.methodLink RX11 371 yX6_init ∈ wTab := mw (tt_3 _ (List.mem_of_getElem? (i := 233) (by decide +kernel))) rfl
theorem tw_821 : Cond.fieldLink RX7 33 "NoRent$Row" "from" "I" ∈ wTab := mw (tt_3 _ (List.mem_of_getElem? (i := 239) (by decide +kernel))) rfl
theorem tw_823 : Cond.fieldLink RX7 37 "NoRent$Row" "sacks" "[I" ∈ wTab := mw (tt_4 _ (List.mem_of_getElem? (i := 1) (by decide +kernel))) rfl
theorem tw_824 : Cond.fieldLink RX11 373 "NoRent$Row" "sacks" "[I" ∈ wTab := mw (tt_4 _ (List.mem_of_getElem? (i := 2) (by decide +kernel))) rfl
theorem tw_830 : Cond.methodLink RX11 374 yX8_numberOf ∈ wTab := mw (tt_4 _ (List.mem_of_getElem? (i := 8) (by decide +kernel))) rfl
theorem tw_831 : Cond.instanceMethod yX8_numberOf ∈ wTab := mw (tt_4 _ (List.mem_of_getElem? (i := 9) (by decide +kernel))) rfl
theorem tw_832 : Cond.selects RX8 yX8_numberOf yX8_numberOf ∈ wTab := mw (tt_4 _ (List.mem_of_getElem? (i := 10) (by decide +kernel))) rfl
theorem tw_833 : Cond.code yX8_numberOf cX8_numberOf 6 (some .double) ∈ wTab := mw (tt_4 _ (List.mem_of_getElem? (i := 11) (by decide +kernel))) rfl
theorem tw_834 : Cond.methodLink RX8 36 yX8_nearest ∈ wTab := mw (tt_4 _ (List.mem_of_getElem? (i := 12) (by decide +kernel))) rfl
theorem tw_836 : Cond.instanceMethod yX8_nearest ∈ wTab := mw (tt_4 _ (List.mem_of_getElem? (i := 14) (by decide +kernel))) rfl
theorem tw_837 : Cond.code yX8_nearest cX8_nearest 4 (some .double) ∈ wTab := mw (tt_4 _ (List.mem_of_getElem? (i := 15) (by decide +kernel))) rfl
theorem tw_840 : Cond.instanceMethod yX11_crop ∈ wTab := mw (tt_4 _ (List.mem_of_getElem? (i := 18) (by decide +kernel))) rfl
theorem tw_841 : Cond.selects RX11 yX11_crop yX11_crop ∈ wTab := mw (tt_4 _ (List.mem_of_getElem? (i := 19) (by decide +kernel))) rfl
theorem tw_842 : Cond.code yX11_crop cX11_crop 3 (some .int) ∈ wTab := mw (tt_4 _ (List.mem_of_getElem? (i := 20) (by decide +kernel))) rfl
theorem tw_843 : Cond.methodLink RX11 212 yX7_sacksOf ∈ wTab := mw (tt_4 _ (List.mem_of_getElem? (i := 21) (by decide +kernel))) rfl
theorem tw_844 : Cond.instanceMethod yX7_sacksOf ∈ wTab := mw (tt_4 _ (List.mem_of_getElem? (i := 22) (by decide +kernel))) rfl
theorem tw_845 : Cond.selects RX7 yX7_sacksOf yX7_sacksOf ∈ wTab := mw (tt_4 _ (List.mem_of_getElem? (i := 23) (by decide +kernel))) rfl
theorem tw_846 : Cond.code yX7_sacksOf cX7_sacksOf 4 (some .int) ∈ wTab := mw (tt_4 _ (List.mem_of_getElem? (i := 24) (by decide +kernel))) rfl
theorem tw_848 : Cond.instanceMethod yX11_feed ∈ wTab := mw (tt_4 _ (List.mem_of_getElem? (i := 26) (by decide +kernel))) rfl
theorem tw_849 : Cond.selects RX11 yX11_feed yX11_feed ∈ wTab := mw (tt_4 _ (List.mem_of_getElem? (i := 27) (by decide +kernel))) rfl
theorem tw_850 : Cond.code yX11_feed cX11_feed 6 (some .int) ∈ wTab := mw (tt_4 _ (List.mem_of_getElem? (i := 28) (by decide +kernel))) rfl
theorem tw_851 : Cond.methodLink RX11 215 yX8_append ∈ wTab := mw (tt_4 _ (List.mem_of_getElem? (i := 29) (by decide +kernel))) rfl
theorem tw_852 : Cond.instanceMethod yX8_append ∈ wTab := mw (tt_4 _ (List.mem_of_getElem? (i := 30) (by decide +kernel))) rfl
theorem tw_853 : Cond.selects RX8 yX8_append yX8_append ∈ wTab := mw (tt_4 _ (List.mem_of_getElem? (i := 31) (by decide +kernel))) rfl
theorem tw_854 : Cond.code yX8_append cX8_append 3 none ∈ wTab := mw (tt_4 _ (List.mem_of_getElem? (i := 32) (by decide +kernel))) rfl
theorem tw_856 : Cond.instanceMethod yX11_end ∈ wTab := mw (tt_4 _ (List.mem_of_getElem? (i := 34) (by decide +kernel))) rfl
theorem tw_857 : Cond.selects RX11 yX11_end yX11_end ∈ wTab := mw (tt_4 _ (List.mem_of_getElem? (i := 35) (by decide +kernel))) rfl
theorem tw_858 : Cond.code yX11_end cX11_end 2 (some .int) ∈ wTab := mw (tt_4 _ (List.mem_of_getElem? (i := 36) (by decide +kernel))) rfl
theorem tw_860 : Cond.instanceMethod yX11_text ∈ wTab := mw (tt_4 _ (List.mem_of_getElem? (i := 38) (by decide +kernel))) rfl
theorem tw_861 : Cond.selects RX11 yX11_text yX11_text ∈ wTab := mw (tt_4 _ (List.mem_of_getElem? (i := 39) (by decide +kernel))) rfl
theorem tw_862 : Cond.code yX11_text cX11_text 3 (some .int) ∈ wTab := mw (tt_4 _ (List.mem_of_getElem? (i := 40) (by decide +kernel))) rfl
theorem tw_863 : Cond.methodLink RX11 226 yX5_read ∈ wTab := mw (tt_4 _ (List.mem_of_getElem? (i := 41) (by decide +kernel))) rfl
theorem tw_864 : Cond.instanceMethod yX5_read ∈ wTab := mw (tt_4 _ (List.mem_of_getElem? (i := 42) (by decide +kernel))) rfl
theorem tw_865 : Cond.selects RX5 yX5_read yX5_read ∈ wTab := mw (tt_4 _ (List.mem_of_getElem? (i := 43) (by decide +kernel))) rfl
theorem tw_866 : Cond.code yX5_read cX5_read 4 (some (.object "NoRent$Text")) ∈ wTab := mw (tt_4 _ (List.mem_of_getElem? (i := 44) (by decide +kernel))) rfl
theorem tw_867 : Cond.methodLink RX5 46 yX5_split ∈ wTab := mw (tt_4 _ (List.mem_of_getElem? (i := 45) (by decide +kernel))) rfl
theorem tw_869 : Cond.instanceMethod yX5_split ∈ wTab := mw (tt_4 _ (List.mem_of_getElem? (i := 47) (by decide +kernel))) rfl
theorem tw_870 : Cond.code yX5_split cX5_split 5 none ∈ wTab := mw (tt_4 _ (List.mem_of_getElem? (i := 48) (by decide +kernel))) rfl
theorem tw_871 : Cond.methodLink RX5 88 yX5_endOfRun ∈ wTab := mw (tt_4 _ (List.mem_of_getElem? (i := 49) (by decide +kernel))) rfl
theorem tw_872 : Cond.static yX5_endOfRun ∈ wTab := mw (tt_4 _ (List.mem_of_getElem? (i := 50) (by decide +kernel))) rfl
theorem tw_873 : Cond.code yX5_endOfRun cX5_endOfRun 4 (some .int) ∈ wTab := mw (tt_4 _ (List.mem_of_getElem? (i := 51) (by decide +kernel))) rfl
theorem tw_874 : Cond.methodLink RX5 92 yX5_isDigit ∈ wTab := mw (tt_4 _ (List.mem_of_getElem? (i := 52) (by decide +kernel))) rfl
theorem tw_875 : Cond.static yX5_isDigit ∈ wTab := mw (tt_4 _ (List.mem_of_getElem? (i := 53) (by decide +kernel))) rfl
theorem tw_876 : Cond.code yX5_isDigit cX5_isDigit 1 (some .boolean) ∈ wTab := mw (tt_4 _ (List.mem_of_getElem? (i := 54) (by decide +kernel))) rfl
theorem tw_877 : Cond.methodLink RX5 100 yX5_isLetter ∈ wTab := mw (tt_4 _ (List.mem_of_getElem? (i := 55) (by decide +kernel))) rfl
theorem tw_878 : Cond.static yX5_isLetter ∈ wTab := mw (tt_4 _ (List.mem_of_getElem? (i := 56) (by decide +kernel))) rfl
theorem tw_879 : Cond.code yX5_isLetter cX5_isLetter 1 (some .boolean) ∈ wTab := mw (tt_4 _ (List.mem_of_getElem? (i := 57) (by decide +kernel))) rfl
theorem tw_880 : Cond.methodLink RX5 96 yX5_numberIn ∈ wTab := mw (tt_4 _ (List.mem_of_getElem? (i := 58) (by decide +kernel))) rfl
theorem tw_881 : Cond.static yX5_numberIn ∈ wTab := mw (tt_4 _ (List.mem_of_getElem? (i := 59) (by decide +kernel))) rfl
theorem tw_882 : Cond.code yX5_numberIn cX5_numberIn 5 (some .int) ∈ wTab := mw (tt_4 _ (List.mem_of_getElem? (i := 60) (by decide +kernel))) rfl
theorem tw_883 : Cond.constant RX5 106 (100001) ∈ wTab := mw (tt_4 _ (List.mem_of_getElem? (i := 61) (by decide +kernel))) rfl
theorem tw_884 : Cond.methodLink RX5 107 Lib.Math.min.name ∈ wTab := mw (tt_4 _ (List.mem_of_getElem? (i := 62) (by decide +kernel))) rfl
theorem tw_885 : Cond.methodLink RX5 103 yX5_wordIn ∈ wTab := mw (tt_4 _ (List.mem_of_getElem? (i := 63) (by decide +kernel))) rfl
theorem tw_886 : Cond.static yX5_wordIn ∈ wTab := mw (tt_4 _ (List.mem_of_getElem? (i := 64) (by decide +kernel))) rfl
theorem tw_887 : Cond.code yX5_wordIn cX5_wordIn 9 (some .int) ∈ wTab := mw (tt_4 _ (List.mem_of_getElem? (i := 65) (by decide +kernel))) rfl
theorem tw_889 : Cond.methodLink RX5 115 yJ0_length_8abf5 ∈ wTab := mw (tt_4 _ (List.mem_of_getElem? (i := 67) (by decide +kernel))) rfl
theorem tw_899 : Cond.methodLink RX5 120 yJ0_charAt_5068e ∈ wTab := mw (tt_4 _ (List.mem_of_getElem? (i := 77) (by decide +kernel))) rfl
theorem tw_937 : Cond.methodLink RX5 66 yX5_readClause ∈ wTab := mw (tt_4 _ (List.mem_of_getElem? (i := 115) (by decide +kernel))) rfl
theorem tw_939 : Cond.instanceMethod yX5_readClause ∈ wTab := mw (tt_4 _ (List.mem_of_getElem? (i := 117) (by decide +kernel))) rfl
theorem tw_940 : Cond.code yX5_readClause cX5_readClause 4 none ∈ wTab := mw (tt_4 _ (List.mem_of_getElem? (i := 118) (by decide +kernel))) rfl
theorem tw_941 : Cond.methodLink RX5 72 yX5_fail ∈ wTab := mw (tt_4 _ (List.mem_of_getElem? (i := 119) (by decide +kernel))) rfl
theorem tw_943 : Cond.instanceMethod yX5_fail ∈ wTab := mw (tt_4 _ (List.mem_of_getElem? (i := 121) (by decide +kernel))) rfl
theorem tw_944 : Cond.code yX5_fail cX5_fail 1 none ∈ wTab := mw (tt_4 _ (List.mem_of_getElem? (i := 122) (by decide +kernel))) rfl
theorem tw_945 : Cond.methodLink RX5 124 yX5_readNumber ∈ wTab := mw (tt_4 _ (List.mem_of_getElem? (i := 123) (by decide +kernel))) rfl
theorem tw_947 : Cond.instanceMethod yX5_readNumber ∈ wTab := mw (tt_4 _ (List.mem_of_getElem? (i := 125) (by decide +kernel))) rfl
theorem tw_948 : Cond.code yX5_readNumber cX5_readNumber 3 (some .int) ∈ wTab := mw (tt_4 _ (List.mem_of_getElem? (i := 126) (by decide +kernel))) rfl
theorem tw_949 : Cond.methodLink RX5 127 yX5_expect ∈ wTab := mw (tt_4 _ (List.mem_of_getElem? (i := 127) (by decide +kernel))) rfl
theorem tw_951 : Cond.instanceMethod yX5_expect ∈ wTab := mw (tt_4 _ (List.mem_of_getElem? (i := 129) (by decide +kernel))) rfl
theorem tw_952 : Cond.code yX5_expect cX5_expect 2 none ∈ wTab := mw (tt_4 _ (List.mem_of_getElem? (i := 130) (by decide +kernel))) rfl
theorem tw_953 : Cond.methodLink RX5 131 yX5_readSum ∈ wTab := mw (tt_4 _ (List.mem_of_getElem? (i := 131) (by decide +kernel))) rfl
theorem tw_955 : Cond.instanceMethod yX5_readSum ∈ wTab := mw (tt_4 _ (List.mem_of_getElem? (i := 133) (by decide +kernel))) rfl
theorem tw_956 : Cond.code yX5_readSum cX5_readSum 5 none ∈ wTab := mw (tt_4 _ (List.mem_of_getElem? (i := 134) (by decide +kernel))) rfl
theorem tw_957 : Cond.methodLink RX5 150 yX5_readPart ∈ wTab := mw (tt_4 _ (List.mem_of_getElem? (i := 135) (by decide +kernel))) rfl
theorem tw_959 : Cond.instanceMethod yX5_readPart ∈ wTab := mw (tt_4 _ (List.mem_of_getElem? (i := 137) (by decide +kernel))) rfl
theorem tw_960 : Cond.code yX5_readPart cX5_readPart 4 none ∈ wTab := mw (tt_4 _ (List.mem_of_getElem? (i := 138) (by decide +kernel))) rfl
theorem tw_961 : Cond.constant RX5 156 (100000) ∈ wTab := mw (tt_4 _ (List.mem_of_getElem? (i := 139) (by decide +kernel))) rfl
theorem tw_962 : Cond.methodLink RX5 147 yX5_takeLeaf ∈ wTab := mw (tt_4 _ (List.mem_of_getElem? (i := 140) (by decide +kernel))) rfl
theorem tw_964 : Cond.instanceMethod yX5_takeLeaf ∈ wTab := mw (tt_4 _ (List.mem_of_getElem? (i := 142) (by decide +kernel))) rfl
theorem tw_965 : Cond.code yX5_takeLeaf cX5_takeLeaf 1 none ∈ wTab := mw (tt_4 _ (List.mem_of_getElem? (i := 143) (by decide +kernel))) rfl
theorem tw_966 : Cond.methodLink RX5 153 yX5_isSign ∈ wTab := mw (tt_4 _ (List.mem_of_getElem? (i := 144) (by decide +kernel))) rfl
theorem tw_967 : Cond.static yX5_isSign ∈ wTab := mw (tt_4 _ (List.mem_of_getElem? (i := 145) (by decide +kernel))) rfl
theorem tw_968 : Cond.code yX5_isSign cX5_isSign 1 (some .boolean) ∈ wTab := mw (tt_4 _ (List.mem_of_getElem? (i := 146) (by decide +kernel))) rfl
theorem tw_969 : Cond.methodLink RX5 134 yX5_write ∈ wTab := mw (tt_4 _ (List.mem_of_getElem? (i := 147) (by decide +kernel))) rfl
theorem tw_971 : Cond.instanceMethod yX5_write ∈ wTab := mw (tt_4 _ (List.mem_of_getElem? (i := 149) (by decide +kernel))) rfl
theorem tw_972 : Cond.code yX5_write cX5_write 3 none ∈ wTab := mw (tt_4 _ (List.mem_of_getElem? (i := 150) (by decide +kernel))) rfl
theorem tw_973 : Cond.methodLink RX5 138 yX5_readTest ∈ wTab := mw (tt_4 _ (List.mem_of_getElem? (i := 151) (by decide +kernel))) rfl
theorem tw_975 : Cond.instanceMethod yX5_readTest ∈ wTab := mw (tt_4 _ (List.mem_of_getElem? (i := 153) (by decide +kernel))) rfl
theorem tw_976 : Cond.code yX5_readTest cX5_readTest 5 none ∈ wTab := mw (tt_4 _ (List.mem_of_getElem? (i := 154) (by decide +kernel))) rfl
theorem tw_977 : Cond.methodLink RX5 141 yX5_readPlain ∈ wTab := mw (tt_4 _ (List.mem_of_getElem? (i := 155) (by decide +kernel))) rfl
theorem tw_979 : Cond.instanceMethod yX5_readPlain ∈ wTab := mw (tt_4 _ (List.mem_of_getElem? (i := 157) (by decide +kernel))) rfl
theorem tw_980 : Cond.code yX5_readPlain cX5_readPlain 4 none ∈ wTab := mw (tt_4 _ (List.mem_of_getElem? (i := 158) (by decide +kernel))) rfl
theorem tw_981 : Cond.methodLink RX5 144 yX5_skipToHere ∈ wTab := mw (tt_4 _ (List.mem_of_getElem? (i := 159) (by decide +kernel))) rfl
theorem tw_983 : Cond.instanceMethod yX5_skipToHere ∈ wTab := mw (tt_4 _ (List.mem_of_getElem? (i := 161) (by decide +kernel))) rfl
theorem tw_984 : Cond.code yX5_skipToHere cX5_skipToHere 2 none ∈ wTab := mw (tt_4 _ (List.mem_of_getElem? (i := 162) (by decide +kernel))) rfl
theorem tw_987 : Cond.methodLink RX5 77 yX9_init ∈ wTab := mw (tt_4 _ (List.mem_of_getElem? (i := 165) (by decide +kernel))) rfl
theorem tw_1003 : Cond.static arraycopyName ∈ wTab := mw (tt_4 _ (List.mem_of_getElem? (i := 181) (by decide +kernel))) rfl
theorem tw_1004 : Cond.native arraycopyName ∈ wTab := mw (tt_4 _ (List.mem_of_getElem? (i := 182) (by decide +kernel))) rfl
theorem tw_1007 : Cond.fieldLink RX2 37 "NoRent$Text" "from" "I" ∈ wTab := mw (tt_4 _ (List.mem_of_getElem? (i := 185) (by decide +kernel))) rfl
theorem tw_1009 : Cond.fieldLink RX2 28 "NoRent$Text" "clauses" "I" ∈ wTab := mw (tt_4 _ (List.mem_of_getElem? (i := 187) (by decide +kernel))) rfl
theorem tw_1010 : Cond.fieldLink RX0 291 "NoRent$Text" "clauses" "I" ∈ wTab := mw (tt_4 _ (List.mem_of_getElem? (i := 188) (by decide +kernel))) rfl
theorem tw_1012 : Cond.fieldLink RX2 53 "NoRent$Text" "asksBanned" "Z" ∈ wTab := mw (tt_4 _ (List.mem_of_getElem? (i := 190) (by decide +kernel))) rfl
theorem tw_1014 : Cond.fieldLink RX2 40 "NoRent$Text" "kind" "[I" ∈ wTab := mw (tt_4 _ (List.mem_of_getElem? (i := 192) (by decide +kernel))) rfl
theorem tw_1015 : Cond.fieldLink RX0 296 "NoRent$Text" "kind" "[I" ∈ wTab := mw (tt_4 _ (List.mem_of_getElem? (i := 193) (by decide +kernel))) rfl
theorem tw_1017 : Cond.fieldLink RX2 47 "NoRent$Text" "first" "[I" ∈ wTab := mw (tt_4 _ (List.mem_of_getElem? (i := 195) (by decide +kernel))) rfl
theorem tw_1019 : Cond.fieldLink RX2 50 "NoRent$Text" "second" "[I" ∈ wTab := mw (tt_4 _ (List.mem_of_getElem? (i := 197) (by decide +kernel))) rfl
theorem tw_1021 : Cond.fieldLink RX0 314 "NoRent$Text" "start" "[I" ∈ wTab := mw (tt_4 _ (List.mem_of_getElem? (i := 199) (by decide +kernel))) rfl
theorem tw_1023 : Cond.fieldLink RX0 317 "NoRent$Text" "stop" "[I" ∈ wTab := mw (tt_4 _ (List.mem_of_getElem? (i := 201) (by decide +kernel))) rfl
theorem tw_1025 : Cond.fieldLink RX0 320 "NoRent$Text" "op" "[I" ∈ wTab := mw (tt_4 _ (List.mem_of_getElem? (i := 203) (by decide +kernel))) rfl
theorem tw_1027 : Cond.fieldLink RX0 323 "NoRent$Text" "arg" "[I" ∈ wTab := mw (tt_4 _ (List.mem_of_getElem? (i := 205) (by decide +kernel))) rfl
theorem tw_1050 : Cond.methodLink RX11 230 yX2_add ∈ wTab := mw (tt_4 _ (List.mem_of_getElem? (i := 228) (by decide +kernel))) rfl
theorem tw_1051 : Cond.instanceMethod yX2_add ∈ wTab := mw (tt_4 _ (List.mem_of_getElem? (i := 229) (by decide +kernel))) rfl
theorem tw_1052 : Cond.selects RX2 yX2_add yX2_add ∈ wTab := mw (tt_4 _ (List.mem_of_getElem? (i := 230) (by decide +kernel))) rfl
theorem tw_1053 : Cond.code yX2_add cX2_add 2 (some .int) ∈ wTab := mw (tt_4 _ (List.mem_of_getElem? (i := 231) (by decide +kernel))) rfl
theorem tw_1055 : Cond.instanceMethod yX11_fault ∈ wTab := mw (tt_4 _ (List.mem_of_getElem? (i := 233) (by decide +kernel))) rfl
theorem tw_1056 : Cond.selects RX11 yX11_fault yX11_fault ∈ wTab := mw (tt_4 _ (List.mem_of_getElem? (i := 234) (by decide +kernel))) rfl
theorem tw_1057 : Cond.code yX11_fault cX11_fault 1 (some .int) ∈ wTab := mw (tt_4 _ (List.mem_of_getElem? (i := 235) (by decide +kernel))) rfl
theorem tw_1059 : Cond.instanceMethod yX11_force ∈ wTab := mw (tt_4 _ (List.mem_of_getElem? (i := 237) (by decide +kernel))) rfl
theorem tw_1060 : Cond.selects RX11 yX11_force yX11_force ∈ wTab := mw (tt_4 _ (List.mem_of_getElem? (i := 238) (by decide +kernel))) rfl
theorem tw_1061 : Cond.code yX11_force cX11_force 5 (some .int) ∈ wTab := mw (tt_4 _ (List.mem_of_getElem? (i := 239) (by decide +kernel))) rfl
theorem tw_1062 : Cond.methodLink RX11 236 yX2_has ∈ wTab := mw (tt_5 _ (List.mem_of_getElem? (i := 0) (by decide +kernel))) rfl
theorem tw_1063 : Cond.instanceMethod yX2_has ∈ wTab := mw (tt_5 _ (List.mem_of_getElem? (i := 1) (by decide +kernel))) rfl
theorem tw_1064 : Cond.selects RX2 yX2_has yX2_has ∈ wTab := mw (tt_5 _ (List.mem_of_getElem? (i := 2) (by decide +kernel))) rfl
theorem tw_1065 : Cond.code yX2_has cX2_has 4 (some .boolean) ∈ wTab := mw (tt_5 _ (List.mem_of_getElem? (i := 3) (by decide +kernel))) rfl
theorem tw_1066 : Cond.methodLink RX11 238 yX2_mark ∈ wTab := mw (tt_5 _ (List.mem_of_getElem? (i := 4) (by decide +kernel))) rfl
theorem tw_1067 : Cond.methodLink RX11 241 yX2_isInForce ∈ wTab := mw (tt_5 _ (List.mem_of_getElem? (i := 5) (by decide +kernel))) rfl
theorem tw_1069 : Cond.instanceMethod yX11_holds ∈ wTab := mw (tt_5 _ (List.mem_of_getElem? (i := 7) (by decide +kernel))) rfl
theorem tw_1070 : Cond.selects RX11 yX11_holds yX11_holds ∈ wTab := mw (tt_5 _ (List.mem_of_getElem? (i := 8) (by decide +kernel))) rfl
theorem tw_1071 : Cond.code yX11_holds cX11_holds 5 (some .int) ∈ wTab := mw (tt_5 _ (List.mem_of_getElem? (i := 9) (by decide +kernel))) rfl
theorem tw_1072 : Cond.methodLink RX11 244 yX0_clauseHolds ∈ wTab := mw (tt_5 _ (List.mem_of_getElem? (i := 10) (by decide +kernel))) rfl
theorem tw_1073 : Cond.instanceMethod yX0_clauseHolds ∈ wTab := mw (tt_5 _ (List.mem_of_getElem? (i := 11) (by decide +kernel))) rfl
theorem tw_1074 : Cond.selects RX0 yX0_clauseHolds yX0_clauseHolds ∈ wTab := mw (tt_5 _ (List.mem_of_getElem? (i := 12) (by decide +kernel))) rfl
theorem tw_1075 : Cond.code yX0_clauseHolds cX0_clauseHolds 7 (some .boolean) ∈ wTab := mw (tt_5 _ (List.mem_of_getElem? (i := 13) (by decide +kernel))) rfl
theorem tw_1077 : Cond.instanceMethod yX11_writ ∈ wTab := mw (tt_5 _ (List.mem_of_getElem? (i := 15) (by decide +kernel))) rfl
theorem tw_1078 : Cond.selects RX11 yX11_writ yX11_writ ∈ wTab := mw (tt_5 _ (List.mem_of_getElem? (i := 16) (by decide +kernel))) rfl
theorem tw_1079 : Cond.code yX11_writ cX11_writ 4 (some .int) ∈ wTab := mw (tt_5 _ (List.mem_of_getElem? (i := 17) (by decide +kernel))) rfl
theorem tw_1080 : Cond.methodLink RX11 248 yX10_openOn ∈ wTab := mw (tt_5 _ (List.mem_of_getElem? (i := 18) (by decide +kernel))) rfl
theorem tw_1081 : Cond.methodLink RX11 252 yX2_weeksOf ∈ wTab := mw (tt_5 _ (List.mem_of_getElem? (i := 19) (by decide +kernel))) rfl
theorem tw_1082 : Cond.instanceMethod yX2_weeksOf ∈ wTab := mw (tt_5 _ (List.mem_of_getElem? (i := 20) (by decide +kernel))) rfl
theorem tw_1083 : Cond.selects RX2 yX2_weeksOf yX2_weeksOf ∈ wTab := mw (tt_5 _ (List.mem_of_getElem? (i := 21) (by decide +kernel))) rfl
theorem tw_1084 : Cond.code yX2_weeksOf cX2_weeksOf 6 (some .int) ∈ wTab := mw (tt_5 _ (List.mem_of_getElem? (i := 22) (by decide +kernel))) rfl
theorem tw_1085 : Cond.methodLink RX11 258 yX10_add ∈ wTab := mw (tt_5 _ (List.mem_of_getElem? (i := 23) (by decide +kernel))) rfl
theorem tw_1086 : Cond.instanceMethod yX10_add ∈ wTab := mw (tt_5 _ (List.mem_of_getElem? (i := 24) (by decide +kernel))) rfl
theorem tw_1087 : Cond.selects RX10 yX10_add yX10_add ∈ wTab := mw (tt_5 _ (List.mem_of_getElem? (i := 25) (by decide +kernel))) rfl
theorem tw_1088 : Cond.code yX10_add cX10_add 5 none ∈ wTab := mw (tt_5 _ (List.mem_of_getElem? (i := 26) (by decide +kernel))) rfl
theorem tw_1090 : Cond.instanceMethod yX11_avoid ∈ wTab := mw (tt_5 _ (List.mem_of_getElem? (i := 28) (by decide +kernel))) rfl
theorem tw_1091 : Cond.selects RX11 yX11_avoid yX11_avoid ∈ wTab := mw (tt_5 _ (List.mem_of_getElem? (i := 29) (by decide +kernel))) rfl
theorem tw_1092 : Cond.code yX11_avoid cX11_avoid 3 (some .int) ∈ wTab := mw (tt_5 _ (List.mem_of_getElem? (i := 30) (by decide +kernel))) rfl
theorem tw_1094 : Cond.instanceMethod yX11_guard ∈ wTab := mw (tt_5 _ (List.mem_of_getElem? (i := 32) (by decide +kernel))) rfl
theorem tw_1095 : Cond.selects RX11 yX11_guard yX11_guard ∈ wTab := mw (tt_5 _ (List.mem_of_getElem? (i := 33) (by decide +kernel))) rfl
theorem tw_1096 : Cond.code yX11_guard cX11_guard 5 (some .int) ∈ wTab := mw (tt_5 _ (List.mem_of_getElem? (i := 34) (by decide +kernel))) rfl
theorem tw_1097 : Cond.methodLink RX11 267 yX10_addGuard ∈ wTab := mw (tt_5 _ (List.mem_of_getElem? (i := 35) (by decide +kernel))) rfl
theorem tw_1098 : Cond.instanceMethod yX10_addGuard ∈ wTab := mw (tt_5 _ (List.mem_of_getElem? (i := 36) (by decide +kernel))) rfl
theorem tw_1099 : Cond.selects RX10 yX10_addGuard yX10_addGuard ∈ wTab := mw (tt_5 _ (List.mem_of_getElem? (i := 37) (by decide +kernel))) rfl
theorem tw_1100 : Cond.code yX10_addGuard cX10_addGuard 4 none ∈ wTab := mw (tt_5 _ (List.mem_of_getElem? (i := 38) (by decide +kernel))) rfl
theorem tw_1102 : Cond.instanceMethod yX11_take ∈ wTab := mw (tt_5 _ (List.mem_of_getElem? (i := 40) (by decide +kernel))) rfl
theorem tw_1103 : Cond.selects RX11 yX11_take yX11_take ∈ wTab := mw (tt_5 _ (List.mem_of_getElem? (i := 41) (by decide +kernel))) rfl
theorem tw_1104 : Cond.code yX11_take cX11_take 7 (some .int) ∈ wTab := mw (tt_5 _ (List.mem_of_getElem? (i := 42) (by decide +kernel))) rfl
theorem tw_1105 : Cond.methodLink RX11 270 yX0_anyHolds ∈ wTab := mw (tt_5 _ (List.mem_of_getElem? (i := 43) (by decide +kernel))) rfl
theorem tw_1107 : Cond.instanceMethod yX11_go ∈ wTab := mw (tt_5 _ (List.mem_of_getElem? (i := 45) (by decide +kernel))) rfl
theorem tw_1108 : Cond.selects RX11 yX11_go yX11_go ∈ wTab := mw (tt_5 _ (List.mem_of_getElem? (i := 46) (by decide +kernel))) rfl
theorem tw_1109 : Cond.code yX11_go cX11_go 3 (some .int) ∈ wTab := mw (tt_5 _ (List.mem_of_getElem? (i := 47) (by decide +kernel))) rfl
theorem tw_1110 : Cond.methodLink RX11 273 yX11_canGo ∈ wTab := mw (tt_5 _ (List.mem_of_getElem? (i := 48) (by decide +kernel))) rfl
theorem tw_1112 : Cond.instanceMethod yX11_canGo ∈ wTab := mw (tt_5 _ (List.mem_of_getElem? (i := 50) (by decide +kernel))) rfl
theorem tw_1113 : Cond.code yX11_canGo cX11_canGo 2 (some .boolean) ∈ wTab := mw (tt_5 _ (List.mem_of_getElem? (i := 51) (by decide +kernel))) rfl
theorem tw_1114 : Cond.methodLink RX11 276 yX0_passWeek ∈ wTab := mw (tt_5 _ (List.mem_of_getElem? (i := 52) (by decide +kernel))) rfl
theorem tw_1115 : Cond.instanceMethod yX0_passWeek ∈ wTab := mw (tt_5 _ (List.mem_of_getElem? (i := 53) (by decide +kernel))) rfl
theorem tw_1116 : Cond.selects RX0 yX0_passWeek yX0_passWeek ∈ wTab := mw (tt_5 _ (List.mem_of_getElem? (i := 54) (by decide +kernel))) rfl
theorem tw_1117 : Cond.code yX0_passWeek cX0_passWeek 2 none ∈ wTab := mw (tt_5 _ (List.mem_of_getElem? (i := 55) (by decide +kernel))) rfl
theorem tw_1118 : Cond.methodLink RX0 133 yX0_lookAtNow ∈ wTab := mw (tt_5 _ (List.mem_of_getElem? (i := 56) (by decide +kernel))) rfl
theorem tw_1119 : Cond.methodLink RX0 136 yX0_reap ∈ wTab := mw (tt_5 _ (List.mem_of_getElem? (i := 57) (by decide +kernel))) rfl
theorem tw_1121 : Cond.instanceMethod yX0_reap ∈ wTab := mw (tt_5 _ (List.mem_of_getElem? (i := 59) (by decide +kernel))) rfl
theorem tw_1122 : Cond.code yX0_reap cX0_reap 5 none ∈ wTab := mw (tt_5 _ (List.mem_of_getElem? (i := 60) (by decide +kernel))) rfl
theorem tw_1123 : Cond.methodLink RX0 175 yX7_sacksOf ∈ wTab := mw (tt_5 _ (List.mem_of_getElem? (i := 61) (by decide +kernel))) rfl
theorem tw_1124 : Cond.methodLink RX0 139 yX0_collectRents ∈ wTab := mw (tt_5 _ (List.mem_of_getElem? (i := 62) (by decide +kernel))) rfl
theorem tw_1126 : Cond.instanceMethod yX0_collectRents ∈ wTab := mw (tt_5 _ (List.mem_of_getElem? (i := 64) (by decide +kernel))) rfl
theorem tw_1127 : Cond.code yX0_collectRents cX0_collectRents 7 none ∈ wTab := mw (tt_5 _ (List.mem_of_getElem? (i := 65) (by decide +kernel))) rfl
theorem tw_1128 : Cond.methodLink RX0 195 yX0_fairOf ∈ wTab := mw (tt_5 _ (List.mem_of_getElem? (i := 66) (by decide +kernel))) rfl
theorem tw_1129 : Cond.methodLink RX0 198 yX0_pay ∈ wTab := mw (tt_5 _ (List.mem_of_getElem? (i := 67) (by decide +kernel))) rfl
theorem tw_1131 : Cond.instanceMethod yX0_pay ∈ wTab := mw (tt_5 _ (List.mem_of_getElem? (i := 69) (by decide +kernel))) rfl
theorem tw_1132 : Cond.code yX0_pay cX0_pay 5 (some .int) ∈ wTab := mw (tt_5 _ (List.mem_of_getElem? (i := 70) (by decide +kernel))) rfl
theorem tw_1133 : Cond.methodLink RX0 208 Lib.Math.min.name ∈ wTab := mw (tt_5 _ (List.mem_of_getElem? (i := 71) (by decide +kernel))) rfl
theorem tw_1134 : Cond.constant RX0 207 (10000000) ∈ wTab := mw (tt_5 _ (List.mem_of_getElem? (i := 72) (by decide +kernel))) rfl
theorem tw_1135 : Cond.methodLink RX0 142 yX0_payMortgages ∈ wTab := mw (tt_5 _ (List.mem_of_getElem? (i := 73) (by decide +kernel))) rfl
theorem tw_1137 : Cond.instanceMethod yX0_payMortgages ∈ wTab := mw (tt_5 _ (List.mem_of_getElem? (i := 75) (by decide +kernel))) rfl
theorem tw_1138 : Cond.code yX0_payMortgages cX0_payMortgages 2 none ∈ wTab := mw (tt_5 _ (List.mem_of_getElem? (i := 76) (by decide +kernel))) rfl
theorem tw_1139 : Cond.methodLink RX0 145 yX0_tellWrits ∈ wTab := mw (tt_5 _ (List.mem_of_getElem? (i := 77) (by decide +kernel))) rfl
theorem tw_1141 : Cond.instanceMethod yX0_tellWrits ∈ wTab := mw (tt_5 _ (List.mem_of_getElem? (i := 79) (by decide +kernel))) rfl
theorem tw_1142 : Cond.code yX0_tellWrits cX0_tellWrits 2 none ∈ wTab := mw (tt_5 _ (List.mem_of_getElem? (i := 80) (by decide +kernel))) rfl
theorem tw_1143 : Cond.methodLink RX0 225 yX10_openOn ∈ wTab := mw (tt_5 _ (List.mem_of_getElem? (i := 81) (by decide +kernel))) rfl
theorem tw_1144 : Cond.methodLink RX0 228 yX2_weeksOf ∈ wTab := mw (tt_5 _ (List.mem_of_getElem? (i := 82) (by decide +kernel))) rfl
theorem tw_1145 : Cond.methodLink RX0 231 yX10_add ∈ wTab := mw (tt_5 _ (List.mem_of_getElem? (i := 83) (by decide +kernel))) rfl
theorem tw_1146 : Cond.methodLink RX0 154 yX0_advanceWrit ∈ wTab := mw (tt_5 _ (List.mem_of_getElem? (i := 84) (by decide +kernel))) rfl
theorem tw_1148 : Cond.instanceMethod yX0_advanceWrit ∈ wTab := mw (tt_5 _ (List.mem_of_getElem? (i := 86) (by decide +kernel))) rfl
theorem tw_1149 : Cond.code yX0_advanceWrit cX0_advanceWrit 3 none ∈ wTab := mw (tt_5 _ (List.mem_of_getElem? (i := 87) (by decide +kernel))) rfl
theorem tw_1150 : Cond.methodLink RX0 242 yX10_isGuarded ∈ wTab := mw (tt_5 _ (List.mem_of_getElem? (i := 88) (by decide +kernel))) rfl
theorem tw_1151 : Cond.instanceMethod yX10_isGuarded ∈ wTab := mw (tt_5 _ (List.mem_of_getElem? (i := 89) (by decide +kernel))) rfl
theorem tw_1152 : Cond.selects RX10 yX10_isGuarded yX10_isGuarded ∈ wTab := mw (tt_5 _ (List.mem_of_getElem? (i := 90) (by decide +kernel))) rfl
theorem tw_1153 : Cond.code yX10_isGuarded cX10_isGuarded 4 (some .boolean) ∈ wTab := mw (tt_5 _ (List.mem_of_getElem? (i := 91) (by decide +kernel))) rfl
theorem tw_1154 : Cond.methodLink RX0 252 yX0_putOut ∈ wTab := mw (tt_5 _ (List.mem_of_getElem? (i := 92) (by decide +kernel))) rfl
theorem tw_1156 : Cond.instanceMethod yX0_putOut ∈ wTab := mw (tt_5 _ (List.mem_of_getElem? (i := 94) (by decide +kernel))) rfl
theorem tw_1157 : Cond.code yX0_putOut cX0_putOut 3 none ∈ wTab := mw (tt_5 _ (List.mem_of_getElem? (i := 95) (by decide +kernel))) rfl
theorem tw_1158 : Cond.methodLink RX0 157 yX0_payDraws ∈ wTab := mw (tt_5 _ (List.mem_of_getElem? (i := 96) (by decide +kernel))) rfl
theorem tw_1160 : Cond.instanceMethod yX0_payDraws ∈ wTab := mw (tt_5 _ (List.mem_of_getElem? (i := 98) (by decide +kernel))) rfl
theorem tw_1161 : Cond.code yX0_payDraws cX0_payDraws 4 none ∈ wTab := mw (tt_5 _ (List.mem_of_getElem? (i := 99) (by decide +kernel))) rfl
theorem tw_1162 : Cond.methodLink RX0 264 yX0_drawOf ∈ wTab := mw (tt_5 _ (List.mem_of_getElem? (i := 100) (by decide +kernel))) rfl
theorem tw_1164 : Cond.instanceMethod yX0_drawOf ∈ wTab := mw (tt_5 _ (List.mem_of_getElem? (i := 102) (by decide +kernel))) rfl
theorem tw_1165 : Cond.code yX0_drawOf cX0_drawOf 9 (some .long) ∈ wTab := mw (tt_5 _ (List.mem_of_getElem? (i := 103) (by decide +kernel))) rfl
theorem tw_1166 : Cond.methodLink RX0 271 yX4_gain ∈ wTab := mw (tt_5 _ (List.mem_of_getElem? (i := 104) (by decide +kernel))) rfl
theorem tw_1167 : Cond.methodLink RX0 160 yX2_asksBanned ∈ wTab := mw (tt_5 _ (List.mem_of_getElem? (i := 105) (by decide +kernel))) rfl
theorem tw_1168 : Cond.instanceMethod yX2_asksBanned ∈ wTab := mw (tt_5 _ (List.mem_of_getElem? (i := 106) (by decide +kernel))) rfl
theorem tw_1169 : Cond.selects RX2 yX2_asksBanned yX2_asksBanned ∈ wTab := mw (tt_5 _ (List.mem_of_getElem? (i := 107) (by decide +kernel))) rfl
theorem tw_1170 : Cond.code yX2_asksBanned cX2_asksBanned 3 (some .boolean) ∈ wTab := mw (tt_5 _ (List.mem_of_getElem? (i := 108) (by decide +kernel))) rfl
theorem tw_1171 : Cond.methodLink RX0 164 yX0_renewBans ∈ wTab := mw (tt_5 _ (List.mem_of_getElem? (i := 109) (by decide +kernel))) rfl
theorem tw_1173 : Cond.instanceMethod yX0_renewBans ∈ wTab := mw (tt_5 _ (List.mem_of_getElem? (i := 111) (by decide +kernel))) rfl
theorem tw_1174 : Cond.code yX0_renewBans cX0_renewBans 2 none ∈ wTab := mw (tt_5 _ (List.mem_of_getElem? (i := 112) (by decide +kernel))) rfl
theorem tw_1175 : Cond.methodLink RX0 280 arraycopyName ∈ wTab := mw (tt_5 _ (List.mem_of_getElem? (i := 113) (by decide +kernel))) rfl
theorem tw_1177 : Cond.instanceMethod yX11_deal ∈ wTab := mw (tt_5 _ (List.mem_of_getElem? (i := 115) (by decide +kernel))) rfl
theorem tw_1178 : Cond.selects RX11 yX11_deal yX11_deal ∈ wTab := mw (tt_5 _ (List.mem_of_getElem? (i := 116) (by decide +kernel))) rfl
theorem tw_1179 : Cond.code yX11_deal cX11_deal 6 (some .int) ∈ wTab := mw (tt_5 _ (List.mem_of_getElem? (i := 117) (by decide +kernel))) rfl
theorem tw_1180 : Cond.methodLink RX11 279 yX4_isAbout ∈ wTab := mw (tt_5 _ (List.mem_of_getElem? (i := 118) (by decide +kernel))) rfl
theorem tw_1181 : Cond.instanceMethod yX4_isAbout ∈ wTab := mw (tt_5 _ (List.mem_of_getElem? (i := 119) (by decide +kernel))) rfl
theorem tw_1182 : Cond.selects RX4 yX4_isAbout yX4_isAbout ∈ wTab := mw (tt_5 _ (List.mem_of_getElem? (i := 120) (by decide +kernel))) rfl
theorem tw_1183 : Cond.code yX4_isAbout cX4_isAbout 2 (some .boolean) ∈ wTab := mw (tt_5 _ (List.mem_of_getElem? (i := 121) (by decide +kernel))) rfl
theorem tw_1184 : Cond.methodLink RX11 285 yX4_keepsBan ∈ wTab := mw (tt_5 _ (List.mem_of_getElem? (i := 122) (by decide +kernel))) rfl
theorem tw_1185 : Cond.instanceMethod yX4_keepsBan ∈ wTab := mw (tt_5 _ (List.mem_of_getElem? (i := 123) (by decide +kernel))) rfl
theorem tw_1186 : Cond.selects RX4 yX4_keepsBan yX4_keepsBan ∈ wTab := mw (tt_5 _ (List.mem_of_getElem? (i := 124) (by decide +kernel))) rfl
theorem tw_1187 : Cond.code yX4_keepsBan cX4_keepsBan 6 (some .boolean) ∈ wTab := mw (tt_5 _ (List.mem_of_getElem? (i := 125) (by decide +kernel))) rfl
theorem tw_1188 : Cond.methodLink RX4 50 yX4_has ∈ wTab := mw (tt_5 _ (List.mem_of_getElem? (i := 126) (by decide +kernel))) rfl
theorem tw_1190 : Cond.instanceMethod yX11_brave ∈ wTab := mw (tt_5 _ (List.mem_of_getElem? (i := 128) (by decide +kernel))) rfl
theorem tw_1191 : Cond.selects RX11 yX11_brave yX11_brave ∈ wTab := mw (tt_5 _ (List.mem_of_getElem? (i := 129) (by decide +kernel))) rfl
theorem tw_1192 : Cond.code yX11_brave cX11_brave 3 (some .int) ∈ wTab := mw (tt_5 _ (List.mem_of_getElem? (i := 130) (by decide +kernel))) rfl
theorem tw_1194 : Cond.instanceMethod yX11_keeps ∈ wTab := mw (tt_5 _ (List.mem_of_getElem? (i := 132) (by decide +kernel))) rfl
theorem tw_1195 : Cond.selects RX11 yX11_keeps yX11_keeps ∈ wTab := mw (tt_5 _ (List.mem_of_getElem? (i := 133) (by decide +kernel))) rfl
theorem tw_1196 : Cond.code yX11_keeps cX11_keeps 4 (some .int) ∈ wTab := mw (tt_5 _ (List.mem_of_getElem? (i := 134) (by decide +kernel))) rfl
theorem tw_1198 : Cond.instanceMethod yX11_broke ∈ wTab := mw (tt_5 _ (List.mem_of_getElem? (i := 136) (by decide +kernel))) rfl
theorem tw_1199 : Cond.selects RX11 yX11_broke yX11_broke ∈ wTab := mw (tt_5 _ (List.mem_of_getElem? (i := 137) (by decide +kernel))) rfl
theorem tw_1200 : Cond.code yX11_broke cX11_broke 10 (some .int) ∈ wTab := mw (tt_5 _ (List.mem_of_getElem? (i := 138) (by decide +kernel))) rfl
theorem tw_1201 : Cond.methodLink RX11 291 yX4_maySell ∈ wTab := mw (tt_5 _ (List.mem_of_getElem? (i := 139) (by decide +kernel))) rfl
theorem tw_1202 : Cond.instanceMethod yX4_maySell ∈ wTab := mw (tt_5 _ (List.mem_of_getElem? (i := 140) (by decide +kernel))) rfl
theorem tw_1203 : Cond.selects RX4 yX4_maySell yX4_maySell ∈ wTab := mw (tt_5 _ (List.mem_of_getElem? (i := 141) (by decide +kernel))) rfl
theorem tw_1204 : Cond.code yX4_maySell cX4_maySell 5 (some .boolean) ∈ wTab := mw (tt_5 _ (List.mem_of_getElem? (i := 142) (by decide +kernel))) rfl
theorem tw_1205 : Cond.methodLink RX4 54 yX4_isAbout ∈ wTab := mw (tt_5 _ (List.mem_of_getElem? (i := 143) (by decide +kernel))) rfl
theorem tw_1206 : Cond.methodLink RX4 57 yX4_keepsBan ∈ wTab := mw (tt_5 _ (List.mem_of_getElem? (i := 144) (by decide +kernel))) rfl
theorem tw_1208 : Cond.instanceMethod yX11_last ∈ wTab := mw (tt_5 _ (List.mem_of_getElem? (i := 146) (by decide +kernel))) rfl
theorem tw_1209 : Cond.selects RX11 yX11_last yX11_last ∈ wTab := mw (tt_5 _ (List.mem_of_getElem? (i := 147) (by decide +kernel))) rfl
theorem tw_1210 : Cond.code yX11_last cX11_last 9 (some .int) ∈ wTab := mw (tt_5 _ (List.mem_of_getElem? (i := 148) (by decide +kernel))) rfl
theorem tw_1212 : Cond.instanceMethod yX11_least ∈ wTab := mw (tt_5 _ (List.mem_of_getElem? (i := 150) (by decide +kernel))) rfl
theorem tw_1213 : Cond.selects RX11 yX11_least yX11_least ∈ wTab := mw (tt_5 _ (List.mem_of_getElem? (i := 151) (by decide +kernel))) rfl
theorem tw_1214 : Cond.code yX11_least cX11_least 4 (some .int) ∈ wTab := mw (tt_5 _ (List.mem_of_getElem? (i := 152) (by decide +kernel))) rfl
theorem tw_1215 : Cond.methodLink RX11 294 yX0_fewestKept ∈ wTab := mw (tt_5 _ (List.mem_of_getElem? (i := 153) (by decide +kernel))) rfl
theorem tw_1216 : Cond.instanceMethod yX0_fewestKept ∈ wTab := mw (tt_5 _ (List.mem_of_getElem? (i := 154) (by decide +kernel))) rfl
theorem tw_1217 : Cond.selects RX0 yX0_fewestKept yX0_fewestKept ∈ wTab := mw (tt_5 _ (List.mem_of_getElem? (i := 155) (by decide +kernel))) rfl
theorem tw_1218 : Cond.code yX0_fewestKept cX0_fewestKept 7 (some .int) ∈ wTab := mw (tt_5 _ (List.mem_of_getElem? (i := 156) (by decide +kernel))) rfl
theorem tw_1219 : Cond.methodLink RX0 357 yX0_falls ∈ wTab := mw (tt_5 _ (List.mem_of_getElem? (i := 157) (by decide +kernel))) rfl
theorem tw_1220 : Cond.static yX0_falls ∈ wTab := mw (tt_5 _ (List.mem_of_getElem? (i := 158) (by decide +kernel))) rfl
theorem tw_1221 : Cond.code yX0_falls cX0_falls 10 (some .boolean) ∈ wTab := mw (tt_5 _ (List.mem_of_getElem? (i := 159) (by decide +kernel))) rfl
theorem tw_1222 : Cond.methodLink RX0 361 yX0_takeMostSpared ∈ wTab := mw (tt_5 _ (List.mem_of_getElem? (i := 160) (by decide +kernel))) rfl
theorem tw_1224 : Cond.instanceMethod yX0_takeMostSpared ∈ wTab := mw (tt_5 _ (List.mem_of_getElem? (i := 162) (by decide +kernel))) rfl
theorem tw_1225 : Cond.code yX0_takeMostSpared cX0_takeMostSpared 5 (some .int) ∈ wTab := mw (tt_5 _ (List.mem_of_getElem? (i := 163) (by decide +kernel))) rfl
theorem tw_1227 : Cond.instanceMethod yX11_offer ∈ wTab := mw (tt_5 _ (List.mem_of_getElem? (i := 165) (by decide +kernel))) rfl
theorem tw_1228 : Cond.selects RX11 yX11_offer yX11_offer ∈ wTab := mw (tt_5 _ (List.mem_of_getElem? (i := 166) (by decide +kernel))) rfl
theorem tw_1229 : Cond.code yX11_offer cX11_offer 3 (some .int) ∈ wTab := mw (tt_5 _ (List.mem_of_getElem? (i := 167) (by decide +kernel))) rfl
theorem tw_1230 : Cond.methodLink RX11 300 yX3_addOffer ∈ wTab := mw (tt_5 _ (List.mem_of_getElem? (i := 168) (by decide +kernel))) rfl
theorem tw_1231 : Cond.instanceMethod yX3_addOffer ∈ wTab := mw (tt_5 _ (List.mem_of_getElem? (i := 169) (by decide +kernel))) rfl
theorem tw_1232 : Cond.selects RX3 yX3_addOffer yX3_addOffer ∈ wTab := mw (tt_5 _ (List.mem_of_getElem? (i := 170) (by decide +kernel))) rfl
theorem tw_1233 : Cond.code yX3_addOffer cX3_addOffer 3 (some .int) ∈ wTab := mw (tt_5 _ (List.mem_of_getElem? (i := 171) (by decide +kernel))) rfl
theorem tw_1235 : Cond.instanceMethod yX11_agree ∈ wTab := mw (tt_5 _ (List.mem_of_getElem? (i := 173) (by decide +kernel))) rfl
theorem tw_1236 : Cond.selects RX11 yX11_agree yX11_agree ∈ wTab := mw (tt_5 _ (List.mem_of_getElem? (i := 174) (by decide +kernel))) rfl
theorem tw_1237 : Cond.code yX11_agree cX11_agree 3 (some .int) ∈ wTab := mw (tt_5 _ (List.mem_of_getElem? (i := 175) (by decide +kernel))) rfl
theorem tw_1238 : Cond.methodLink RX11 303 yX3_bestSet ∈ wTab := mw (tt_5 _ (List.mem_of_getElem? (i := 176) (by decide +kernel))) rfl
theorem tw_1239 : Cond.instanceMethod yX3_bestSet ∈ wTab := mw (tt_5 _ (List.mem_of_getElem? (i := 177) (by decide +kernel))) rfl
theorem tw_1240 : Cond.selects RX3 yX3_bestSet yX3_bestSet ∈ wTab := mw (tt_5 _ (List.mem_of_getElem? (i := 178) (by decide +kernel))) rfl
theorem tw_1241 : Cond.code yX3_bestSet cX3_bestSet 9 (some .int) ∈ wTab := mw (tt_5 _ (List.mem_of_getElem? (i := 179) (by decide +kernel))) rfl
theorem tw_1242 : Cond.methodLink RX3 25 yX3_sumOf ∈ wTab := mw (tt_5 _ (List.mem_of_getElem? (i := 180) (by decide +kernel))) rfl
theorem tw_1244 : Cond.instanceMethod yX3_sumOf ∈ wTab := mw (tt_5 _ (List.mem_of_getElem? (i := 182) (by decide +kernel))) rfl
theorem tw_1245 : Cond.code yX3_sumOf cX3_sumOf 5 (some .int) ∈ wTab := mw (tt_5 _ (List.mem_of_getElem? (i := 183) (by decide +kernel))) rfl
theorem tw_1246 : Cond.methodLink RX3 29 yJ6_bitCount_0f7a4 ∈ wTab := mw (tt_5 _ (List.mem_of_getElem? (i := 184) (by decide +kernel))) rfl
theorem tw_1247 : Cond.static yJ6_bitCount_0f7a4 ∈ wTab := mw (tt_5 _ (List.mem_of_getElem? (i := 185) (by decide +kernel))) rfl
theorem tw_1248 : Cond.code yJ6_bitCount_0f7a4 cJ6_bitCount_0f7a4 1 (some .int) ∈ wTab := mw (tt_5 _ (List.mem_of_getElem? (i := 186) (by decide +kernel))) rfl
theorem tw_1253 : Cond.instanceMethod yX11_wish ∈ wTab := mw (tt_5 _ (List.mem_of_getElem? (i := 191) (by decide +kernel))) rfl
theorem tw_1254 : Cond.selects RX11 yX11_wish yX11_wish ∈ wTab := mw (tt_5 _ (List.mem_of_getElem? (i := 192) (by decide +kernel))) rfl
theorem tw_1255 : Cond.code yX11_wish cX11_wish 2 (some .int) ∈ wTab := mw (tt_5 _ (List.mem_of_getElem? (i := 193) (by decide +kernel))) rfl
theorem tw_1256 : Cond.methodLink RX11 306 yX11_isWished ∈ wTab := mw (tt_5 _ (List.mem_of_getElem? (i := 194) (by decide +kernel))) rfl
theorem tw_1258 : Cond.instanceMethod yX11_isWished ∈ wTab := mw (tt_5 _ (List.mem_of_getElem? (i := 196) (by decide +kernel))) rfl
theorem tw_1259 : Cond.code yX11_isWished cX11_isWished 3 (some .boolean) ∈ wTab := mw (tt_5 _ (List.mem_of_getElem? (i := 197) (by decide +kernel))) rfl
theorem tw_1261 : Cond.instanceMethod yX11_clear ∈ wTab := mw (tt_5 _ (List.mem_of_getElem? (i := 199) (by decide +kernel))) rfl
theorem tw_1262 : Cond.selects RX11 yX11_clear yX11_clear ∈ wTab := mw (tt_5 _ (List.mem_of_getElem? (i := 200) (by decide +kernel))) rfl
theorem tw_1263 : Cond.code yX11_clear cX11_clear 2 (some .int) ∈ wTab := mw (tt_5 _ (List.mem_of_getElem? (i := 201) (by decide +kernel))) rfl
theorem tw_1265 : Cond.instanceMethod yX11_crops ∈ wTab := mw (tt_5 _ (List.mem_of_getElem? (i := 203) (by decide +kernel))) rfl
theorem tw_1266 : Cond.selects RX11 yX11_crops yX11_crops ∈ wTab := mw (tt_5 _ (List.mem_of_getElem? (i := 204) (by decide +kernel))) rfl
theorem tw_1267 : Cond.code yX11_crops cX11_crops 3 (some .int) ∈ wTab := mw (tt_5 _ (List.mem_of_getElem? (i := 205) (by decide +kernel))) rfl
theorem tw_1269 : Cond.instanceMethod yX11_choose ∈ wTab := mw (tt_5 _ (List.mem_of_getElem? (i := 207) (by decide +kernel))) rfl
theorem tw_1270 : Cond.selects RX11 yX11_choose yX11_choose ∈ wTab := mw (tt_5 _ (List.mem_of_getElem? (i := 208) (by decide +kernel))) rfl
theorem tw_1271 : Cond.code yX11_choose cX11_choose 8 (some .int) ∈ wTab := mw (tt_5 _ (List.mem_of_getElem? (i := 209) (by decide +kernel))) rfl
theorem tw_1272 : Cond.methodLink RX11 315 yX11_canChoose ∈ wTab := mw (tt_5 _ (List.mem_of_getElem? (i := 210) (by decide +kernel))) rfl
theorem tw_1274 : Cond.instanceMethod yX11_canChoose ∈ wTab := mw (tt_5 _ (List.mem_of_getElem? (i := 212) (by decide +kernel))) rfl
theorem tw_1275 : Cond.code yX11_canChoose cX11_canChoose 3 (some .boolean) ∈ wTab := mw (tt_5 _ (List.mem_of_getElem? (i := 213) (by decide +kernel))) rfl
theorem tw_1276 : Cond.methodLink RX11 318 yJ6_bitCount_0f7a4 ∈ wTab := mw (tt_5 _ (List.mem_of_getElem? (i := 214) (by decide +kernel))) rfl
theorem tw_1277 : Cond.methodLink RX11 323 yX11_bitsOfRow ∈ wTab := mw (tt_5 _ (List.mem_of_getElem? (i := 215) (by decide +kernel))) rfl
theorem tw_1279 : Cond.instanceMethod yX11_bitsOfRow ∈ wTab := mw (tt_5 _ (List.mem_of_getElem? (i := 217) (by decide +kernel))) rfl
theorem tw_1280 : Cond.code yX11_bitsOfRow cX11_bitsOfRow 4 (some .int) ∈ wTab := mw (tt_5 _ (List.mem_of_getElem? (i := 218) (by decide +kernel))) rfl
theorem tw_1281 : Cond.methodLink RX11 326 yX11_worstOf ∈ wTab := mw (tt_5 _ (List.mem_of_getElem? (i := 219) (by decide +kernel))) rfl
theorem tw_1283 : Cond.instanceMethod yX11_worstOf ∈ wTab := mw (tt_5 _ (List.mem_of_getElem? (i := 221) (by decide +kernel))) rfl
theorem tw_1284 : Cond.code yX11_worstOf cX11_worstOf 7 (some .int) ∈ wTab := mw (tt_5 _ (List.mem_of_getElem? (i := 222) (by decide +kernel))) rfl
theorem tw_1285 : Cond.methodLink RX11 345 yX0_copyFrom ∈ wTab := mw (tt_5 _ (List.mem_of_getElem? (i := 223) (by decide +kernel))) rfl
theorem tw_1286 : Cond.instanceMethod yX0_copyFrom ∈ wTab := mw (tt_5 _ (List.mem_of_getElem? (i := 224) (by decide +kernel))) rfl
theorem tw_1287 : Cond.selects RX0 yX0_copyFrom yX0_copyFrom ∈ wTab := mw (tt_5 _ (List.mem_of_getElem? (i := 225) (by decide +kernel))) rfl
theorem tw_1288 : Cond.code yX0_copyFrom cX0_copyFrom 2 none ∈ wTab := mw (tt_5 _ (List.mem_of_getElem? (i := 226) (by decide +kernel))) rfl
theorem tw_1289 : Cond.methodLink RX0 74 yX4_copyFrom ∈ wTab := mw (tt_5 _ (List.mem_of_getElem? (i := 227) (by decide +kernel))) rfl
theorem tw_1290 : Cond.instanceMethod yX4_copyFrom ∈ wTab := mw (tt_5 _ (List.mem_of_getElem? (i := 228) (by decide +kernel))) rfl
theorem tw_1291 : Cond.selects RX4 yX4_copyFrom yX4_copyFrom ∈ wTab := mw (tt_5 _ (List.mem_of_getElem? (i := 229) (by decide +kernel))) rfl
theorem tw_1292 : Cond.code yX4_copyFrom cX4_copyFrom 2 none ∈ wTab := mw (tt_5 _ (List.mem_of_getElem? (i := 230) (by decide +kernel))) rfl
theorem tw_1293 : Cond.methodLink RX4 61 arraycopyName ∈ wTab := mw (tt_5 _ (List.mem_of_getElem? (i := 231) (by decide +kernel))) rfl
theorem tw_1294 : Cond.methodLink RX0 78 yX1_copyFrom ∈ wTab := mw (tt_5 _ (List.mem_of_getElem? (i := 232) (by decide +kernel))) rfl
theorem tw_1295 : Cond.instanceMethod yX1_copyFrom ∈ wTab := mw (tt_5 _ (List.mem_of_getElem? (i := 233) (by decide +kernel))) rfl
theorem tw_1296 : Cond.selects RX1 yX1_copyFrom yX1_copyFrom ∈ wTab := mw (tt_5 _ (List.mem_of_getElem? (i := 234) (by decide +kernel))) rfl
theorem tw_1297 : Cond.code yX1_copyFrom cX1_copyFrom 2 none ∈ wTab := mw (tt_5 _ (List.mem_of_getElem? (i := 235) (by decide +kernel))) rfl
theorem tw_1298 : Cond.methodLink RX1 72 arraycopyName ∈ wTab := mw (tt_5 _ (List.mem_of_getElem? (i := 236) (by decide +kernel))) rfl
theorem tw_1299 : Cond.methodLink RX0 81 yX10_copyFrom ∈ wTab := mw (tt_5 _ (List.mem_of_getElem? (i := 237) (by decide +kernel))) rfl
theorem tw_1300 : Cond.instanceMethod yX10_copyFrom ∈ wTab := mw (tt_5 _ (List.mem_of_getElem? (i := 238) (by decide +kernel))) rfl
theorem tw_1301 : Cond.selects RX10 yX10_copyFrom yX10_copyFrom ∈ wTab := mw (tt_5 _ (List.mem_of_getElem? (i := 239) (by decide +kernel))) rfl
theorem tw_1302 : Cond.code yX10_copyFrom cX10_copyFrom 2 none ∈ wTab := mw (tt_6 _ (List.mem_of_getElem? (i := 0) (by decide +kernel))) rfl
theorem tw_1303 : Cond.methodLink RX10 50 arraycopyName ∈ wTab := mw (tt_6 _ (List.mem_of_getElem? (i := 1) (by decide +kernel))) rfl
theorem tw_1304 : Cond.methodLink RX0 84 yX7_copyFrom ∈ wTab := mw (tt_6 _ (List.mem_of_getElem? (i := 2) (by decide +kernel))) rfl
theorem tw_1305 : Cond.instanceMethod yX7_copyFrom ∈ wTab := mw (tt_6 _ (List.mem_of_getElem? (i := 3) (by decide +kernel))) rfl
theorem tw_1306 : Cond.selects RX7 yX7_copyFrom yX7_copyFrom ∈ wTab := mw (tt_6 _ (List.mem_of_getElem? (i := 4) (by decide +kernel))) rfl
theorem tw_1307 : Cond.code yX7_copyFrom cX7_copyFrom 3 none ∈ wTab := mw (tt_6 _ (List.mem_of_getElem? (i := 5) (by decide +kernel))) rfl
theorem tw_1308 : Cond.methodLink RX7 40 arraycopyName ∈ wTab := mw (tt_6 _ (List.mem_of_getElem? (i := 6) (by decide +kernel))) rfl
theorem tw_1309 : Cond.methodLink RX0 87 yX2_copyFrom ∈ wTab := mw (tt_6 _ (List.mem_of_getElem? (i := 7) (by decide +kernel))) rfl
theorem tw_1310 : Cond.instanceMethod yX2_copyFrom ∈ wTab := mw (tt_6 _ (List.mem_of_getElem? (i := 8) (by decide +kernel))) rfl
theorem tw_1311 : Cond.selects RX2 yX2_copyFrom yX2_copyFrom ∈ wTab := mw (tt_6 _ (List.mem_of_getElem? (i := 9) (by decide +kernel))) rfl
theorem tw_1312 : Cond.code yX2_copyFrom cX2_copyFrom 3 none ∈ wTab := mw (tt_6 _ (List.mem_of_getElem? (i := 10) (by decide +kernel))) rfl
theorem tw_1313 : Cond.methodLink RX0 90 yX3_copyFrom ∈ wTab := mw (tt_6 _ (List.mem_of_getElem? (i := 11) (by decide +kernel))) rfl
theorem tw_1314 : Cond.instanceMethod yX3_copyFrom ∈ wTab := mw (tt_6 _ (List.mem_of_getElem? (i := 12) (by decide +kernel))) rfl
theorem tw_1315 : Cond.selects RX3 yX3_copyFrom yX3_copyFrom ∈ wTab := mw (tt_6 _ (List.mem_of_getElem? (i := 13) (by decide +kernel))) rfl
theorem tw_1316 : Cond.code yX3_copyFrom cX3_copyFrom 2 none ∈ wTab := mw (tt_6 _ (List.mem_of_getElem? (i := 14) (by decide +kernel))) rfl
theorem tw_1317 : Cond.methodLink RX3 41 arraycopyName ∈ wTab := mw (tt_6 _ (List.mem_of_getElem? (i := 15) (by decide +kernel))) rfl
theorem tw_1318 : Cond.methodLink RX11 383 yX0_tellCrops ∈ wTab := mw (tt_6 _ (List.mem_of_getElem? (i := 16) (by decide +kernel))) rfl
theorem tw_1319 : Cond.instanceMethod yX0_tellCrops ∈ wTab := mw (tt_6 _ (List.mem_of_getElem? (i := 17) (by decide +kernel))) rfl
theorem tw_1320 : Cond.selects RX0 yX0_tellCrops yX0_tellCrops ∈ wTab := mw (tt_6 _ (List.mem_of_getElem? (i := 18) (by decide +kernel))) rfl
theorem tw_1321 : Cond.code yX0_tellCrops cX0_tellCrops 3 none ∈ wTab := mw (tt_6 _ (List.mem_of_getElem? (i := 19) (by decide +kernel))) rfl
theorem tw_1322 : Cond.methodLink RX11 392 Lib.Math.max.name ∈ wTab := mw (tt_6 _ (List.mem_of_getElem? (i := 20) (by decide +kernel))) rfl
theorem tw_1324 : Cond.instanceMethod yX11_chosen ∈ wTab := mw (tt_6 _ (List.mem_of_getElem? (i := 22) (by decide +kernel))) rfl
theorem tw_1325 : Cond.selects RX11 yX11_chosen yX11_chosen ∈ wTab := mw (tt_6 _ (List.mem_of_getElem? (i := 23) (by decide +kernel))) rfl
theorem tw_1326 : Cond.code yX11_chosen cX11_chosen 2 (some .int) ∈ wTab := mw (tt_6 _ (List.mem_of_getElem? (i := 24) (by decide +kernel))) rfl
theorem tw_1328 : Cond.instanceMethod yX11_judge ∈ wTab := mw (tt_6 _ (List.mem_of_getElem? (i := 26) (by decide +kernel))) rfl
theorem tw_1329 : Cond.selects RX11 yX11_judge yX11_judge ∈ wTab := mw (tt_6 _ (List.mem_of_getElem? (i := 27) (by decide +kernel))) rfl
theorem tw_1330 : Cond.code yX11_judge cX11_judge 3 (some .int) ∈ wTab := mw (tt_6 _ (List.mem_of_getElem? (i := 28) (by decide +kernel))) rfl
theorem tw_1332 : Cond.instanceMethod yX11_beside ∈ wTab := mw (tt_6 _ (List.mem_of_getElem? (i := 30) (by decide +kernel))) rfl
theorem tw_1333 : Cond.selects RX11 yX11_beside yX11_beside ∈ wTab := mw (tt_6 _ (List.mem_of_getElem? (i := 31) (by decide +kernel))) rfl
theorem tw_1334 : Cond.code yX11_beside cX11_beside 4 (some .long) ∈ wTab := mw (tt_6 _ (List.mem_of_getElem? (i := 32) (by decide +kernel))) rfl
theorem tw_1335 : Cond.constantLong RX11 332 (-2000000000000) ∈ wTab := mw (tt_6 _ (List.mem_of_getElem? (i := 33) (by decide +kernel))) rfl
theorem tw_1336 : Cond.methodLink RX11 334 yX11_gotOnPaper ∈ wTab := mw (tt_6 _ (List.mem_of_getElem? (i := 34) (by decide +kernel))) rfl
theorem tw_1338 : Cond.instanceMethod yX11_gotOnPaper ∈ wTab := mw (tt_6 _ (List.mem_of_getElem? (i := 36) (by decide +kernel))) rfl
theorem tw_1339 : Cond.code yX11_gotOnPaper cX11_gotOnPaper 4 (some .long) ∈ wTab := mw (tt_6 _ (List.mem_of_getElem? (i := 37) (by decide +kernel))) rfl
theorem tw_1341 : Cond.instanceMethod yX11_seal ∈ wTab := mw (tt_6 _ (List.mem_of_getElem? (i := 39) (by decide +kernel))) rfl
theorem tw_1342 : Cond.selects RX11 yX11_seal yX11_seal ∈ wTab := mw (tt_6 _ (List.mem_of_getElem? (i := 40) (by decide +kernel))) rfl
theorem tw_1343 : Cond.code yX11_seal cX11_seal 1 (some .int) ∈ wTab := mw (tt_6 _ (List.mem_of_getElem? (i := 41) (by decide +kernel))) rfl
theorem tw_1344 : Cond.methodLink RX11 338 yX1_keepSums ∈ wTab := mw (tt_6 _ (List.mem_of_getElem? (i := 42) (by decide +kernel))) rfl
theorem tw_1345 : Cond.instanceMethod yX1_keepSums ∈ wTab := mw (tt_6 _ (List.mem_of_getElem? (i := 43) (by decide +kernel))) rfl
theorem tw_1346 : Cond.selects RX1 yX1_keepSums yX1_keepSums ∈ wTab := mw (tt_6 _ (List.mem_of_getElem? (i := 44) (by decide +kernel))) rfl
theorem tw_1347 : Cond.code yX1_keepSums cX1_keepSums 1 none ∈ wTab := mw (tt_6 _ (List.mem_of_getElem? (i := 45) (by decide +kernel))) rfl
theorem tw_1348 : Cond.methodLink RX1 58 yX1_sumOfRents ∈ wTab := mw (tt_6 _ (List.mem_of_getElem? (i := 46) (by decide +kernel))) rfl
theorem tw_1349 : Cond.instanceMethod yX1_sumOfRents ∈ wTab := mw (tt_6 _ (List.mem_of_getElem? (i := 47) (by decide +kernel))) rfl
theorem tw_1350 : Cond.selects RX1 yX1_sumOfRents yX1_sumOfRents ∈ wTab := mw (tt_6 _ (List.mem_of_getElem? (i := 48) (by decide +kernel))) rfl
theorem tw_1351 : Cond.code yX1_sumOfRents cX1_sumOfRents 4 (some .long) ∈ wTab := mw (tt_6 _ (List.mem_of_getElem? (i := 49) (by decide +kernel))) rfl
theorem tw_1352 : Cond.methodLink RX1 66 yX1_sumByPlace ∈ wTab := mw (tt_6 _ (List.mem_of_getElem? (i := 50) (by decide +kernel))) rfl
theorem tw_1353 : Cond.instanceMethod yX1_sumByPlace ∈ wTab := mw (tt_6 _ (List.mem_of_getElem? (i := 51) (by decide +kernel))) rfl
theorem tw_1354 : Cond.selects RX1 yX1_sumByPlace yX1_sumByPlace ∈ wTab := mw (tt_6 _ (List.mem_of_getElem? (i := 52) (by decide +kernel))) rfl
theorem tw_1355 : Cond.code yX1_sumByPlace cX1_sumByPlace 4 (some .long) ∈ wTab := mw (tt_6 _ (List.mem_of_getElem? (i := 53) (by decide +kernel))) rfl
theorem tw_1357 : Cond.instanceMethod yX11_alter ∈ wTab := mw (tt_6 _ (List.mem_of_getElem? (i := 55) (by decide +kernel))) rfl
theorem tw_1358 : Cond.selects RX11 yX11_alter yX11_alter ∈ wTab := mw (tt_6 _ (List.mem_of_getElem? (i := 56) (by decide +kernel))) rfl
theorem tw_1359 : Cond.code yX11_alter cX11_alter 3 (some .int) ∈ wTab := mw (tt_6 _ (List.mem_of_getElem? (i := 57) (by decide +kernel))) rfl
theorem tw_1361 : Cond.instanceMethod yX11_found ∈ wTab := mw (tt_6 _ (List.mem_of_getElem? (i := 59) (by decide +kernel))) rfl
theorem tw_1362 : Cond.selects RX11 yX11_found yX11_found ∈ wTab := mw (tt_6 _ (List.mem_of_getElem? (i := 60) (by decide +kernel))) rfl
theorem tw_1363 : Cond.code yX11_found cX11_found 1 (some .int) ∈ wTab := mw (tt_6 _ (List.mem_of_getElem? (i := 61) (by decide +kernel))) rfl
theorem tw_1364 : Cond.methodLink RX11 341 yX1_findAltered ∈ wTab := mw (tt_6 _ (List.mem_of_getElem? (i := 62) (by decide +kernel))) rfl
theorem tw_1365 : Cond.instanceMethod yX1_findAltered ∈ wTab := mw (tt_6 _ (List.mem_of_getElem? (i := 63) (by decide +kernel))) rfl
theorem tw_1366 : Cond.selects RX1 yX1_findAltered yX1_findAltered ∈ wTab := mw (tt_6 _ (List.mem_of_getElem? (i := 64) (by decide +kernel))) rfl
theorem tw_1367 : Cond.code yX1_findAltered cX1_findAltered 6 (some .int) ∈ wTab := mw (tt_6 _ (List.mem_of_getElem? (i := 65) (by decide +kernel))) rfl
theorem tw_1369 : Cond.instanceMethod yX11_image ∈ wTab := mw (tt_6 _ (List.mem_of_getElem? (i := 67) (by decide +kernel))) rfl
theorem tw_1370 : Cond.selects RX11 yX11_image yX11_image ∈ wTab := mw (tt_6 _ (List.mem_of_getElem? (i := 68) (by decide +kernel))) rfl
theorem tw_1371 : Cond.code yX11_image cX11_image 2 (some .int) ∈ wTab := mw (tt_6 _ (List.mem_of_getElem? (i := 69) (by decide +kernel))) rfl
theorem tw_1373 : Cond.instanceMethod yX11_back ∈ wTab := mw (tt_6 _ (List.mem_of_getElem? (i := 71) (by decide +kernel))) rfl
theorem tw_1374 : Cond.selects RX11 yX11_back yX11_back ∈ wTab := mw (tt_6 _ (List.mem_of_getElem? (i := 72) (by decide +kernel))) rfl
theorem tw_1375 : Cond.code yX11_back cX11_back 2 (some .int) ∈ wTab := mw (tt_6 _ (List.mem_of_getElem? (i := 73) (by decide +kernel))) rfl
theorem tw_1377 : Cond.instanceMethod yX11_count ∈ wTab := mw (tt_6 _ (List.mem_of_getElem? (i := 75) (by decide +kernel))) rfl
theorem tw_1378 : Cond.selects RX11 yX11_count yX11_count ∈ wTab := mw (tt_6 _ (List.mem_of_getElem? (i := 76) (by decide +kernel))) rfl
theorem tw_1379 : Cond.code yX11_count cX11_count 2 (some .int) ∈ wTab := mw (tt_6 _ (List.mem_of_getElem? (i := 77) (by decide +kernel))) rfl
theorem tw_1381 : Cond.instanceMethod yX11_status ∈ wTab := mw (tt_6 _ (List.mem_of_getElem? (i := 79) (by decide +kernel))) rfl
theorem tw_1382 : Cond.selects RX11 yX11_status yX11_status ∈ wTab := mw (tt_6 _ (List.mem_of_getElem? (i := 80) (by decide +kernel))) rfl
theorem tw_1383 : Cond.code yX11_status cX11_status 1 (some .int) ∈ wTab := mw (tt_6 _ (List.mem_of_getElem? (i := 81) (by decide +kernel))) rfl
theorem tw_1390 : Cond.constant RX12 7 (35942) ∈ wTab := mw (tt_6 _ (List.mem_of_getElem? (i := 88) (by decide +kernel))) rfl
theorem tw_1392 : Cond.fieldLink RX12 82 "NoRentModel" "thrown" "I" ∈ wTab := mw (tt_6 _ (List.mem_of_getElem? (i := 90) (by decide +kernel))) rfl
theorem tw_1393 : Cond.fieldLink RX12 85 "NoRentModel" "status" "I" ∈ wTab := mw (tt_6 _ (List.mem_of_getElem? (i := 91) (by decide +kernel))) rfl
theorem tw_1394 : Cond.fieldLink RX12 8 "NoRentModel" "row" "[I" ∈ wTab := mw (tt_6 _ (List.mem_of_getElem? (i := 92) (by decide +kernel))) rfl
theorem tw_1395 : Cond.fieldLink RX12 15 "NoRentModel" "images" "[I" ∈ wTab := mw (tt_6 _ (List.mem_of_getElem? (i := 93) (by decide +kernel))) rfl
theorem tw_1396 : Cond.fieldLink RX12 18 "NoRentModel" "paper" "[I" ∈ wTab := mw (tt_6 _ (List.mem_of_getElem? (i := 94) (by decide +kernel))) rfl
theorem tw_1397 : Cond.fieldLink RX12 21 "NoRentModel" "isKept" "[Z" ∈ wTab := mw (tt_6 _ (List.mem_of_getElem? (i := 95) (by decide +kernel))) rfl
theorem tw_1398 : Cond.fieldLink RX12 161 "NoRentModel" "isPaper" "Z" ∈ wTab := mw (tt_6 _ (List.mem_of_getElem? (i := 96) (by decide +kernel))) rfl
theorem tw_1399 : Cond.fieldLink RX12 165 "NoRentModel" "paperPrice" "I" ∈ wTab := mw (tt_6 _ (List.mem_of_getElem? (i := 97) (by decide +kernel))) rfl
theorem tw_1400 : Cond.fieldLink RX12 452 "NoRentModel" "paperSacks" "I" ∈ wTab := mw (tt_6 _ (List.mem_of_getElem? (i := 98) (by decide +kernel))) rfl
theorem tw_1401 : Cond.fieldLink RX12 25 "NoRentModel" "numbers" "[D" ∈ wTab := mw (tt_6 _ (List.mem_of_getElem? (i := 99) (by decide +kernel))) rfl
theorem tw_1402 : Cond.fieldLink RX12 29 "NoRentModel" "isNumber" "[Z" ∈ wTab := mw (tt_6 _ (List.mem_of_getElem? (i := 100) (by decide +kernel))) rfl
theorem tw_1403 : Cond.fieldLink RX12 32 "NoRentModel" "tape" "[I" ∈ wTab := mw (tt_6 _ (List.mem_of_getElem? (i := 101) (by decide +kernel))) rfl
theorem tw_1404 : Cond.fieldLink RX12 174 "NoRentModel" "taped" "I" ∈ wTab := mw (tt_6 _ (List.mem_of_getElem? (i := 102) (by decide +kernel))) rfl
theorem tw_1405 : Cond.fieldLink RX12 199 "NoRentModel" "from" "I" ∈ wTab := mw (tt_6 _ (List.mem_of_getElem? (i := 103) (by decide +kernel))) rfl
theorem tw_1406 : Cond.fieldLink RX12 190 "NoRentModel" "to" "I" ∈ wTab := mw (tt_6 _ (List.mem_of_getElem? (i := 104) (by decide +kernel))) rfl
theorem tw_1407 : Cond.fieldLink RX12 212 "NoRentModel" "sort" "I" ∈ wTab := mw (tt_6 _ (List.mem_of_getElem? (i := 105) (by decide +kernel))) rfl
theorem tw_1408 : Cond.fieldLink RX12 202 "NoRentModel" "worth" "J" ∈ wTab := mw (tt_6 _ (List.mem_of_getElem? (i := 106) (by decide +kernel))) rfl
theorem tw_1409 : Cond.fieldLink RX12 35 "NoRentModel" "fault" "I" ∈ wTab := mw (tt_6 _ (List.mem_of_getElem? (i := 107) (by decide +kernel))) rfl
theorem tw_1410 : Cond.fieldLink RX12 193 "NoRentModel" "bad" "Z" ∈ wTab := mw (tt_6 _ (List.mem_of_getElem? (i := 108) (by decide +kernel))) rfl
theorem tw_1411 : Cond.fieldLink RX12 356 "NoRentModel" "nClauses" "I" ∈ wTab := mw (tt_6 _ (List.mem_of_getElem? (i := 109) (by decide +kernel))) rfl
theorem tw_1412 : Cond.fieldLink RX12 39 "NoRentModel" "nClause" "[I" ∈ wTab := mw (tt_6 _ (List.mem_of_getElem? (i := 110) (by decide +kernel))) rfl
theorem tw_1413 : Cond.fieldLink RX12 229 "NoRentModel" "nCode" "I" ∈ wTab := mw (tt_6 _ (List.mem_of_getElem? (i := 111) (by decide +kernel))) rfl
theorem tw_1414 : Cond.fieldLink RX12 42 "NoRentModel" "nOp" "[I" ∈ wTab := mw (tt_6 _ (List.mem_of_getElem? (i := 112) (by decide +kernel))) rfl
theorem tw_1415 : Cond.fieldLink RX12 45 "NoRentModel" "nArg" "[I" ∈ wTab := mw (tt_6 _ (List.mem_of_getElem? (i := 113) (by decide +kernel))) rfl
theorem tw_1416 : Cond.fieldLink RX12 290 "NoRentModel" "nLeaves" "I" ∈ wTab := mw (tt_6 _ (List.mem_of_getElem? (i := 114) (by decide +kernel))) rfl
theorem tw_1417 : Cond.fieldLink RX12 48 "NoRentModel" "pile" "[I" ∈ wTab := mw (tt_6 _ (List.mem_of_getElem? (i := 115) (by decide +kernel))) rfl
theorem tw_1418 : Cond.fieldLink RX12 51 "NoRentModel" "pileAt" "[I" ∈ wTab := mw (tt_6 _ (List.mem_of_getElem? (i := 116) (by decide +kernel))) rfl
theorem tw_1419 : Cond.fieldLink RX12 232 "NoRentModel" "piled" "I" ∈ wTab := mw (tt_6 _ (List.mem_of_getElem? (i := 117) (by decide +kernel))) rfl
theorem tw_1420 : Cond.fieldLink RX12 284 "NoRentModel" "opened" "I" ∈ wTab := mw (tt_6 _ (List.mem_of_getElem? (i := 118) (by decide +kernel))) rfl
theorem tw_1421 : Cond.fieldLink RX12 54 "NoRentModel" "isOn" "[Z" ∈ wTab := mw (tt_6 _ (List.mem_of_getElem? (i := 119) (by decide +kernel))) rfl
theorem tw_1422 : Cond.fieldLink RX12 57 "NoRentModel" "isStruck" "[Z" ∈ wTab := mw (tt_6 _ (List.mem_of_getElem? (i := 120) (by decide +kernel))) rfl
theorem tw_1423 : Cond.fieldLink RX12 60 "NoRentModel" "set" "[J" ∈ wTab := mw (tt_6 _ (List.mem_of_getElem? (i := 121) (by decide +kernel))) rfl
theorem tw_1424 : Cond.fieldLink RX12 64 "NoRentModel" "rest" "[J" ∈ wTab := mw (tt_6 _ (List.mem_of_getElem? (i := 122) (by decide +kernel))) rfl
theorem tw_1425 : Cond.fieldLink RX12 406 "NoRentModel" "broken" "Z" ∈ wTab := mw (tt_6 _ (List.mem_of_getElem? (i := 123) (by decide +kernel))) rfl
theorem tw_1426 : Cond.fieldLink RX12 417 "NoRentModel" "value" "J" ∈ wTab := mw (tt_6 _ (List.mem_of_getElem? (i := 124) (by decide +kernel))) rfl
theorem tw_1427 : Cond.fieldLink RX12 424 "NoRentModel" "sum" "J" ∈ wTab := mw (tt_6 _ (List.mem_of_getElem? (i := 125) (by decide +kernel))) rfl
theorem tw_1428 : Cond.fieldLink RX12 427 "NoRentModel" "lastSum" "J" ∈ wTab := mw (tt_6 _ (List.mem_of_getElem? (i := 126) (by decide +kernel))) rfl
theorem tw_1429 : Cond.fieldLink RX12 430 "NoRentModel" "allSums" "J" ∈ wTab := mw (tt_6 _ (List.mem_of_getElem? (i := 127) (by decide +kernel))) rfl
theorem tw_1430 : Cond.fieldLink RX12 461 "NoRentModel" "outs" "I" ∈ wTab := mw (tt_6 _ (List.mem_of_getElem? (i := 128) (by decide +kernel))) rfl
theorem tw_1431 : Cond.fieldLink RX12 67 "NoRentModel" "willBe" "[Z" ∈ wTab := mw (tt_6 _ (List.mem_of_getElem? (i := 129) (by decide +kernel))) rfl
theorem tw_1432 : Cond.fieldLink RX12 70 "NoRentModel" "saves" "[I" ∈ wTab := mw (tt_6 _ (List.mem_of_getElem? (i := 130) (by decide +kernel))) rfl
theorem tw_1433 : Cond.fieldLink RX12 446 "NoRentModel" "wishes" "I" ∈ wTab := mw (tt_6 _ (List.mem_of_getElem? (i := 131) (by decide +kernel))) rfl
theorem tw_1434 : Cond.fieldLink RX12 73 "NoRentModel" "wish" "[I" ∈ wTab := mw (tt_6 _ (List.mem_of_getElem? (i := 132) (by decide +kernel))) rfl
theorem tw_1435 : Cond.fieldLink RX12 504 "NoRentModel" "crops" "I" ∈ wTab := mw (tt_6 _ (List.mem_of_getElem? (i := 133) (by decide +kernel))) rfl
theorem tw_1436 : Cond.fieldLink RX12 76 "NoRentModel" "cropPrice" "[I" ∈ wTab := mw (tt_6 _ (List.mem_of_getElem? (i := 134) (by decide +kernel))) rfl
theorem tw_1437 : Cond.fieldLink RX12 79 "NoRentModel" "cropSacks" "[I" ∈ wTab := mw (tt_6 _ (List.mem_of_getElem? (i := 135) (by decide +kernel))) rfl
theorem tw_1438 : Cond.fieldLink RX12 449 "NoRentModel" "choices" "I" ∈ wTab := mw (tt_6 _ (List.mem_of_getElem? (i := 136) (by decide +kernel))) rfl
theorem tw_1439 : Cond.fieldLink RX12 525 "NoRentModel" "hasBest" "Z" ∈ wTab := mw (tt_6 _ (List.mem_of_getElem? (i := 137) (by decide +kernel))) rfl
theorem tw_1440 : Cond.fieldLink RX12 528 "NoRentModel" "bestMany" "I" ∈ wTab := mw (tt_6 _ (List.mem_of_getElem? (i := 138) (by decide +kernel))) rfl
theorem tw_1441 : Cond.fieldLink RX12 522 "NoRentModel" "bestChoices" "I" ∈ wTab := mw (tt_6 _ (List.mem_of_getElem? (i := 139) (by decide +kernel))) rfl
theorem tw_1442 : Cond.fieldLink RX12 537 "NoRentModel" "fieldSum" "I" ∈ wTab := mw (tt_6 _ (List.mem_of_getElem? (i := 140) (by decide +kernel))) rfl
theorem tw_1443 : Cond.fieldLink RX12 540 "NoRentModel" "fieldPlaces" "I" ∈ wTab := mw (tt_6 _ (List.mem_of_getElem? (i := 141) (by decide +kernel))) rfl
theorem tw_1551 : Cond.instanceMethod yX12_image ∈ wTab := mw (tt_7 _ (List.mem_of_getElem? (i := 9) (by decide +kernel))) rfl
theorem tw_1552 : Cond.selects RX12 yX12_image yX12_image ∈ wTab := mw (tt_7 _ (List.mem_of_getElem? (i := 10) (by decide +kernel))) rfl
theorem tw_1553 : Cond.code yX12_image cX12_image 3 (some .int) ∈ wTab := mw (tt_7 _ (List.mem_of_getElem? (i := 11) (by decide +kernel))) rfl
theorem tw_1554 : Cond.methodLink RX12 90 yX12_in ∈ wTab := mw (tt_7 _ (List.mem_of_getElem? (i := 12) (by decide +kernel))) rfl
theorem tw_1555 : Cond.static yX12_in ∈ wTab := mw (tt_7 _ (List.mem_of_getElem? (i := 13) (by decide +kernel))) rfl
theorem tw_1556 : Cond.code yX12_in cX12_in 6 (some .boolean) ∈ wTab := mw (tt_7 _ (List.mem_of_getElem? (i := 14) (by decide +kernel))) rfl
theorem tw_1557 : Cond.methodLink RX12 94 yX12_told ∈ wTab := mw (tt_7 _ (List.mem_of_getElem? (i := 15) (by decide +kernel))) rfl
theorem tw_1559 : Cond.instanceMethod yX12_told ∈ wTab := mw (tt_7 _ (List.mem_of_getElem? (i := 17) (by decide +kernel))) rfl
theorem tw_1560 : Cond.code yX12_told cX12_told 2 (some .int) ∈ wTab := mw (tt_7 _ (List.mem_of_getElem? (i := 18) (by decide +kernel))) rfl
theorem tw_1562 : Cond.instanceMethod yX12_back ∈ wTab := mw (tt_7 _ (List.mem_of_getElem? (i := 20) (by decide +kernel))) rfl
theorem tw_1563 : Cond.selects RX12 yX12_back yX12_back ∈ wTab := mw (tt_7 _ (List.mem_of_getElem? (i := 21) (by decide +kernel))) rfl
theorem tw_1564 : Cond.code yX12_back cX12_back 3 (some .int) ∈ wTab := mw (tt_7 _ (List.mem_of_getElem? (i := 22) (by decide +kernel))) rfl
theorem tw_1566 : Cond.instanceMethod yX12_person ∈ wTab := mw (tt_7 _ (List.mem_of_getElem? (i := 24) (by decide +kernel))) rfl
theorem tw_1567 : Cond.selects RX12 yX12_person yX12_person ∈ wTab := mw (tt_7 _ (List.mem_of_getElem? (i := 25) (by decide +kernel))) rfl
theorem tw_1568 : Cond.code yX12_person cX12_person 5 (some .int) ∈ wTab := mw (tt_7 _ (List.mem_of_getElem? (i := 26) (by decide +kernel))) rfl
theorem tw_1569 : Cond.constantLong RX12 98 (19) ∈ wTab := mw (tt_7 _ (List.mem_of_getElem? (i := 27) (by decide +kernel))) rfl
theorem tw_1570 : Cond.constantLong RX12 100 (1000000) ∈ wTab := mw (tt_7 _ (List.mem_of_getElem? (i := 28) (by decide +kernel))) rfl
theorem tw_1571 : Cond.constantLong RX12 102 (100) ∈ wTab := mw (tt_7 _ (List.mem_of_getElem? (i := 29) (by decide +kernel))) rfl
theorem tw_1572 : Cond.methodLink RX12 104 yX12_personAt ∈ wTab := mw (tt_7 _ (List.mem_of_getElem? (i := 30) (by decide +kernel))) rfl
theorem tw_1573 : Cond.static yX12_personAt ∈ wTab := mw (tt_7 _ (List.mem_of_getElem? (i := 31) (by decide +kernel))) rfl
theorem tw_1574 : Cond.code yX12_personAt cX12_personAt 1 (some .int) ∈ wTab := mw (tt_7 _ (List.mem_of_getElem? (i := 32) (by decide +kernel))) rfl
theorem tw_1575 : Cond.methodLink RX12 107 yX12_addFour ∈ wTab := mw (tt_7 _ (List.mem_of_getElem? (i := 33) (by decide +kernel))) rfl
theorem tw_1577 : Cond.instanceMethod yX12_addFour ∈ wTab := mw (tt_7 _ (List.mem_of_getElem? (i := 35) (by decide +kernel))) rfl
theorem tw_1578 : Cond.code yX12_addFour cX12_addFour 6 none ∈ wTab := mw (tt_7 _ (List.mem_of_getElem? (i := 36) (by decide +kernel))) rfl
theorem tw_1580 : Cond.instanceMethod yX12_heed ∈ wTab := mw (tt_7 _ (List.mem_of_getElem? (i := 38) (by decide +kernel))) rfl
theorem tw_1581 : Cond.selects RX12 yX12_heed yX12_heed ∈ wTab := mw (tt_7 _ (List.mem_of_getElem? (i := 39) (by decide +kernel))) rfl
theorem tw_1582 : Cond.code yX12_heed cX12_heed 3 (some .int) ∈ wTab := mw (tt_7 _ (List.mem_of_getElem? (i := 40) (by decide +kernel))) rfl
theorem tw_1583 : Cond.methodLink RX12 111 yX12_isPerson ∈ wTab := mw (tt_7 _ (List.mem_of_getElem? (i := 41) (by decide +kernel))) rfl
theorem tw_1585 : Cond.instanceMethod yX12_isPerson ∈ wTab := mw (tt_7 _ (List.mem_of_getElem? (i := 43) (by decide +kernel))) rfl
theorem tw_1586 : Cond.code yX12_isPerson cX12_isPerson 2 (some .boolean) ∈ wTab := mw (tt_7 _ (List.mem_of_getElem? (i := 44) (by decide +kernel))) rfl
theorem tw_1588 : Cond.instanceMethod yX12_goes ∈ wTab := mw (tt_7 _ (List.mem_of_getElem? (i := 46) (by decide +kernel))) rfl
theorem tw_1589 : Cond.selects RX12 yX12_goes yX12_goes ∈ wTab := mw (tt_7 _ (List.mem_of_getElem? (i := 47) (by decide +kernel))) rfl
theorem tw_1590 : Cond.code yX12_goes cX12_goes 3 (some .int) ∈ wTab := mw (tt_7 _ (List.mem_of_getElem? (i := 48) (by decide +kernel))) rfl
theorem tw_1591 : Cond.constantLong RX12 115 (4) ∈ wTab := mw (tt_7 _ (List.mem_of_getElem? (i := 49) (by decide +kernel))) rfl
theorem tw_1593 : Cond.instanceMethod yX12_coin ∈ wTab := mw (tt_7 _ (List.mem_of_getElem? (i := 51) (by decide +kernel))) rfl
theorem tw_1594 : Cond.selects RX12 yX12_coin yX12_coin ∈ wTab := mw (tt_7 _ (List.mem_of_getElem? (i := 52) (by decide +kernel))) rfl
theorem tw_1595 : Cond.code yX12_coin cX12_coin 3 (some .int) ∈ wTab := mw (tt_7 _ (List.mem_of_getElem? (i := 53) (by decide +kernel))) rfl
theorem tw_1596 : Cond.methodLink RX12 117 yX12_gets ∈ wTab := mw (tt_7 _ (List.mem_of_getElem? (i := 54) (by decide +kernel))) rfl
theorem tw_1598 : Cond.instanceMethod yX12_gets ∈ wTab := mw (tt_7 _ (List.mem_of_getElem? (i := 56) (by decide +kernel))) rfl
theorem tw_1599 : Cond.code yX12_gets cX12_gets 5 none ∈ wTab := mw (tt_7 _ (List.mem_of_getElem? (i := 57) (by decide +kernel))) rfl
theorem tw_1600 : Cond.constant RX12 121 (10000000) ∈ wTab := mw (tt_7 _ (List.mem_of_getElem? (i := 58) (by decide +kernel))) rfl
theorem tw_1601 : Cond.constantLong RX12 122 (10000000) ∈ wTab := mw (tt_7 _ (List.mem_of_getElem? (i := 59) (by decide +kernel))) rfl
theorem tw_1603 : Cond.instanceMethod yX12_give ∈ wTab := mw (tt_7 _ (List.mem_of_getElem? (i := 61) (by decide +kernel))) rfl
theorem tw_1604 : Cond.selects RX12 yX12_give yX12_give ∈ wTab := mw (tt_7 _ (List.mem_of_getElem? (i := 62) (by decide +kernel))) rfl
theorem tw_1605 : Cond.code yX12_give cX12_give 2 (some .int) ∈ wTab := mw (tt_7 _ (List.mem_of_getElem? (i := 63) (by decide +kernel))) rfl
theorem tw_1606 : Cond.constant RX12 124 (100000000) ∈ wTab := mw (tt_7 _ (List.mem_of_getElem? (i := 64) (by decide +kernel))) rfl
theorem tw_1608 : Cond.instanceMethod yX12_estate ∈ wTab := mw (tt_7 _ (List.mem_of_getElem? (i := 66) (by decide +kernel))) rfl
theorem tw_1609 : Cond.selects RX12 yX12_estate yX12_estate ∈ wTab := mw (tt_7 _ (List.mem_of_getElem? (i := 67) (by decide +kernel))) rfl
theorem tw_1610 : Cond.code yX12_estate cX12_estate 4 (some .int) ∈ wTab := mw (tt_7 _ (List.mem_of_getElem? (i := 68) (by decide +kernel))) rfl
theorem tw_1611 : Cond.methodLink RX12 125 yX12_estateAt ∈ wTab := mw (tt_7 _ (List.mem_of_getElem? (i := 69) (by decide +kernel))) rfl
theorem tw_1612 : Cond.static yX12_estateAt ∈ wTab := mw (tt_7 _ (List.mem_of_getElem? (i := 70) (by decide +kernel))) rfl
theorem tw_1613 : Cond.code yX12_estateAt cX12_estateAt 1 (some .int) ∈ wTab := mw (tt_7 _ (List.mem_of_getElem? (i := 71) (by decide +kernel))) rfl
theorem tw_1615 : Cond.instanceMethod yX12_field ∈ wTab := mw (tt_7 _ (List.mem_of_getElem? (i := 73) (by decide +kernel))) rfl
theorem tw_1616 : Cond.selects RX12 yX12_field yX12_field ∈ wTab := mw (tt_7 _ (List.mem_of_getElem? (i := 74) (by decide +kernel))) rfl
theorem tw_1617 : Cond.code yX12_field cX12_field 6 (some .int) ∈ wTab := mw (tt_7 _ (List.mem_of_getElem? (i := 75) (by decide +kernel))) rfl
theorem tw_1618 : Cond.constantLong RX12 128 (1000) ∈ wTab := mw (tt_7 _ (List.mem_of_getElem? (i := 76) (by decide +kernel))) rfl
theorem tw_1619 : Cond.constantLong RX12 130 (100000) ∈ wTab := mw (tt_7 _ (List.mem_of_getElem? (i := 77) (by decide +kernel))) rfl
theorem tw_1620 : Cond.methodLink RX12 132 yX12_isEstate ∈ wTab := mw (tt_7 _ (List.mem_of_getElem? (i := 78) (by decide +kernel))) rfl
theorem tw_1622 : Cond.instanceMethod yX12_isEstate ∈ wTab := mw (tt_7 _ (List.mem_of_getElem? (i := 80) (by decide +kernel))) rfl
theorem tw_1623 : Cond.code yX12_isEstate cX12_isEstate 2 (some .boolean) ∈ wTab := mw (tt_7 _ (List.mem_of_getElem? (i := 81) (by decide +kernel))) rfl
theorem tw_1624 : Cond.methodLink RX12 135 yX12_fieldAt ∈ wTab := mw (tt_7 _ (List.mem_of_getElem? (i := 82) (by decide +kernel))) rfl
theorem tw_1625 : Cond.static yX12_fieldAt ∈ wTab := mw (tt_7 _ (List.mem_of_getElem? (i := 83) (by decide +kernel))) rfl
theorem tw_1626 : Cond.code yX12_fieldAt cX12_fieldAt 1 (some .int) ∈ wTab := mw (tt_7 _ (List.mem_of_getElem? (i := 84) (by decide +kernel))) rfl
theorem tw_1628 : Cond.instanceMethod yX12_of ∈ wTab := mw (tt_7 _ (List.mem_of_getElem? (i := 86) (by decide +kernel))) rfl
theorem tw_1629 : Cond.selects RX12 yX12_of yX12_of ∈ wTab := mw (tt_7 _ (List.mem_of_getElem? (i := 87) (by decide +kernel))) rfl
theorem tw_1630 : Cond.code yX12_of cX12_of 4 (some .int) ∈ wTab := mw (tt_7 _ (List.mem_of_getElem? (i := 88) (by decide +kernel))) rfl
theorem tw_1631 : Cond.methodLink RX12 138 yX12_kinOf ∈ wTab := mw (tt_7 _ (List.mem_of_getElem? (i := 89) (by decide +kernel))) rfl
theorem tw_1633 : Cond.instanceMethod yX12_kinOf ∈ wTab := mw (tt_7 _ (List.mem_of_getElem? (i := 91) (by decide +kernel))) rfl
theorem tw_1634 : Cond.code yX12_kinOf cX12_kinOf 4 (some .int) ∈ wTab := mw (tt_7 _ (List.mem_of_getElem? (i := 92) (by decide +kernel))) rfl
theorem tw_1636 : Cond.instanceMethod yX12_tells ∈ wTab := mw (tt_7 _ (List.mem_of_getElem? (i := 94) (by decide +kernel))) rfl
theorem tw_1637 : Cond.selects RX12 yX12_tells yX12_tells ∈ wTab := mw (tt_7 _ (List.mem_of_getElem? (i := 95) (by decide +kernel))) rfl
theorem tw_1638 : Cond.code yX12_tells cX12_tells 5 (some .int) ∈ wTab := mw (tt_7 _ (List.mem_of_getElem? (i := 96) (by decide +kernel))) rfl
theorem tw_1639 : Cond.methodLink RX12 141 yX12_isField ∈ wTab := mw (tt_7 _ (List.mem_of_getElem? (i := 97) (by decide +kernel))) rfl
theorem tw_1641 : Cond.instanceMethod yX12_isField ∈ wTab := mw (tt_7 _ (List.mem_of_getElem? (i := 99) (by decide +kernel))) rfl
theorem tw_1642 : Cond.code yX12_isField cX12_isField 2 (some .boolean) ∈ wTab := mw (tt_7 _ (List.mem_of_getElem? (i := 100) (by decide +kernel))) rfl
theorem tw_1643 : Cond.methodLink RX12 144 yX12_writOf ∈ wTab := mw (tt_7 _ (List.mem_of_getElem? (i := 101) (by decide +kernel))) rfl
theorem tw_1645 : Cond.instanceMethod yX12_writOf ∈ wTab := mw (tt_7 _ (List.mem_of_getElem? (i := 103) (by decide +kernel))) rfl
theorem tw_1646 : Cond.code yX12_writOf cX12_writOf 4 (some .int) ∈ wTab := mw (tt_7 _ (List.mem_of_getElem? (i := 104) (by decide +kernel))) rfl
theorem tw_1647 : Cond.methodLink RX12 147 yX12_forceNow ∈ wTab := mw (tt_7 _ (List.mem_of_getElem? (i := 105) (by decide +kernel))) rfl
theorem tw_1649 : Cond.instanceMethod yX12_forceNow ∈ wTab := mw (tt_7 _ (List.mem_of_getElem? (i := 107) (by decide +kernel))) rfl
theorem tw_1650 : Cond.code yX12_forceNow cX12_forceNow 1 none ∈ wTab := mw (tt_7 _ (List.mem_of_getElem? (i := 108) (by decide +kernel))) rfl
theorem tw_1651 : Cond.methodLink RX12 392 yX12_findForce ∈ wTab := mw (tt_7 _ (List.mem_of_getElem? (i := 109) (by decide +kernel))) rfl
theorem tw_1653 : Cond.instanceMethod yX12_findForce ∈ wTab := mw (tt_7 _ (List.mem_of_getElem? (i := 111) (by decide +kernel))) rfl
theorem tw_1654 : Cond.code yX12_findForce cX12_findForce 5 none ∈ wTab := mw (tt_7 _ (List.mem_of_getElem? (i := 112) (by decide +kernel))) rfl
theorem tw_1655 : Cond.methodLink RX12 382 yX12_textAt ∈ wTab := mw (tt_7 _ (List.mem_of_getElem? (i := 113) (by decide +kernel))) rfl
theorem tw_1656 : Cond.static yX12_textAt ∈ wTab := mw (tt_7 _ (List.mem_of_getElem? (i := 114) (by decide +kernel))) rfl
theorem tw_1657 : Cond.code yX12_textAt cX12_textAt 1 (some .int) ∈ wTab := mw (tt_7 _ (List.mem_of_getElem? (i := 115) (by decide +kernel))) rfl
theorem tw_1658 : Cond.methodLink RX12 388 yX12_clauseAt ∈ wTab := mw (tt_7 _ (List.mem_of_getElem? (i := 116) (by decide +kernel))) rfl
theorem tw_1659 : Cond.static yX12_clauseAt ∈ wTab := mw (tt_7 _ (List.mem_of_getElem? (i := 117) (by decide +kernel))) rfl
theorem tw_1660 : Cond.code yX12_clauseAt cX12_clauseAt 2 (some .int) ∈ wTab := mw (tt_7 _ (List.mem_of_getElem? (i := 118) (by decide +kernel))) rfl
theorem tw_1661 : Cond.methodLink RX12 150 yX12_fairOf ∈ wTab := mw (tt_7 _ (List.mem_of_getElem? (i := 119) (by decide +kernel))) rfl
theorem tw_1663 : Cond.instanceMethod yX12_fairOf ∈ wTab := mw (tt_7 _ (List.mem_of_getElem? (i := 121) (by decide +kernel))) rfl
theorem tw_1664 : Cond.code yX12_fairOf cX12_fairOf 3 (some .int) ∈ wTab := mw (tt_7 _ (List.mem_of_getElem? (i := 122) (by decide +kernel))) rfl
theorem tw_1665 : Cond.methodLink RX12 439 yX12_rentOf ∈ wTab := mw (tt_7 _ (List.mem_of_getElem? (i := 123) (by decide +kernel))) rfl
theorem tw_1667 : Cond.instanceMethod yX12_rentOf ∈ wTab := mw (tt_7 _ (List.mem_of_getElem? (i := 125) (by decide +kernel))) rfl
theorem tw_1668 : Cond.code yX12_rentOf cX12_rentOf 2 (some .int) ∈ wTab := mw (tt_7 _ (List.mem_of_getElem? (i := 126) (by decide +kernel))) rfl
theorem tw_1669 : Cond.methodLink RX12 442 yX12_find ∈ wTab := mw (tt_7 _ (List.mem_of_getElem? (i := 127) (by decide +kernel))) rfl
theorem tw_1671 : Cond.instanceMethod yX12_find ∈ wTab := mw (tt_7 _ (List.mem_of_getElem? (i := 129) (by decide +kernel))) rfl
theorem tw_1672 : Cond.code yX12_find cX12_find 7 (some .boolean) ∈ wTab := mw (tt_7 _ (List.mem_of_getElem? (i := 130) (by decide +kernel))) rfl
theorem tw_1673 : Cond.methodLink RX12 433 yX12_setFor ∈ wTab := mw (tt_7 _ (List.mem_of_getElem? (i := 131) (by decide +kernel))) rfl
theorem tw_1675 : Cond.instanceMethod yX12_setFor ∈ wTab := mw (tt_7 _ (List.mem_of_getElem? (i := 133) (by decide +kernel))) rfl
theorem tw_1676 : Cond.code yX12_setFor cX12_setFor 4 none ∈ wTab := mw (tt_7 _ (List.mem_of_getElem? (i := 134) (by decide +kernel))) rfl
theorem tw_1677 : Cond.methodLink RX12 399 yX12_priceNow ∈ wTab := mw (tt_7 _ (List.mem_of_getElem? (i := 135) (by decide +kernel))) rfl
theorem tw_1679 : Cond.instanceMethod yX12_priceNow ∈ wTab := mw (tt_7 _ (List.mem_of_getElem? (i := 137) (by decide +kernel))) rfl
theorem tw_1680 : Cond.code yX12_priceNow cX12_priceNow 3 (some .int) ∈ wTab := mw (tt_7 _ (List.mem_of_getElem? (i := 138) (by decide +kernel))) rfl
theorem tw_1681 : Cond.methodLink RX12 402 yX12_holdsAny ∈ wTab := mw (tt_7 _ (List.mem_of_getElem? (i := 139) (by decide +kernel))) rfl
theorem tw_1683 : Cond.instanceMethod yX12_holdsAny ∈ wTab := mw (tt_7 _ (List.mem_of_getElem? (i := 141) (by decide +kernel))) rfl
theorem tw_1684 : Cond.code yX12_holdsAny cX12_holdsAny 5 (some .boolean) ∈ wTab := mw (tt_7 _ (List.mem_of_getElem? (i := 142) (by decide +kernel))) rfl
theorem tw_1685 : Cond.methodLink RX12 395 yX12_isIn ∈ wTab := mw (tt_7 _ (List.mem_of_getElem? (i := 143) (by decide +kernel))) rfl
theorem tw_1687 : Cond.instanceMethod yX12_isIn ∈ wTab := mw (tt_7 _ (List.mem_of_getElem? (i := 145) (by decide +kernel))) rfl
theorem tw_1688 : Cond.code yX12_isIn cX12_isIn 3 (some .boolean) ∈ wTab := mw (tt_7 _ (List.mem_of_getElem? (i := 146) (by decide +kernel))) rfl
theorem tw_1689 : Cond.methodLink RX12 436 yX12_isSo ∈ wTab := mw (tt_7 _ (List.mem_of_getElem? (i := 147) (by decide +kernel))) rfl
theorem tw_1691 : Cond.instanceMethod yX12_isSo ∈ wTab := mw (tt_7 _ (List.mem_of_getElem? (i := 149) (by decide +kernel))) rfl
theorem tw_1692 : Cond.code yX12_isSo cX12_isSo 4 (some .boolean) ∈ wTab := mw (tt_7 _ (List.mem_of_getElem? (i := 150) (by decide +kernel))) rfl
theorem tw_1693 : Cond.methodLink RX12 420 yX12_run ∈ wTab := mw (tt_7 _ (List.mem_of_getElem? (i := 151) (by decide +kernel))) rfl
theorem tw_1695 : Cond.instanceMethod yX12_run ∈ wTab := mw (tt_7 _ (List.mem_of_getElem? (i := 153) (by decide +kernel))) rfl
theorem tw_1696 : Cond.code yX12_run cX12_run 8 none ∈ wTab := mw (tt_7 _ (List.mem_of_getElem? (i := 154) (by decide +kernel))) rfl
theorem tw_1697 : Cond.constantLong RX12 409 (-1000000000) ∈ wTab := mw (tt_7 _ (List.mem_of_getElem? (i := 155) (by decide +kernel))) rfl
theorem tw_1698 : Cond.constantLong RX12 411 (1000000000) ∈ wTab := mw (tt_7 _ (List.mem_of_getElem? (i := 156) (by decide +kernel))) rfl
theorem tw_1699 : Cond.methodLink RX12 413 yX12_reckon ∈ wTab := mw (tt_7 _ (List.mem_of_getElem? (i := 157) (by decide +kernel))) rfl
theorem tw_1701 : Cond.instanceMethod yX12_reckon ∈ wTab := mw (tt_7 _ (List.mem_of_getElem? (i := 159) (by decide +kernel))) rfl
theorem tw_1702 : Cond.code yX12_reckon cX12_reckon 6 (some .long) ∈ wTab := mw (tt_7 _ (List.mem_of_getElem? (i := 160) (by decide +kernel))) rfl
theorem tw_1703 : Cond.methodLink RX12 153 yX12_keepsField ∈ wTab := mw (tt_7 _ (List.mem_of_getElem? (i := 161) (by decide +kernel))) rfl
theorem tw_1705 : Cond.instanceMethod yX12_keepsField ∈ wTab := mw (tt_7 _ (List.mem_of_getElem? (i := 163) (by decide +kernel))) rfl
theorem tw_1706 : Cond.code yX12_keepsField cX12_keepsField 3 (some .boolean) ∈ wTab := mw (tt_7 _ (List.mem_of_getElem? (i := 164) (by decide +kernel))) rfl
theorem tw_1708 : Cond.instanceMethod yX12_owner ∈ wTab := mw (tt_7 _ (List.mem_of_getElem? (i := 166) (by decide +kernel))) rfl
theorem tw_1709 : Cond.selects RX12 yX12_owner yX12_owner ∈ wTab := mw (tt_7 _ (List.mem_of_getElem? (i := 167) (by decide +kernel))) rfl
theorem tw_1710 : Cond.code yX12_owner cX12_owner 3 (some .int) ∈ wTab := mw (tt_7 _ (List.mem_of_getElem? (i := 168) (by decide +kernel))) rfl
theorem tw_1712 : Cond.instanceMethod yX12_fund ∈ wTab := mw (tt_7 _ (List.mem_of_getElem? (i := 170) (by decide +kernel))) rfl
theorem tw_1713 : Cond.selects RX12 yX12_fund yX12_fund ∈ wTab := mw (tt_7 _ (List.mem_of_getElem? (i := 171) (by decide +kernel))) rfl
theorem tw_1714 : Cond.code yX12_fund cX12_fund 1 (some .int) ∈ wTab := mw (tt_7 _ (List.mem_of_getElem? (i := 172) (by decide +kernel))) rfl
theorem tw_1716 : Cond.instanceMethod yX12_price ∈ wTab := mw (tt_7 _ (List.mem_of_getElem? (i := 174) (by decide +kernel))) rfl
theorem tw_1717 : Cond.selects RX12 yX12_price yX12_price ∈ wTab := mw (tt_7 _ (List.mem_of_getElem? (i := 175) (by decide +kernel))) rfl
theorem tw_1718 : Cond.code yX12_price cX12_price 3 (some .int) ∈ wTab := mw (tt_7 _ (List.mem_of_getElem? (i := 176) (by decide +kernel))) rfl
theorem tw_1719 : Cond.methodLink RX12 156 yX12_isWeek ∈ wTab := mw (tt_7 _ (List.mem_of_getElem? (i := 177) (by decide +kernel))) rfl
theorem tw_1720 : Cond.static yX12_isWeek ∈ wTab := mw (tt_7 _ (List.mem_of_getElem? (i := 178) (by decide +kernel))) rfl
theorem tw_1721 : Cond.code yX12_isWeek cX12_isWeek 1 (some .boolean) ∈ wTab := mw (tt_7 _ (List.mem_of_getElem? (i := 179) (by decide +kernel))) rfl
theorem tw_1722 : Cond.constantLong RX12 88 (399) ∈ wTab := mw (tt_7 _ (List.mem_of_getElem? (i := 180) (by decide +kernel))) rfl
theorem tw_1723 : Cond.constantLong RX12 159 (10000) ∈ wTab := mw (tt_7 _ (List.mem_of_getElem? (i := 181) (by decide +kernel))) rfl
theorem tw_1725 : Cond.instanceMethod yX12_row ∈ wTab := mw (tt_7 _ (List.mem_of_getElem? (i := 183) (by decide +kernel))) rfl
theorem tw_1726 : Cond.selects RX12 yX12_row yX12_row ∈ wTab := mw (tt_7 _ (List.mem_of_getElem? (i := 184) (by decide +kernel))) rfl
theorem tw_1727 : Cond.code yX12_row cX12_row 8 (some .int) ∈ wTab := mw (tt_7 _ (List.mem_of_getElem? (i := 185) (by decide +kernel))) rfl
theorem tw_1728 : Cond.methodLink RX12 177 yX12_readFloat ∈ wTab := mw (tt_7 _ (List.mem_of_getElem? (i := 186) (by decide +kernel))) rfl
theorem tw_1730 : Cond.instanceMethod yX12_readFloat ∈ wTab := mw (tt_7 _ (List.mem_of_getElem? (i := 188) (by decide +kernel))) rfl
theorem tw_1731 : Cond.code yX12_readFloat cX12_readFloat 8 (some .boolean) ∈ wTab := mw (tt_7 _ (List.mem_of_getElem? (i := 189) (by decide +kernel))) rfl
theorem tw_1732 : Cond.constant RX12 168 (8388607) ∈ wTab := mw (tt_7 _ (List.mem_of_getElem? (i := 190) (by decide +kernel))) rfl
theorem tw_1733 : Cond.constant RX12 169 (8388608) ∈ wTab := mw (tt_7 _ (List.mem_of_getElem? (i := 191) (by decide +kernel))) rfl
theorem tw_1736 : Cond.methodLink RX12 180 yX12_numberOf ∈ wTab := mw (tt_7 _ (List.mem_of_getElem? (i := 194) (by decide +kernel))) rfl
theorem tw_1738 : Cond.instanceMethod yX12_numberOf ∈ wTab := mw (tt_7 _ (List.mem_of_getElem? (i := 196) (by decide +kernel))) rfl
theorem tw_1739 : Cond.code yX12_numberOf cX12_numberOf 5 (some .double) ∈ wTab := mw (tt_7 _ (List.mem_of_getElem? (i := 197) (by decide +kernel))) rfl
theorem tw_1742 : Cond.instanceMethod yX12_crop ∈ wTab := mw (tt_7 _ (List.mem_of_getElem? (i := 200) (by decide +kernel))) rfl
theorem tw_1743 : Cond.selects RX12 yX12_crop yX12_crop ∈ wTab := mw (tt_7 _ (List.mem_of_getElem? (i := 201) (by decide +kernel))) rfl
theorem tw_1744 : Cond.code yX12_crop cX12_crop 3 (some .int) ∈ wTab := mw (tt_7 _ (List.mem_of_getElem? (i := 202) (by decide +kernel))) rfl
theorem tw_1746 : Cond.instanceMethod yX12_feed ∈ wTab := mw (tt_7 _ (List.mem_of_getElem? (i := 204) (by decide +kernel))) rfl
theorem tw_1747 : Cond.selects RX12 yX12_feed yX12_feed ∈ wTab := mw (tt_7 _ (List.mem_of_getElem? (i := 205) (by decide +kernel))) rfl
theorem tw_1748 : Cond.code yX12_feed cX12_feed 6 (some .int) ∈ wTab := mw (tt_7 _ (List.mem_of_getElem? (i := 206) (by decide +kernel))) rfl
theorem tw_1749 : Cond.methodLink RX12 186 yX12_four ∈ wTab := mw (tt_7 _ (List.mem_of_getElem? (i := 207) (by decide +kernel))) rfl
theorem tw_1751 : Cond.instanceMethod yX12_four ∈ wTab := mw (tt_7 _ (List.mem_of_getElem? (i := 209) (by decide +kernel))) rfl
theorem tw_1752 : Cond.code yX12_four cX12_four 3 none ∈ wTab := mw (tt_7 _ (List.mem_of_getElem? (i := 210) (by decide +kernel))) rfl
theorem tw_1754 : Cond.instanceMethod yX12_end ∈ wTab := mw (tt_7 _ (List.mem_of_getElem? (i := 212) (by decide +kernel))) rfl
theorem tw_1755 : Cond.selects RX12 yX12_end yX12_end ∈ wTab := mw (tt_7 _ (List.mem_of_getElem? (i := 213) (by decide +kernel))) rfl
theorem tw_1756 : Cond.code yX12_end cX12_end 2 (some .int) ∈ wTab := mw (tt_7 _ (List.mem_of_getElem? (i := 214) (by decide +kernel))) rfl
theorem tw_1758 : Cond.instanceMethod yX12_fault ∈ wTab := mw (tt_7 _ (List.mem_of_getElem? (i := 216) (by decide +kernel))) rfl
theorem tw_1759 : Cond.selects RX12 yX12_fault yX12_fault ∈ wTab := mw (tt_7 _ (List.mem_of_getElem? (i := 217) (by decide +kernel))) rfl
theorem tw_1760 : Cond.code yX12_fault cX12_fault 1 (some .int) ∈ wTab := mw (tt_7 _ (List.mem_of_getElem? (i := 218) (by decide +kernel))) rfl
theorem tw_1762 : Cond.instanceMethod yX12_text ∈ wTab := mw (tt_7 _ (List.mem_of_getElem? (i := 220) (by decide +kernel))) rfl
theorem tw_1763 : Cond.selects RX12 yX12_text yX12_text ∈ wTab := mw (tt_7 _ (List.mem_of_getElem? (i := 221) (by decide +kernel))) rfl
theorem tw_1764 : Cond.code yX12_text cX12_text 3 (some .int) ∈ wTab := mw (tt_7 _ (List.mem_of_getElem? (i := 222) (by decide +kernel))) rfl
theorem tw_1765 : Cond.methodLink RX12 385 yX12_readText ∈ wTab := mw (tt_7 _ (List.mem_of_getElem? (i := 223) (by decide +kernel))) rfl
theorem tw_1767 : Cond.instanceMethod yX12_readText ∈ wTab := mw (tt_7 _ (List.mem_of_getElem? (i := 225) (by decide +kernel))) rfl
theorem tw_1768 : Cond.code yX12_readText cX12_readText 4 (some .boolean) ∈ wTab := mw (tt_7 _ (List.mem_of_getElem? (i := 226) (by decide +kernel))) rfl
theorem tw_1769 : Cond.methodLink RX12 376 yX12_begin ∈ wTab := mw (tt_7 _ (List.mem_of_getElem? (i := 227) (by decide +kernel))) rfl
theorem tw_1771 : Cond.instanceMethod yX12_begin ∈ wTab := mw (tt_7 _ (List.mem_of_getElem? (i := 229) (by decide +kernel))) rfl
theorem tw_1772 : Cond.code yX12_begin cX12_begin 1 none ∈ wTab := mw (tt_7 _ (List.mem_of_getElem? (i := 230) (by decide +kernel))) rfl
theorem tw_1773 : Cond.methodLink RX12 196 yX12_next ∈ wTab := mw (tt_7 _ (List.mem_of_getElem? (i := 231) (by decide +kernel))) rfl
theorem tw_1775 : Cond.instanceMethod yX12_next ∈ wTab := mw (tt_7 _ (List.mem_of_getElem? (i := 233) (by decide +kernel))) rfl
theorem tw_1776 : Cond.code yX12_next cX12_next 1 none ∈ wTab := mw (tt_7 _ (List.mem_of_getElem? (i := 234) (by decide +kernel))) rfl
theorem tw_1777 : Cond.methodLink RX12 206 yX12_isSmall ∈ wTab := mw (tt_7 _ (List.mem_of_getElem? (i := 235) (by decide +kernel))) rfl
theorem tw_1778 : Cond.static yX12_isSmall ∈ wTab := mw (tt_7 _ (List.mem_of_getElem? (i := 236) (by decide +kernel))) rfl
theorem tw_1779 : Cond.code yX12_isSmall cX12_isSmall 1 (some .boolean) ∈ wTab := mw (tt_7 _ (List.mem_of_getElem? (i := 237) (by decide +kernel))) rfl
theorem tw_1780 : Cond.methodLink RX12 209 yX12_isDigit ∈ wTab := mw (tt_7 _ (List.mem_of_getElem? (i := 238) (by decide +kernel))) rfl
theorem tw_1781 : Cond.static yX12_isDigit ∈ wTab := mw (tt_7 _ (List.mem_of_getElem? (i := 239) (by decide +kernel))) rfl
theorem tw_1782 : Cond.code yX12_isDigit cX12_isDigit 1 (some .boolean) ∈ wTab := mw (tt_8 _ (List.mem_of_getElem? (i := 0) (by decide +kernel))) rfl
theorem tw_1783 : Cond.constantLong RX12 215 (32) ∈ wTab := mw (tt_8 _ (List.mem_of_getElem? (i := 1) (by decide +kernel))) rfl
theorem tw_1784 : Cond.constantLong RX12 217 (96) ∈ wTab := mw (tt_8 _ (List.mem_of_getElem? (i := 2) (by decide +kernel))) rfl
theorem tw_1785 : Cond.constantLong RX12 219 (-1) ∈ wTab := mw (tt_8 _ (List.mem_of_getElem? (i := 3) (by decide +kernel))) rfl
theorem tw_1786 : Cond.constantLong RX12 221 (10) ∈ wTab := mw (tt_8 _ (List.mem_of_getElem? (i := 4) (by decide +kernel))) rfl
theorem tw_1787 : Cond.constantLong RX12 223 (48) ∈ wTab := mw (tt_8 _ (List.mem_of_getElem? (i := 5) (by decide +kernel))) rfl
theorem tw_1788 : Cond.methodLink RX12 379 yX12_readClause ∈ wTab := mw (tt_8 _ (List.mem_of_getElem? (i := 6) (by decide +kernel))) rfl
theorem tw_1790 : Cond.instanceMethod yX12_readClause ∈ wTab := mw (tt_8 _ (List.mem_of_getElem? (i := 8) (by decide +kernel))) rfl
theorem tw_1791 : Cond.code yX12_readClause cX12_readClause 4 none ∈ wTab := mw (tt_8 _ (List.mem_of_getElem? (i := 9) (by decide +kernel))) rfl
theorem tw_1792 : Cond.methodLink RX12 353 yX12_headAt ∈ wTab := mw (tt_8 _ (List.mem_of_getElem? (i := 10) (by decide +kernel))) rfl
theorem tw_1794 : Cond.instanceMethod yX12_headAt ∈ wTab := mw (tt_8 _ (List.mem_of_getElem? (i := 12) (by decide +kernel))) rfl
theorem tw_1795 : Cond.code yX12_headAt cX12_headAt 1 (some .int) ∈ wTab := mw (tt_8 _ (List.mem_of_getElem? (i := 13) (by decide +kernel))) rfl
theorem tw_1796 : Cond.constantLong RX12 339 (659105125) ∈ wTab := mw (tt_8 _ (List.mem_of_getElem? (i := 14) (by decide +kernel))) rfl
theorem tw_1797 : Cond.methodLink RX12 252 yX12_isWord ∈ wTab := mw (tt_8 _ (List.mem_of_getElem? (i := 15) (by decide +kernel))) rfl
theorem tw_1799 : Cond.instanceMethod yX12_isWord ∈ wTab := mw (tt_8 _ (List.mem_of_getElem? (i := 17) (by decide +kernel))) rfl
theorem tw_1800 : Cond.code yX12_isWord cX12_isWord 3 (some .boolean) ∈ wTab := mw (tt_8 _ (List.mem_of_getElem? (i := 18) (by decide +kernel))) rfl
theorem tw_1801 : Cond.constantLong RX12 341 (643248) ∈ wTab := mw (tt_8 _ (List.mem_of_getElem? (i := 19) (by decide +kernel))) rfl
theorem tw_1802 : Cond.constantLong RX12 343 (197938) ∈ wTab := mw (tt_8 _ (List.mem_of_getElem? (i := 20) (by decide +kernel))) rfl
theorem tw_1803 : Cond.constantLong RX12 345 (149559) ∈ wTab := mw (tt_8 _ (List.mem_of_getElem? (i := 21) (by decide +kernel))) rfl
theorem tw_1804 : Cond.constantLong RX12 347 (365744) ∈ wTab := mw (tt_8 _ (List.mem_of_getElem? (i := 22) (by decide +kernel))) rfl
theorem tw_1805 : Cond.constantLong RX12 349 (2094) ∈ wTab := mw (tt_8 _ (List.mem_of_getElem? (i := 23) (by decide +kernel))) rfl
theorem tw_1806 : Cond.constantLong RX12 351 (247842) ∈ wTab := mw (tt_8 _ (List.mem_of_getElem? (i := 24) (by decide +kernel))) rfl
theorem tw_1807 : Cond.methodLink RX12 225 yX12_must ∈ wTab := mw (tt_8 _ (List.mem_of_getElem? (i := 25) (by decide +kernel))) rfl
theorem tw_1809 : Cond.instanceMethod yX12_must ∈ wTab := mw (tt_8 _ (List.mem_of_getElem? (i := 27) (by decide +kernel))) rfl
theorem tw_1810 : Cond.code yX12_must cX12_must 2 none ∈ wTab := mw (tt_8 _ (List.mem_of_getElem? (i := 28) (by decide +kernel))) rfl
theorem tw_1811 : Cond.methodLink RX12 359 yX12_number ∈ wTab := mw (tt_8 _ (List.mem_of_getElem? (i := 29) (by decide +kernel))) rfl
theorem tw_1813 : Cond.instanceMethod yX12_number ∈ wTab := mw (tt_8 _ (List.mem_of_getElem? (i := 31) (by decide +kernel))) rfl
theorem tw_1814 : Cond.code yX12_number cX12_number 6 (some .int) ∈ wTab := mw (tt_8 _ (List.mem_of_getElem? (i := 32) (by decide +kernel))) rfl
theorem tw_1815 : Cond.constantLong RX12 363 (113301093) ∈ wTab := mw (tt_8 _ (List.mem_of_getElem? (i := 33) (by decide +kernel))) rfl
theorem tw_1816 : Cond.constantLong RX12 365 (11) ∈ wTab := mw (tt_8 _ (List.mem_of_getElem? (i := 34) (by decide +kernel))) rfl
theorem tw_1817 : Cond.constantLong RX12 367 (3) ∈ wTab := mw (tt_8 _ (List.mem_of_getElem? (i := 35) (by decide +kernel))) rfl
theorem tw_1818 : Cond.constantLong RX12 369 (52) ∈ wTab := mw (tt_8 _ (List.mem_of_getElem? (i := 36) (by decide +kernel))) rfl
theorem tw_1819 : Cond.methodLink RX12 371 yX12_readExpression ∈ wTab := mw (tt_8 _ (List.mem_of_getElem? (i := 37) (by decide +kernel))) rfl
theorem tw_1821 : Cond.instanceMethod yX12_readExpression ∈ wTab := mw (tt_8 _ (List.mem_of_getElem? (i := 39) (by decide +kernel))) rfl
theorem tw_1822 : Cond.code yX12_readExpression cX12_readExpression 3 none ∈ wTab := mw (tt_8 _ (List.mem_of_getElem? (i := 40) (by decide +kernel))) rfl
theorem tw_1823 : Cond.methodLink RX12 329 yX12_readPlain ∈ wTab := mw (tt_8 _ (List.mem_of_getElem? (i := 41) (by decide +kernel))) rfl
theorem tw_1825 : Cond.instanceMethod yX12_readPlain ∈ wTab := mw (tt_8 _ (List.mem_of_getElem? (i := 43) (by decide +kernel))) rfl
theorem tw_1826 : Cond.code yX12_readPlain cX12_readPlain 2 (some .int) ∈ wTab := mw (tt_8 _ (List.mem_of_getElem? (i := 44) (by decide +kernel))) rfl
theorem tw_1827 : Cond.constantLong RX12 307 (14836) ∈ wTab := mw (tt_8 _ (List.mem_of_getElem? (i := 45) (by decide +kernel))) rfl
theorem tw_1828 : Cond.methodLink RX12 287 yX12_push ∈ wTab := mw (tt_8 _ (List.mem_of_getElem? (i := 46) (by decide +kernel))) rfl
theorem tw_1830 : Cond.instanceMethod yX12_push ∈ wTab := mw (tt_8 _ (List.mem_of_getElem? (i := 48) (by decide +kernel))) rfl
theorem tw_1831 : Cond.code yX12_push cX12_push 3 none ∈ wTab := mw (tt_8 _ (List.mem_of_getElem? (i := 49) (by decide +kernel))) rfl
theorem tw_1832 : Cond.methodLink RX12 293 yX12_isSign ∈ wTab := mw (tt_8 _ (List.mem_of_getElem? (i := 50) (by decide +kernel))) rfl
theorem tw_1834 : Cond.instanceMethod yX12_isSign ∈ wTab := mw (tt_8 _ (List.mem_of_getElem? (i := 52) (by decide +kernel))) rfl
theorem tw_1835 : Cond.code yX12_isSign cX12_isSign 2 (some .boolean) ∈ wTab := mw (tt_8 _ (List.mem_of_getElem? (i := 53) (by decide +kernel))) rfl
theorem tw_1836 : Cond.methodLink RX12 296 yX12_open ∈ wTab := mw (tt_8 _ (List.mem_of_getElem? (i := 54) (by decide +kernel))) rfl
theorem tw_1838 : Cond.instanceMethod yX12_open ∈ wTab := mw (tt_8 _ (List.mem_of_getElem? (i := 56) (by decide +kernel))) rfl
theorem tw_1839 : Cond.code yX12_open cX12_open 2 none ∈ wTab := mw (tt_8 _ (List.mem_of_getElem? (i := 57) (by decide +kernel))) rfl
theorem tw_1840 : Cond.methodLink RX12 309 yX12_plainAt ∈ wTab := mw (tt_8 _ (List.mem_of_getElem? (i := 58) (by decide +kernel))) rfl
theorem tw_1842 : Cond.instanceMethod yX12_plainAt ∈ wTab := mw (tt_8 _ (List.mem_of_getElem? (i := 60) (by decide +kernel))) rfl
theorem tw_1843 : Cond.code yX12_plainAt cX12_plainAt 1 (some .int) ∈ wTab := mw (tt_8 _ (List.mem_of_getElem? (i := 61) (by decide +kernel))) rfl
theorem tw_1844 : Cond.constantLong RX12 276 (8892563) ∈ wTab := mw (tt_8 _ (List.mem_of_getElem? (i := 62) (by decide +kernel))) rfl
theorem tw_1845 : Cond.constantLong RX12 278 (16052) ∈ wTab := mw (tt_8 _ (List.mem_of_getElem? (i := 63) (by decide +kernel))) rfl
theorem tw_1846 : Cond.constantLong RX12 280 (68630692) ∈ wTab := mw (tt_8 _ (List.mem_of_getElem? (i := 64) (by decide +kernel))) rfl
theorem tw_1847 : Cond.constantLong RX12 282 (7930963) ∈ wTab := mw (tt_8 _ (List.mem_of_getElem? (i := 65) (by decide +kernel))) rfl
theorem tw_1848 : Cond.methodLink RX12 303 yX12_leaf ∈ wTab := mw (tt_8 _ (List.mem_of_getElem? (i := 66) (by decide +kernel))) rfl
theorem tw_1850 : Cond.instanceMethod yX12_leaf ∈ wTab := mw (tt_8 _ (List.mem_of_getElem? (i := 68) (by decide +kernel))) rfl
theorem tw_1851 : Cond.code yX12_leaf cX12_leaf 4 none ∈ wTab := mw (tt_8 _ (List.mem_of_getElem? (i := 69) (by decide +kernel))) rfl
theorem tw_1852 : Cond.methodLink RX12 238 yX12_emit ∈ wTab := mw (tt_8 _ (List.mem_of_getElem? (i := 70) (by decide +kernel))) rfl
theorem tw_1854 : Cond.instanceMethod yX12_emit ∈ wTab := mw (tt_8 _ (List.mem_of_getElem? (i := 72) (by decide +kernel))) rfl
theorem tw_1855 : Cond.code yX12_emit cX12_emit 3 none ∈ wTab := mw (tt_8 _ (List.mem_of_getElem? (i := 73) (by decide +kernel))) rfl
theorem tw_1856 : Cond.methodLink RX12 312 yX12_readPart ∈ wTab := mw (tt_8 _ (List.mem_of_getElem? (i := 74) (by decide +kernel))) rfl
theorem tw_1858 : Cond.instanceMethod yX12_readPart ∈ wTab := mw (tt_8 _ (List.mem_of_getElem? (i := 76) (by decide +kernel))) rfl
theorem tw_1859 : Cond.code yX12_readPart cX12_readPart 3 (some .int) ∈ wTab := mw (tt_8 _ (List.mem_of_getElem? (i := 77) (by decide +kernel))) rfl
theorem tw_1860 : Cond.methodLink RX12 299 yX12_partAt ∈ wTab := mw (tt_8 _ (List.mem_of_getElem? (i := 78) (by decide +kernel))) rfl
theorem tw_1862 : Cond.instanceMethod yX12_partAt ∈ wTab := mw (tt_8 _ (List.mem_of_getElem? (i := 80) (by decide +kernel))) rfl
theorem tw_1863 : Cond.code yX12_partAt cX12_partAt 1 (some .int) ∈ wTab := mw (tt_8 _ (List.mem_of_getElem? (i := 81) (by decide +kernel))) rfl
theorem tw_1864 : Cond.constantLong RX12 250 (24627848) ∈ wTab := mw (tt_8 _ (List.mem_of_getElem? (i := 82) (by decide +kernel))) rfl
theorem tw_1865 : Cond.constantLong RX12 256 (595412) ∈ wTab := mw (tt_8 _ (List.mem_of_getElem? (i := 83) (by decide +kernel))) rfl
theorem tw_1866 : Cond.constantLong RX12 258 (53023794) ∈ wTab := mw (tt_8 _ (List.mem_of_getElem? (i := 84) (by decide +kernel))) rfl
theorem tw_1867 : Cond.constantLong RX12 260 (113966) ∈ wTab := mw (tt_8 _ (List.mem_of_getElem? (i := 85) (by decide +kernel))) rfl
theorem tw_1868 : Cond.constantLong RX12 262 (19959155) ∈ wTab := mw (tt_8 _ (List.mem_of_getElem? (i := 86) (by decide +kernel))) rfl
theorem tw_1869 : Cond.constantLong RX12 264 (201778) ∈ wTab := mw (tt_8 _ (List.mem_of_getElem? (i := 87) (by decide +kernel))) rfl
theorem tw_1870 : Cond.constantLong RX12 266 (11566) ∈ wTab := mw (tt_8 _ (List.mem_of_getElem? (i := 88) (by decide +kernel))) rfl
theorem tw_1871 : Cond.constantLong RX12 268 (758955) ∈ wTab := mw (tt_8 _ (List.mem_of_getElem? (i := 89) (by decide +kernel))) rfl
theorem tw_1872 : Cond.constantLong RX12 270 (17376357) ∈ wTab := mw (tt_8 _ (List.mem_of_getElem? (i := 90) (by decide +kernel))) rfl
theorem tw_1873 : Cond.constantLong RX12 272 (188352133) ∈ wTab := mw (tt_8 _ (List.mem_of_getElem? (i := 91) (by decide +kernel))) rfl
theorem tw_1874 : Cond.constantLong RX12 274 (8902245) ∈ wTab := mw (tt_8 _ (List.mem_of_getElem? (i := 92) (by decide +kernel))) rfl
theorem tw_1875 : Cond.methodLink RX12 332 yX12_behindSum ∈ wTab := mw (tt_8 _ (List.mem_of_getElem? (i := 93) (by decide +kernel))) rfl
theorem tw_1877 : Cond.instanceMethod yX12_behindSum ∈ wTab := mw (tt_8 _ (List.mem_of_getElem? (i := 95) (by decide +kernel))) rfl
theorem tw_1878 : Cond.code yX12_behindSum cX12_behindSum 4 (some .int) ∈ wTab := mw (tt_8 _ (List.mem_of_getElem? (i := 96) (by decide +kernel))) rfl
theorem tw_1879 : Cond.methodLink RX12 235 yX12_binds ∈ wTab := mw (tt_8 _ (List.mem_of_getElem? (i := 97) (by decide +kernel))) rfl
theorem tw_1880 : Cond.static yX12_binds ∈ wTab := mw (tt_8 _ (List.mem_of_getElem? (i := 98) (by decide +kernel))) rfl
theorem tw_1881 : Cond.code yX12_binds cX12_binds 1 (some .int) ∈ wTab := mw (tt_8 _ (List.mem_of_getElem? (i := 99) (by decide +kernel))) rfl
theorem tw_1882 : Cond.methodLink RX12 315 yX12_settle ∈ wTab := mw (tt_8 _ (List.mem_of_getElem? (i := 100) (by decide +kernel))) rfl
theorem tw_1884 : Cond.instanceMethod yX12_settle ∈ wTab := mw (tt_8 _ (List.mem_of_getElem? (i := 102) (by decide +kernel))) rfl
theorem tw_1885 : Cond.code yX12_settle cX12_settle 2 none ∈ wTab := mw (tt_8 _ (List.mem_of_getElem? (i := 103) (by decide +kernel))) rfl
theorem tw_1886 : Cond.methodLink RX12 318 yX12_inner ∈ wTab := mw (tt_8 _ (List.mem_of_getElem? (i := 104) (by decide +kernel))) rfl
theorem tw_1888 : Cond.instanceMethod yX12_inner ∈ wTab := mw (tt_8 _ (List.mem_of_getElem? (i := 106) (by decide +kernel))) rfl
theorem tw_1889 : Cond.code yX12_inner cX12_inner 3 (some .int) ∈ wTab := mw (tt_8 _ (List.mem_of_getElem? (i := 107) (by decide +kernel))) rfl
theorem tw_1890 : Cond.methodLink RX12 321 yX12_isCompared ∈ wTab := mw (tt_8 _ (List.mem_of_getElem? (i := 108) (by decide +kernel))) rfl
theorem tw_1892 : Cond.instanceMethod yX12_isCompared ∈ wTab := mw (tt_8 _ (List.mem_of_getElem? (i := 110) (by decide +kernel))) rfl
theorem tw_1893 : Cond.code yX12_isCompared cX12_isCompared 2 (some .boolean) ∈ wTab := mw (tt_8 _ (List.mem_of_getElem? (i := 111) (by decide +kernel))) rfl
theorem tw_1894 : Cond.constantLong RX12 242 (20) ∈ wTab := mw (tt_8 _ (List.mem_of_getElem? (i := 112) (by decide +kernel))) rfl
theorem tw_1895 : Cond.constantLong RX12 244 (23) ∈ wTab := mw (tt_8 _ (List.mem_of_getElem? (i := 113) (by decide +kernel))) rfl
theorem tw_1896 : Cond.constantLong RX12 246 (24) ∈ wTab := mw (tt_8 _ (List.mem_of_getElem? (i := 114) (by decide +kernel))) rfl
theorem tw_1897 : Cond.constantLong RX12 248 (26) ∈ wTab := mw (tt_8 _ (List.mem_of_getElem? (i := 115) (by decide +kernel))) rfl
theorem tw_1898 : Cond.methodLink RX12 336 yX12_behindTest ∈ wTab := mw (tt_8 _ (List.mem_of_getElem? (i := 116) (by decide +kernel))) rfl
theorem tw_1900 : Cond.instanceMethod yX12_behindTest ∈ wTab := mw (tt_8 _ (List.mem_of_getElem? (i := 118) (by decide +kernel))) rfl
theorem tw_1901 : Cond.code yX12_behindTest cX12_behindTest 2 (some .int) ∈ wTab := mw (tt_8 _ (List.mem_of_getElem? (i := 119) (by decide +kernel))) rfl
theorem tw_1902 : Cond.constantLong RX12 325 (1476) ∈ wTab := mw (tt_8 _ (List.mem_of_getElem? (i := 120) (by decide +kernel))) rfl
theorem tw_1903 : Cond.constantLong RX12 327 (498) ∈ wTab := mw (tt_8 _ (List.mem_of_getElem? (i := 121) (by decide +kernel))) rfl
theorem tw_1904 : Cond.constantLong RX12 374 (294) ∈ wTab := mw (tt_8 _ (List.mem_of_getElem? (i := 122) (by decide +kernel))) rfl
theorem tw_1906 : Cond.instanceMethod yX12_force ∈ wTab := mw (tt_8 _ (List.mem_of_getElem? (i := 124) (by decide +kernel))) rfl
theorem tw_1907 : Cond.selects RX12 yX12_force yX12_force ∈ wTab := mw (tt_8 _ (List.mem_of_getElem? (i := 125) (by decide +kernel))) rfl
theorem tw_1908 : Cond.code yX12_force cX12_force 4 (some .int) ∈ wTab := mw (tt_8 _ (List.mem_of_getElem? (i := 126) (by decide +kernel))) rfl
theorem tw_1910 : Cond.instanceMethod yX12_holds ∈ wTab := mw (tt_8 _ (List.mem_of_getElem? (i := 128) (by decide +kernel))) rfl
theorem tw_1911 : Cond.selects RX12 yX12_holds yX12_holds ∈ wTab := mw (tt_8 _ (List.mem_of_getElem? (i := 129) (by decide +kernel))) rfl
theorem tw_1912 : Cond.code yX12_holds cX12_holds 5 (some .int) ∈ wTab := mw (tt_8 _ (List.mem_of_getElem? (i := 130) (by decide +kernel))) rfl
theorem tw_1914 : Cond.instanceMethod yX12_go ∈ wTab := mw (tt_8 _ (List.mem_of_getElem? (i := 132) (by decide +kernel))) rfl
theorem tw_1915 : Cond.selects RX12 yX12_go yX12_go ∈ wTab := mw (tt_8 _ (List.mem_of_getElem? (i := 133) (by decide +kernel))) rfl
theorem tw_1916 : Cond.code yX12_go cX12_go 3 (some .int) ∈ wTab := mw (tt_8 _ (List.mem_of_getElem? (i := 134) (by decide +kernel))) rfl
theorem tw_1917 : Cond.constantLong RX12 479 (104) ∈ wTab := mw (tt_8 _ (List.mem_of_getElem? (i := 135) (by decide +kernel))) rfl
theorem tw_1918 : Cond.methodLink RX12 481 yX12_goWeek ∈ wTab := mw (tt_8 _ (List.mem_of_getElem? (i := 136) (by decide +kernel))) rfl
theorem tw_1920 : Cond.instanceMethod yX12_goWeek ∈ wTab := mw (tt_8 _ (List.mem_of_getElem? (i := 138) (by decide +kernel))) rfl
theorem tw_1921 : Cond.code yX12_goWeek cX12_goWeek 3 none ∈ wTab := mw (tt_8 _ (List.mem_of_getElem? (i := 139) (by decide +kernel))) rfl
theorem tw_1922 : Cond.methodLink RX12 464 yX12_bringCrops ∈ wTab := mw (tt_8 _ (List.mem_of_getElem? (i := 140) (by decide +kernel))) rfl
theorem tw_1924 : Cond.instanceMethod yX12_bringCrops ∈ wTab := mw (tt_8 _ (List.mem_of_getElem? (i := 142) (by decide +kernel))) rfl
theorem tw_1925 : Cond.code yX12_bringCrops cX12_bringCrops 4 none ∈ wTab := mw (tt_8 _ (List.mem_of_getElem? (i := 143) (by decide +kernel))) rfl
theorem tw_1926 : Cond.methodLink RX12 467 yX12_payRents ∈ wTab := mw (tt_8 _ (List.mem_of_getElem? (i := 144) (by decide +kernel))) rfl
theorem tw_1928 : Cond.instanceMethod yX12_payRents ∈ wTab := mw (tt_8 _ (List.mem_of_getElem? (i := 146) (by decide +kernel))) rfl
theorem tw_1929 : Cond.code yX12_payRents cX12_payRents 9 none ∈ wTab := mw (tt_8 _ (List.mem_of_getElem? (i := 147) (by decide +kernel))) rfl
theorem tw_1930 : Cond.methodLink RX12 470 yX12_canWrit ∈ wTab := mw (tt_8 _ (List.mem_of_getElem? (i := 148) (by decide +kernel))) rfl
theorem tw_1932 : Cond.instanceMethod yX12_canWrit ∈ wTab := mw (tt_8 _ (List.mem_of_getElem? (i := 150) (by decide +kernel))) rfl
theorem tw_1933 : Cond.code yX12_canWrit cX12_canWrit 2 (some .boolean) ∈ wTab := mw (tt_8 _ (List.mem_of_getElem? (i := 151) (by decide +kernel))) rfl
theorem tw_1934 : Cond.methodLink RX12 473 yX12_addWrit ∈ wTab := mw (tt_8 _ (List.mem_of_getElem? (i := 152) (by decide +kernel))) rfl
theorem tw_1936 : Cond.instanceMethod yX12_addWrit ∈ wTab := mw (tt_8 _ (List.mem_of_getElem? (i := 154) (by decide +kernel))) rfl
theorem tw_1937 : Cond.code yX12_addWrit cX12_addWrit 3 none ∈ wTab := mw (tt_8 _ (List.mem_of_getElem? (i := 155) (by decide +kernel))) rfl
theorem tw_1938 : Cond.methodLink RX12 455 yX12_stepWeeks ∈ wTab := mw (tt_8 _ (List.mem_of_getElem? (i := 156) (by decide +kernel))) rfl
theorem tw_1940 : Cond.instanceMethod yX12_stepWeeks ∈ wTab := mw (tt_8 _ (List.mem_of_getElem? (i := 158) (by decide +kernel))) rfl
theorem tw_1941 : Cond.code yX12_stepWeeks cX12_stepWeeks 6 (some .int) ∈ wTab := mw (tt_8 _ (List.mem_of_getElem? (i := 159) (by decide +kernel))) rfl
theorem tw_1942 : Cond.methodLink RX12 476 yX12_goWrit ∈ wTab := mw (tt_8 _ (List.mem_of_getElem? (i := 160) (by decide +kernel))) rfl
theorem tw_1944 : Cond.instanceMethod yX12_goWrit ∈ wTab := mw (tt_8 _ (List.mem_of_getElem? (i := 162) (by decide +kernel))) rfl
theorem tw_1945 : Cond.code yX12_goWrit cX12_goWrit 4 none ∈ wTab := mw (tt_8 _ (List.mem_of_getElem? (i := 163) (by decide +kernel))) rfl
theorem tw_1946 : Cond.methodLink RX12 458 yX12_isGuarded ∈ wTab := mw (tt_8 _ (List.mem_of_getElem? (i := 164) (by decide +kernel))) rfl
theorem tw_1948 : Cond.instanceMethod yX12_isGuarded ∈ wTab := mw (tt_8 _ (List.mem_of_getElem? (i := 166) (by decide +kernel))) rfl
theorem tw_1949 : Cond.code yX12_isGuarded cX12_isGuarded 5 (some .boolean) ∈ wTab := mw (tt_8 _ (List.mem_of_getElem? (i := 167) (by decide +kernel))) rfl
theorem tw_1951 : Cond.instanceMethod yX12_writ ∈ wTab := mw (tt_8 _ (List.mem_of_getElem? (i := 169) (by decide +kernel))) rfl
theorem tw_1952 : Cond.selects RX12 yX12_writ yX12_writ ∈ wTab := mw (tt_8 _ (List.mem_of_getElem? (i := 170) (by decide +kernel))) rfl
theorem tw_1953 : Cond.code yX12_writ cX12_writ 2 (some .int) ∈ wTab := mw (tt_8 _ (List.mem_of_getElem? (i := 171) (by decide +kernel))) rfl
theorem tw_1955 : Cond.instanceMethod yX12_avoid ∈ wTab := mw (tt_8 _ (List.mem_of_getElem? (i := 173) (by decide +kernel))) rfl
theorem tw_1956 : Cond.selects RX12 yX12_avoid yX12_avoid ∈ wTab := mw (tt_8 _ (List.mem_of_getElem? (i := 174) (by decide +kernel))) rfl
theorem tw_1957 : Cond.code yX12_avoid cX12_avoid 3 (some .int) ∈ wTab := mw (tt_8 _ (List.mem_of_getElem? (i := 175) (by decide +kernel))) rfl
theorem tw_1959 : Cond.instanceMethod yX12_guard ∈ wTab := mw (tt_8 _ (List.mem_of_getElem? (i := 177) (by decide +kernel))) rfl
theorem tw_1960 : Cond.selects RX12 yX12_guard yX12_guard ∈ wTab := mw (tt_8 _ (List.mem_of_getElem? (i := 178) (by decide +kernel))) rfl
theorem tw_1961 : Cond.code yX12_guard cX12_guard 5 (some .int) ∈ wTab := mw (tt_8 _ (List.mem_of_getElem? (i := 179) (by decide +kernel))) rfl
theorem tw_1963 : Cond.instanceMethod yX12_take ∈ wTab := mw (tt_8 _ (List.mem_of_getElem? (i := 181) (by decide +kernel))) rfl
theorem tw_1964 : Cond.selects RX12 yX12_take yX12_take ∈ wTab := mw (tt_8 _ (List.mem_of_getElem? (i := 182) (by decide +kernel))) rfl
theorem tw_1965 : Cond.code yX12_take cX12_take 6 (some .int) ∈ wTab := mw (tt_8 _ (List.mem_of_getElem? (i := 183) (by decide +kernel))) rfl
theorem tw_1967 : Cond.instanceMethod yX12_deal ∈ wTab := mw (tt_8 _ (List.mem_of_getElem? (i := 185) (by decide +kernel))) rfl
theorem tw_1968 : Cond.selects RX12 yX12_deal yX12_deal ∈ wTab := mw (tt_8 _ (List.mem_of_getElem? (i := 186) (by decide +kernel))) rfl
theorem tw_1969 : Cond.code yX12_deal cX12_deal 6 (some .int) ∈ wTab := mw (tt_8 _ (List.mem_of_getElem? (i := 187) (by decide +kernel))) rfl
theorem tw_1970 : Cond.methodLink RX12 484 yX12_isAbout ∈ wTab := mw (tt_8 _ (List.mem_of_getElem? (i := 188) (by decide +kernel))) rfl
theorem tw_1972 : Cond.instanceMethod yX12_isAbout ∈ wTab := mw (tt_8 _ (List.mem_of_getElem? (i := 190) (by decide +kernel))) rfl
theorem tw_1973 : Cond.code yX12_isAbout cX12_isAbout 2 (some .boolean) ∈ wTab := mw (tt_8 _ (List.mem_of_getElem? (i := 191) (by decide +kernel))) rfl
theorem tw_1974 : Cond.methodLink RX12 487 yX12_keepsBan ∈ wTab := mw (tt_8 _ (List.mem_of_getElem? (i := 192) (by decide +kernel))) rfl
theorem tw_1976 : Cond.instanceMethod yX12_keepsBan ∈ wTab := mw (tt_8 _ (List.mem_of_getElem? (i := 194) (by decide +kernel))) rfl
theorem tw_1977 : Cond.code yX12_keepsBan cX12_keepsBan 5 (some .boolean) ∈ wTab := mw (tt_8 _ (List.mem_of_getElem? (i := 195) (by decide +kernel))) rfl
theorem tw_1979 : Cond.instanceMethod yX12_brave ∈ wTab := mw (tt_8 _ (List.mem_of_getElem? (i := 197) (by decide +kernel))) rfl
theorem tw_1980 : Cond.selects RX12 yX12_brave yX12_brave ∈ wTab := mw (tt_8 _ (List.mem_of_getElem? (i := 198) (by decide +kernel))) rfl
theorem tw_1981 : Cond.code yX12_brave cX12_brave 3 (some .int) ∈ wTab := mw (tt_8 _ (List.mem_of_getElem? (i := 199) (by decide +kernel))) rfl
theorem tw_1982 : Cond.constantLong RX12 490 (101) ∈ wTab := mw (tt_8 _ (List.mem_of_getElem? (i := 200) (by decide +kernel))) rfl
theorem tw_1984 : Cond.instanceMethod yX12_keeps ∈ wTab := mw (tt_8 _ (List.mem_of_getElem? (i := 202) (by decide +kernel))) rfl
theorem tw_1985 : Cond.selects RX12 yX12_keeps yX12_keeps ∈ wTab := mw (tt_8 _ (List.mem_of_getElem? (i := 203) (by decide +kernel))) rfl
theorem tw_1986 : Cond.code yX12_keeps cX12_keeps 3 (some .int) ∈ wTab := mw (tt_8 _ (List.mem_of_getElem? (i := 204) (by decide +kernel))) rfl
theorem tw_1988 : Cond.instanceMethod yX12_broke ∈ wTab := mw (tt_8 _ (List.mem_of_getElem? (i := 206) (by decide +kernel))) rfl
theorem tw_1989 : Cond.selects RX12 yX12_broke yX12_broke ∈ wTab := mw (tt_8 _ (List.mem_of_getElem? (i := 207) (by decide +kernel))) rfl
theorem tw_1990 : Cond.code yX12_broke cX12_broke 9 (some .int) ∈ wTab := mw (tt_8 _ (List.mem_of_getElem? (i := 208) (by decide +kernel))) rfl
theorem tw_1991 : Cond.constantLong RX12 492 (2) ∈ wTab := mw (tt_8 _ (List.mem_of_getElem? (i := 209) (by decide +kernel))) rfl
theorem tw_1993 : Cond.instanceMethod yX12_last ∈ wTab := mw (tt_8 _ (List.mem_of_getElem? (i := 211) (by decide +kernel))) rfl
theorem tw_1994 : Cond.selects RX12 yX12_last yX12_last ∈ wTab := mw (tt_8 _ (List.mem_of_getElem? (i := 212) (by decide +kernel))) rfl
theorem tw_1995 : Cond.code yX12_last cX12_last 7 (some .int) ∈ wTab := mw (tt_8 _ (List.mem_of_getElem? (i := 213) (by decide +kernel))) rfl
theorem tw_1997 : Cond.instanceMethod yX12_least ∈ wTab := mw (tt_8 _ (List.mem_of_getElem? (i := 215) (by decide +kernel))) rfl
theorem tw_1998 : Cond.selects RX12 yX12_least yX12_least ∈ wTab := mw (tt_8 _ (List.mem_of_getElem? (i := 216) (by decide +kernel))) rfl
theorem tw_1999 : Cond.code yX12_least cX12_least 10 (some .int) ∈ wTab := mw (tt_8 _ (List.mem_of_getElem? (i := 217) (by decide +kernel))) rfl
theorem tw_2000 : Cond.constantLong RX12 494 (8) ∈ wTab := mw (tt_8 _ (List.mem_of_getElem? (i := 218) (by decide +kernel))) rfl
theorem tw_2001 : Cond.methodLink RX12 496 yX12_falls ∈ wTab := mw (tt_8 _ (List.mem_of_getElem? (i := 219) (by decide +kernel))) rfl
theorem tw_2003 : Cond.instanceMethod yX12_falls ∈ wTab := mw (tt_8 _ (List.mem_of_getElem? (i := 221) (by decide +kernel))) rfl
theorem tw_2004 : Cond.code yX12_falls cX12_falls 8 (some .boolean) ∈ wTab := mw (tt_8 _ (List.mem_of_getElem? (i := 222) (by decide +kernel))) rfl
theorem tw_2006 : Cond.instanceMethod yX12_offer ∈ wTab := mw (tt_8 _ (List.mem_of_getElem? (i := 224) (by decide +kernel))) rfl
theorem tw_2007 : Cond.selects RX12 yX12_offer yX12_offer ∈ wTab := mw (tt_8 _ (List.mem_of_getElem? (i := 225) (by decide +kernel))) rfl
theorem tw_2008 : Cond.code yX12_offer cX12_offer 3 (some .int) ∈ wTab := mw (tt_8 _ (List.mem_of_getElem? (i := 226) (by decide +kernel))) rfl
theorem tw_2009 : Cond.constantLong RX12 500 (-1000) ∈ wTab := mw (tt_8 _ (List.mem_of_getElem? (i := 227) (by decide +kernel))) rfl
theorem tw_2011 : Cond.instanceMethod yX12_agree ∈ wTab := mw (tt_8 _ (List.mem_of_getElem? (i := 229) (by decide +kernel))) rfl
theorem tw_2012 : Cond.selects RX12 yX12_agree yX12_agree ∈ wTab := mw (tt_8 _ (List.mem_of_getElem? (i := 230) (by decide +kernel))) rfl
theorem tw_2013 : Cond.code yX12_agree cX12_agree 11 (some .int) ∈ wTab := mw (tt_8 _ (List.mem_of_getElem? (i := 231) (by decide +kernel))) rfl
theorem tw_2014 : Cond.constantLong RX12 502 (-10000) ∈ wTab := mw (tt_8 _ (List.mem_of_getElem? (i := 232) (by decide +kernel))) rfl
theorem tw_2016 : Cond.instanceMethod yX12_wish ∈ wTab := mw (tt_8 _ (List.mem_of_getElem? (i := 234) (by decide +kernel))) rfl
theorem tw_2017 : Cond.selects RX12 yX12_wish yX12_wish ∈ wTab := mw (tt_8 _ (List.mem_of_getElem? (i := 235) (by decide +kernel))) rfl
theorem tw_2018 : Cond.code yX12_wish cX12_wish 3 (some .int) ∈ wTab := mw (tt_8 _ (List.mem_of_getElem? (i := 236) (by decide +kernel))) rfl
theorem tw_2020 : Cond.instanceMethod yX12_clear ∈ wTab := mw (tt_8 _ (List.mem_of_getElem? (i := 238) (by decide +kernel))) rfl
theorem tw_2021 : Cond.selects RX12 yX12_clear yX12_clear ∈ wTab := mw (tt_8 _ (List.mem_of_getElem? (i := 239) (by decide +kernel))) rfl
theorem tw_2022 : Cond.code yX12_clear cX12_clear 2 (some .int) ∈ wTab := mw (tt_9 _ (List.mem_of_getElem? (i := 0) (by decide +kernel))) rfl
theorem tw_2024 : Cond.instanceMethod yX12_crops ∈ wTab := mw (tt_9 _ (List.mem_of_getElem? (i := 2) (by decide +kernel))) rfl
theorem tw_2025 : Cond.selects RX12 yX12_crops yX12_crops ∈ wTab := mw (tt_9 _ (List.mem_of_getElem? (i := 3) (by decide +kernel))) rfl
theorem tw_2026 : Cond.code yX12_crops cX12_crops 3 (some .int) ∈ wTab := mw (tt_9 _ (List.mem_of_getElem? (i := 4) (by decide +kernel))) rfl
theorem tw_2028 : Cond.instanceMethod yX12_choose ∈ wTab := mw (tt_9 _ (List.mem_of_getElem? (i := 6) (by decide +kernel))) rfl
theorem tw_2029 : Cond.selects RX12 yX12_choose yX12_choose ∈ wTab := mw (tt_9 _ (List.mem_of_getElem? (i := 7) (by decide +kernel))) rfl
theorem tw_2030 : Cond.code yX12_choose cX12_choose 9 (some .int) ∈ wTab := mw (tt_9 _ (List.mem_of_getElem? (i := 8) (by decide +kernel))) rfl
theorem tw_2031 : Cond.methodLink RX12 513 yX12_isSpan ∈ wTab := mw (tt_9 _ (List.mem_of_getElem? (i := 9) (by decide +kernel))) rfl
theorem tw_2033 : Cond.instanceMethod yX12_isSpan ∈ wTab := mw (tt_9 _ (List.mem_of_getElem? (i := 11) (by decide +kernel))) rfl
theorem tw_2034 : Cond.code yX12_isSpan cX12_isSpan 2 (some .boolean) ∈ wTab := mw (tt_9 _ (List.mem_of_getElem? (i := 12) (by decide +kernel))) rfl
theorem tw_2035 : Cond.methodLink RX12 516 yX12_areThere ∈ wTab := mw (tt_9 _ (List.mem_of_getElem? (i := 13) (by decide +kernel))) rfl
theorem tw_2037 : Cond.instanceMethod yX12_areThere ∈ wTab := mw (tt_9 _ (List.mem_of_getElem? (i := 15) (by decide +kernel))) rfl
theorem tw_2038 : Cond.code yX12_areThere cX12_areThere 3 (some .boolean) ∈ wTab := mw (tt_9 _ (List.mem_of_getElem? (i := 16) (by decide +kernel))) rfl
theorem tw_2039 : Cond.methodLink RX12 519 yX12_worst ∈ wTab := mw (tt_9 _ (List.mem_of_getElem? (i := 17) (by decide +kernel))) rfl
theorem tw_2041 : Cond.instanceMethod yX12_worst ∈ wTab := mw (tt_9 _ (List.mem_of_getElem? (i := 19) (by decide +kernel))) rfl
theorem tw_2042 : Cond.code yX12_worst cX12_worst 6 (some .int) ∈ wTab := mw (tt_9 _ (List.mem_of_getElem? (i := 20) (by decide +kernel))) rfl
theorem tw_2043 : Cond.methodLink RX12 507 yX12_keepPaper ∈ wTab := mw (tt_9 _ (List.mem_of_getElem? (i := 21) (by decide +kernel))) rfl
theorem tw_2045 : Cond.instanceMethod yX12_keepPaper ∈ wTab := mw (tt_9 _ (List.mem_of_getElem? (i := 23) (by decide +kernel))) rfl
theorem tw_2046 : Cond.code yX12_keepPaper cX12_keepPaper 2 none ∈ wTab := mw (tt_9 _ (List.mem_of_getElem? (i := 24) (by decide +kernel))) rfl
theorem tw_2047 : Cond.methodLink RX12 510 yX12_putBack ∈ wTab := mw (tt_9 _ (List.mem_of_getElem? (i := 25) (by decide +kernel))) rfl
theorem tw_2049 : Cond.instanceMethod yX12_putBack ∈ wTab := mw (tt_9 _ (List.mem_of_getElem? (i := 27) (by decide +kernel))) rfl
theorem tw_2050 : Cond.code yX12_putBack cX12_putBack 2 none ∈ wTab := mw (tt_9 _ (List.mem_of_getElem? (i := 28) (by decide +kernel))) rfl
theorem tw_2052 : Cond.instanceMethod yX12_chosen ∈ wTab := mw (tt_9 _ (List.mem_of_getElem? (i := 30) (by decide +kernel))) rfl
theorem tw_2053 : Cond.selects RX12 yX12_chosen yX12_chosen ∈ wTab := mw (tt_9 _ (List.mem_of_getElem? (i := 31) (by decide +kernel))) rfl
theorem tw_2054 : Cond.code yX12_chosen cX12_chosen 2 (some .int) ∈ wTab := mw (tt_9 _ (List.mem_of_getElem? (i := 32) (by decide +kernel))) rfl
theorem tw_2056 : Cond.instanceMethod yX12_judge ∈ wTab := mw (tt_9 _ (List.mem_of_getElem? (i := 34) (by decide +kernel))) rfl
theorem tw_2057 : Cond.selects RX12 yX12_judge yX12_judge ∈ wTab := mw (tt_9 _ (List.mem_of_getElem? (i := 35) (by decide +kernel))) rfl
theorem tw_2058 : Cond.code yX12_judge cX12_judge 3 (some .int) ∈ wTab := mw (tt_9 _ (List.mem_of_getElem? (i := 36) (by decide +kernel))) rfl
theorem tw_2060 : Cond.instanceMethod yX12_beside ∈ wTab := mw (tt_9 _ (List.mem_of_getElem? (i := 38) (by decide +kernel))) rfl
theorem tw_2061 : Cond.selects RX12 yX12_beside yX12_beside ∈ wTab := mw (tt_9 _ (List.mem_of_getElem? (i := 39) (by decide +kernel))) rfl
theorem tw_2062 : Cond.code yX12_beside cX12_beside 7 (some .long) ∈ wTab := mw (tt_9 _ (List.mem_of_getElem? (i := 40) (by decide +kernel))) rfl
theorem tw_2063 : Cond.constantLong RX12 531 (-2000000000000) ∈ wTab := mw (tt_9 _ (List.mem_of_getElem? (i := 41) (by decide +kernel))) rfl
theorem tw_2064 : Cond.methodLink RX12 533 yX12_chests ∈ wTab := mw (tt_9 _ (List.mem_of_getElem? (i := 42) (by decide +kernel))) rfl
theorem tw_2066 : Cond.instanceMethod yX12_chests ∈ wTab := mw (tt_9 _ (List.mem_of_getElem? (i := 44) (by decide +kernel))) rfl
theorem tw_2067 : Cond.code yX12_chests cX12_chests 5 (some .long) ∈ wTab := mw (tt_9 _ (List.mem_of_getElem? (i := 45) (by decide +kernel))) rfl
theorem tw_2069 : Cond.instanceMethod yX12_seal ∈ wTab := mw (tt_9 _ (List.mem_of_getElem? (i := 47) (by decide +kernel))) rfl
theorem tw_2070 : Cond.selects RX12 yX12_seal yX12_seal ∈ wTab := mw (tt_9 _ (List.mem_of_getElem? (i := 48) (by decide +kernel))) rfl
theorem tw_2071 : Cond.code yX12_seal cX12_seal 1 (some .int) ∈ wTab := mw (tt_9 _ (List.mem_of_getElem? (i := 49) (by decide +kernel))) rfl
theorem tw_2072 : Cond.methodLink RX12 543 yX12_addFields ∈ wTab := mw (tt_9 _ (List.mem_of_getElem? (i := 50) (by decide +kernel))) rfl
theorem tw_2074 : Cond.instanceMethod yX12_addFields ∈ wTab := mw (tt_9 _ (List.mem_of_getElem? (i := 52) (by decide +kernel))) rfl
theorem tw_2075 : Cond.code yX12_addFields cX12_addFields 2 none ∈ wTab := mw (tt_9 _ (List.mem_of_getElem? (i := 53) (by decide +kernel))) rfl
theorem tw_2077 : Cond.instanceMethod yX12_alter ∈ wTab := mw (tt_9 _ (List.mem_of_getElem? (i := 55) (by decide +kernel))) rfl
theorem tw_2078 : Cond.selects RX12 yX12_alter yX12_alter ∈ wTab := mw (tt_9 _ (List.mem_of_getElem? (i := 56) (by decide +kernel))) rfl
theorem tw_2079 : Cond.code yX12_alter cX12_alter 3 (some .int) ∈ wTab := mw (tt_9 _ (List.mem_of_getElem? (i := 57) (by decide +kernel))) rfl
theorem tw_2080 : Cond.constantLong RX12 546 (255) ∈ wTab := mw (tt_9 _ (List.mem_of_getElem? (i := 58) (by decide +kernel))) rfl
theorem tw_2082 : Cond.instanceMethod yX12_found ∈ wTab := mw (tt_9 _ (List.mem_of_getElem? (i := 60) (by decide +kernel))) rfl
theorem tw_2083 : Cond.selects RX12 yX12_found yX12_found ∈ wTab := mw (tt_9 _ (List.mem_of_getElem? (i := 61) (by decide +kernel))) rfl
theorem tw_2084 : Cond.code yX12_found cX12_found 4 (some .int) ∈ wTab := mw (tt_9 _ (List.mem_of_getElem? (i := 62) (by decide +kernel))) rfl
theorem tw_2086 : Cond.instanceMethod yX12_count ∈ wTab := mw (tt_9 _ (List.mem_of_getElem? (i := 64) (by decide +kernel))) rfl
theorem tw_2087 : Cond.selects RX12 yX12_count yX12_count ∈ wTab := mw (tt_9 _ (List.mem_of_getElem? (i := 65) (by decide +kernel))) rfl
theorem tw_2088 : Cond.code yX12_count cX12_count 2 (some .int) ∈ wTab := mw (tt_9 _ (List.mem_of_getElem? (i := 66) (by decide +kernel))) rfl
theorem tw_2090 : Cond.instanceMethod yX12_status ∈ wTab := mw (tt_9 _ (List.mem_of_getElem? (i := 68) (by decide +kernel))) rfl
theorem tw_2091 : Cond.selects RX12 yX12_status yX12_status ∈ wTab := mw (tt_9 _ (List.mem_of_getElem? (i := 69) (by decide +kernel))) rfl
theorem tw_2092 : Cond.code yX12_status cX12_status 1 (some .int) ∈ wTab := mw (tt_9 _ (List.mem_of_getElem? (i := 70) (by decide +kernel))) rfl
