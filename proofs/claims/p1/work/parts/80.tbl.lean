
theorem mem_r {big ws : List Cond} (ps : List Nat) (hp : ws = ps.filterMap (fun i => big[i]?)) : ∀ w ∈ ws, w ∈ big := by
  intro w hw
  rw [hp] at hw
  obtain ⟨i, -, hi⟩ := List.mem_filterMap.mp hw
  exact List.mem_of_getElem? hi
theorem tb_nil {big : List Cond} : ∀ w ∈ ([] : List Cond), w ∈ big := fun _ h => absurd h List.not_mem_nil
theorem tb_app {big a b : List Cond} (ha : ∀ w ∈ a, w ∈ big) (hb : ∀ w ∈ b, w ∈ big) : ∀ w ∈ a ++ b, w ∈ big := fun w h => (List.mem_append.mp h).elim (ha w) (hb w)
theorem tb_mk {big : List Cond} {c : Cond} {d r : List Cond} (hc : c ∈ big) (hd : ∀ w ∈ d, w ∈ big) (hr : ∀ w ∈ r, w ∈ big) : ∀ w ∈ c :: (d ++ r), w ∈ big := fun w h => by
  rcases List.mem_cons.mp h with e | h
  · subst e; exact hc
  · exact tb_app hd hr w h
theorem tb_X0 : ∀ w ∈ wsX00, w ∈ lw_tbl := mem_r [418, 420, 422, 424, 426, 428, 430, 432, 434, 436, 438, 440, 442, 444, 446, 448, 450] (by decide +kernel)
theorem tb_X1 : ∀ w ∈ wsX10, w ∈ lw_tbl := mem_r [234, 236, 238, 240, 242, 244, 246, 248, 250, 252, 254, 256, 258, 260, 262] (by decide +kernel)
theorem tb_X2 : ∀ w ∈ wsX20, w ∈ lw_tbl := mem_r [351, 353, 355, 357] (by decide +kernel)
theorem tb_X3 : ∀ w ∈ wsX30, w ∈ lw_tbl := mem_r [377, 379, 381, 383, 385, 387] (by decide +kernel)
theorem tb_X4 : ∀ w ∈ wsX40, w ∈ lw_tbl := mem_r [170, 172, 174, 176, 178, 180, 182, 184, 186, 188] (by decide +kernel)
theorem tb_X5 : ∀ w ∈ wsX50, w ∈ lw_tbl := mem_r [511, 513, 515, 517, 519, 521, 523, 525, 527, 529, 531, 533, 535, 537, 539, 541, 543] (by decide +kernel)
theorem tb_X6 : ∀ w ∈ wsX60, w ∈ lw_tbl := mem_r [825, 827] (by decide +kernel)
theorem tb_X7 : ∀ w ∈ wsX70, w ∈ lw_tbl := mem_r [331, 333] (by decide +kernel)
theorem tb_X8 : ∀ w ∈ wsX80, w ∈ lw_tbl := mem_r [467, 469, 471, 473] (by decide +kernel)
theorem tb_X9 : ∀ w ∈ wsX90, w ∈ lw_tbl := mem_r [1028, 1030, 1032, 1034, 1036, 1038, 1040, 1042, 1044, 1046] (by decide +kernel)
theorem tb_X10 : ∀ w ∈ wsX100, w ∈ lw_tbl := mem_r [292, 294, 296, 298, 300, 302, 304, 306, 308, 310, 312] (by decide +kernel)
theorem tb_X11 : ∀ w ∈ wsX110, w ∈ lw_tbl := mem_r [562, 564, 566, 568, 570, 572, 574, 576, 578, 580, 582, 584, 586, 588, 590, 592] (by decide +kernel)
theorem tb_X12 : ∀ w ∈ wsX120, w ∈ lw_tbl := mem_r [1444, 1446, 1448, 1450, 1452, 1454, 1456, 1458, 1460, 1462, 1464, 1466, 1468, 1470, 1472, 1474, 1476, 1478, 1480, 1482, 1484, 1486, 1488, 1490, 1492, 1494, 1496, 1498, 1500, 1502, 1504, 1506, 1508, 1510, 1512, 1514, 1516, 1518, 1520, 1522, 1524, 1526, 1528, 1530, 1532, 1534, 1536, 1538, 1540, 1542, 1544, 1546] (by decide +kernel)
set_option maxRecDepth 20000 in
theorem tb_X4_init : ∀ w ∈ v_X4_init, w ∈ lw_tbl := tb_mk (List.mem_of_getElem? (i := 142) rfl) (mem_r [143, 130, 131, 191, 147, 149, 152, 154, 156, 159, 162, 165, 168] (by decide +kernel)) (tb_app tb_X4 tb_nil)
set_option maxRecDepth 20000 in
theorem tb_X1_init : ∀ w ∈ v_X1_init, w ∈ lw_tbl := tb_mk (List.mem_of_getElem? (i := 196) rfl) (mem_r [197, 130, 131, 191, 201, 203, 206, 209, 212, 215, 217, 223, 226, 228, 231] (by decide +kernel)) (tb_app tb_X1 tb_nil)
set_option maxRecDepth 20000 in
theorem tb_X10_init : ∀ w ∈ v_X10_init, w ∈ lw_tbl := tb_mk (List.mem_of_getElem? (i := 269) rfl) (mem_r [270, 130, 131, 191, 274, 276, 278, 280, 282, 284, 289, 290, 291] (by decide +kernel)) (tb_app tb_X10 tb_nil)
set_option maxRecDepth 20000 in
theorem tb_J7_fill_400 : ∀ w ∈ v_J7_fill_400, w ∈ lw_tbl := tb_mk (List.mem_of_getElem? (i := 325) rfl) (mem_r [] (by decide +kernel)) tb_nil
set_option maxRecDepth 20000 in
theorem tb_X7_init : ∀ w ∈ v_X7_init, w ∈ lw_tbl := tb_mk (List.mem_of_getElem? (i := 319) rfl) (mem_r [320, 130, 131, 191, 326, 321, 328, 323, 324, 109] (by decide +kernel)) (tb_app tb_X7 (tb_app tb_J7_fill_400 tb_nil))
set_option maxRecDepth 20000 in
theorem tb_X2_init : ∀ w ∈ v_X2_init, w ∈ lw_tbl := tb_mk (List.mem_of_getElem? (i := 340) rfl) (mem_r [341, 130, 131, 342, 347, 191, 349, 350] (by decide +kernel)) (tb_app tb_X2 tb_nil)
set_option maxRecDepth 20000 in
theorem tb_X3_init : ∀ w ∈ v_X3_init, w ∈ lw_tbl := tb_mk (List.mem_of_getElem? (i := 364) rfl) (mem_r [365, 130, 131, 369, 191, 375, 376] (by decide +kernel)) (tb_app tb_X3 tb_nil)
set_option maxRecDepth 20000 in
theorem tb_J7_fill_40 : ∀ w ∈ v_J7_fill_40, w ∈ lw_tbl := tb_mk (List.mem_of_getElem? (i := 325) rfl) (mem_r [] (by decide +kernel)) tb_nil
set_option maxRecDepth 20000 in
theorem tb_X0_init_0 : ∀ w ∈ v_X0_init_0, w ∈ lw_tbl := tb_mk (List.mem_of_getElem? (i := 136) rfl) (mem_r [137, 130, 131, 138, 139, 105, 141, 391, 192, 193, 106, 195, 393, 265, 266, 107, 268, 395, 315, 316, 108, 317, 318, 397, 336, 337, 110, 339, 399, 360, 361, 111, 363, 401, 191, 406, 453, 416, 417, 405, 390, 324, 109] (by decide +kernel)) (tb_app tb_X4 (tb_app tb_X4_init (tb_app tb_X0 (tb_app tb_X1 (tb_app tb_X1_init (tb_app tb_X10 (tb_app tb_X10_init (tb_app tb_X7 (tb_app tb_X7_init (tb_app tb_X2 (tb_app tb_X2_init (tb_app tb_X3 (tb_app tb_X3_init (tb_app tb_J7_fill_40 tb_nil))))))))))))))
set_option maxRecDepth 20000 in
theorem tb_X0_init_1 : ∀ w ∈ v_X0_init_1, w ∈ lw_tbl := tb_mk (List.mem_of_getElem? (i := 136) rfl) (mem_r [137, 130, 131, 138, 139, 105, 141, 391, 192, 193, 106, 195, 393, 265, 266, 107, 268, 395, 315, 316, 108, 317, 318, 397, 336, 337, 110, 339, 399, 360, 361, 111, 363, 401, 191, 406, 453, 416, 417, 405, 390, 324, 109] (by decide +kernel)) (tb_app tb_X4 (tb_app tb_X4_init (tb_app tb_X0 (tb_app tb_X1 (tb_app tb_X1_init (tb_app tb_X10 (tb_app tb_X10_init (tb_app tb_X7 (tb_app tb_X7_init (tb_app tb_X2 (tb_app tb_X2_init (tb_app tb_X3 (tb_app tb_X3_init (tb_app tb_J7_fill_40 tb_nil))))))))))))))
set_option maxRecDepth 20000 in
theorem tb_X8_init : ∀ w ∈ v_X8_init, w ∈ lw_tbl := tb_mk (List.mem_of_getElem? (i := 458) rfl) (mem_r [459, 130, 131, 191, 463, 476, 465] (by decide +kernel)) (tb_app tb_X8 tb_nil)
set_option maxRecDepth 20000 in
theorem tb_X5_init : ∀ w ∈ v_X5_init, w ∈ lw_tbl := tb_mk (List.mem_of_getElem? (i := 481) rfl) (mem_r [482, 130, 131, 483, 191, 489, 491, 493, 495, 497, 501, 503, 506, 507, 508] (by decide +kernel)) (tb_app tb_X5 tb_nil)
set_option maxRecDepth 20000 in
theorem tb_X11_init : ∀ w ∈ v_X11_init, w ∈ lw_tbl := tb_mk (List.mem_of_getElem? (i := 128) rfl) (mem_r [129, 130, 131, 132, 133, 104, 134, 135, 546, 547, 548, 549, 454, 455, 112, 457, 552, 477, 478, 113, 480, 553, 191, 554, 556, 557, 559] (by decide +kernel)) (tb_app tb_X0 (tb_app tb_X0_init_0 (tb_app tb_X11 (tb_app tb_X0_init_1 (tb_app tb_X8 (tb_app tb_X8_init (tb_app tb_X5 (tb_app tb_X5_init tb_nil))))))))
set_option maxRecDepth 20000 in
theorem tb_X12_init : ∀ w ∈ v_X12_init, w ∈ lw_tbl := tb_mk (List.mem_of_getElem? (i := 1388) rfl) (mem_r [1389, 130, 131, 1390, 191, 1394, 1391, 1395, 1396, 1549, 1397, 476, 1401, 1402, 1403, 1409, 1412, 1414, 1415, 1417, 1418, 1421, 1422, 453, 1423, 1424, 1431, 1432, 1434, 1436, 1437] (by decide +kernel)) (tb_app tb_X12 tb_nil)
set_option maxRecDepth 20000 in
theorem tb_X11_within : ∀ w ∈ v_X11_within, w ∈ lw_tbl := tb_mk (List.mem_of_getElem? (i := 601) rfl) (mem_r [] (by decide +kernel)) tb_nil
set_option maxRecDepth 20000 in
theorem tb_X4_add : ∀ w ∈ v_X4_add, w ∈ lw_tbl := tb_mk (List.mem_of_getElem? (i := 610) rfl) (mem_r [144, 147, 149, 152, 154, 156, 159, 162, 165] (by decide +kernel)) (tb_app tb_X4 tb_nil)
set_option maxRecDepth 20000 in
theorem tb_X11_accept : ∀ w ∈ v_X11_accept, w ∈ lw_tbl := tb_mk (List.mem_of_getElem? (i := 614) rfl) (mem_r [561] (by decide +kernel)) (tb_app tb_X11 tb_nil)
set_option maxRecDepth 20000 in
theorem tb_X11_refuse : ∀ w ∈ v_X11_refuse, w ∈ lw_tbl := tb_mk (List.mem_of_getElem? (i := 606) rfl) (mem_r [561] (by decide +kernel)) (tb_app tb_X11 tb_nil)
set_option maxRecDepth 20000 in
theorem tb_X11_person : ∀ w ∈ v_X11_person, w ∈ lw_tbl := tb_mk (List.mem_of_getElem? (i := 598) rfl) (mem_r [599, 600, 103, 602, 546, 392, 145, 607, 608, 609, 105, 611, 613, 1, 603, 605, 0] (by decide +kernel)) (tb_app tb_X11_within (tb_app tb_X11 (tb_app tb_X0 (tb_app tb_X4 (tb_app tb_X4_add (tb_app tb_X11_accept (tb_app tb_X11_refuse tb_nil)))))))
set_option maxRecDepth 20000 in
theorem tb_X4_has : ∀ w ∈ v_X4_has, w ∈ lw_tbl := tb_mk (List.mem_of_getElem? (i := 622) rfl) (mem_r [144] (by decide +kernel)) (tb_app tb_X4 tb_nil)
set_option maxRecDepth 20000 in
theorem tb_X11_heed : ∀ w ∈ v_X11_heed, w ∈ lw_tbl := tb_mk (List.mem_of_getElem? (i := 618) rfl) (mem_r [546, 392, 619, 620, 621, 105, 603, 605, 0, 103] (by decide +kernel)) (tb_app tb_X11 (tb_app tb_X0 (tb_app tb_X4_has (tb_app tb_X11_refuse tb_nil))))
set_option maxRecDepth 20000 in
theorem tb_X11_goes : ∀ w ∈ v_X11_goes, w ∈ lw_tbl := tb_mk (List.mem_of_getElem? (i := 626) rfl) (mem_r [546, 392, 599, 600, 103, 619, 620, 621, 105, 603, 605, 0] (by decide +kernel)) (tb_app tb_X11 (tb_app tb_X0 (tb_app tb_X11_within (tb_app tb_X4_has (tb_app tb_X11_refuse tb_nil)))))
set_option maxRecDepth 20000 in
theorem tb_X11_coin : ∀ w ∈ v_X11_coin, w ∈ lw_tbl := tb_mk (List.mem_of_getElem? (i := 630) rfl) (mem_r [546, 392, 602, 599, 600, 103, 619, 620, 621, 105, 603, 605, 0] (by decide +kernel)) (tb_app tb_X11 (tb_app tb_X0 (tb_app tb_X11_within (tb_app tb_X4_has (tb_app tb_X11_refuse tb_nil)))))
set_option maxRecDepth 20000 in
theorem tb_X11_give : ∀ w ∈ v_X11_give, w ∈ lw_tbl := tb_mk (List.mem_of_getElem? (i := 642) rfl) (mem_r [643, 599, 600, 103, 546, 402, 367, 644, 645, 637, 115, 638, 611, 613, 1, 603, 605, 0] (by decide +kernel)) (tb_app tb_X11_within (tb_app tb_X11 (tb_app tb_X0 (tb_app tb_X3 (tb_app tb_X11_accept (tb_app tb_X11_refuse tb_nil))))))
set_option maxRecDepth 20000 in
theorem tb_X1_addEstate : ∀ w ∈ v_X1_addEstate, w ∈ lw_tbl := tb_mk (List.mem_of_getElem? (i := 653) rfl) (mem_r [220, 223, 226, 228] (by decide +kernel)) (tb_app tb_X1 tb_nil)
set_option maxRecDepth 20000 in
theorem tb_X11_estate : ∀ w ∈ v_X11_estate, w ∈ lw_tbl := tb_mk (List.mem_of_getElem? (i := 649) rfl) (mem_r [643, 599, 600, 103, 602, 546, 394, 221, 650, 651, 652, 106, 611, 613, 1, 603, 605, 0] (by decide +kernel)) (tb_app tb_X11_within (tb_app tb_X11 (tb_app tb_X0 (tb_app tb_X1 (tb_app tb_X1_addEstate (tb_app tb_X11_accept (tb_app tb_X11_refuse tb_nil)))))))
set_option maxRecDepth 20000 in
theorem tb_X1_hasEstate : ∀ w ∈ v_X1_hasEstate, w ∈ lw_tbl := tb_mk (List.mem_of_getElem? (i := 662) rfl) (mem_r [220] (by decide +kernel)) (tb_app tb_X1 tb_nil)
set_option maxRecDepth 20000 in
theorem tb_X11_field : ∀ w ∈ v_X11_field, w ∈ lw_tbl := tb_mk (List.mem_of_getElem? (i := 657) rfl) (mem_r [546, 392, 599, 600, 103, 658, 394, 659, 660, 661, 106, 603, 605, 0] (by decide +kernel)) (tb_app tb_X11 (tb_app tb_X0 (tb_app tb_X11_within (tb_app tb_X1_hasEstate (tb_app tb_X11_refuse tb_nil)))))
set_option maxRecDepth 20000 in
theorem tb_X11_of : ∀ w ∈ v_X11_of, w ∈ lw_tbl := tb_mk (List.mem_of_getElem? (i := 674) rfl) (mem_r [546, 392, 619, 620, 621, 105] (by decide +kernel)) (tb_app tb_X11 (tb_app tb_X0 (tb_app tb_X4_has tb_nil)))
set_option maxRecDepth 20000 in
theorem tb_X1_has : ∀ w ∈ v_X1_has, w ∈ lw_tbl := tb_mk (List.mem_of_getElem? (i := 686) rfl) (mem_r [198] (by decide +kernel)) (tb_app tb_X1 tb_nil)
set_option maxRecDepth 20000 in
theorem tb_X11_tells : ∀ w ∈ v_X11_tells, w ∈ lw_tbl := tb_mk (List.mem_of_getElem? (i := 682) rfl) (mem_r [546, 394, 683, 684, 685, 106] (by decide +kernel)) (tb_app tb_X11 (tb_app tb_X0 (tb_app tb_X1_has tb_nil)))
set_option maxRecDepth 20000 in
theorem tb_X11_owner : ∀ w ∈ v_X11_owner, w ∈ lw_tbl := tb_mk (List.mem_of_getElem? (i := 771) rfl) (mem_r [546, 394, 659, 660, 661, 106] (by decide +kernel)) (tb_app tb_X11 (tb_app tb_X0 (tb_app tb_X1_hasEstate tb_nil)))
set_option maxRecDepth 20000 in
theorem tb_X11_fund : ∀ w ∈ v_X11_fund, w ∈ lw_tbl := tb_mk (List.mem_of_getElem? (i := 775) rfl) (mem_r [546, 402, 367] (by decide +kernel)) (tb_app tb_X11 (tb_app tb_X0 (tb_app tb_X3 tb_nil)))
set_option maxRecDepth 20000 in
theorem tb_X11_isWeek : ∀ w ∈ v_X11_isWeek, w ∈ lw_tbl := tb_mk (List.mem_of_getElem? (i := 782) rfl) (mem_r [] (by decide +kernel)) tb_nil
set_option maxRecDepth 20000 in
theorem tb_X11_price : ∀ w ∈ v_X11_price, w ∈ lw_tbl := tb_mk (List.mem_of_getElem? (i := 779) rfl) (mem_r [780, 781, 103, 599, 600, 546, 398, 327, 611, 613, 1, 603, 605, 0] (by decide +kernel)) (tb_app tb_X11_isWeek (tb_app tb_X11_within (tb_app tb_X11 (tb_app tb_X0 (tb_app tb_X7 (tb_app tb_X11_accept (tb_app tb_X11_refuse tb_nil)))))))
set_option maxRecDepth 20000 in
theorem tb_X11_whyNoRow : ∀ w ∈ v_X11_whyNoRow, w ∈ lw_tbl := tb_mk (List.mem_of_getElem? (i := 790) rfl) (mem_r [780, 781, 103, 546, 394, 683, 684, 685, 106] (by decide +kernel)) (tb_app tb_X11_isWeek (tb_app tb_X11 (tb_app tb_X0 (tb_app tb_X1_has tb_nil))))
set_option maxRecDepth 20000 in
theorem tb_X11_row : ∀ w ∈ v_X11_row, w ∈ lw_tbl := tb_mk (List.mem_of_getElem? (i := 786) rfl) (mem_r [787, 789, 4, 103, 552, 462, 603, 605, 0] (by decide +kernel)) (tb_app tb_X11_whyNoRow (tb_app tb_X11 (tb_app tb_X8 (tb_app tb_X11_refuse tb_nil))))
set_option maxRecDepth 20000 in
theorem tb_X11_crop : ∀ w ∈ v_X11_crop, w ∈ lw_tbl := tb_mk (List.mem_of_getElem? (i := 842) rfl) (mem_r [546, 394, 683, 684, 685, 106] (by decide +kernel)) (tb_app tb_X11 (tb_app tb_X0 (tb_app tb_X1_has tb_nil)))
set_option maxRecDepth 20000 in
theorem tb_X8_append_0 : ∀ w ∈ v_X8_append_0, w ∈ lw_tbl := tb_mk (List.mem_of_getElem? (i := 854) rfl) (mem_r [460, 463] (by decide +kernel)) (tb_app tb_X8 tb_nil)
set_option maxRecDepth 20000 in
theorem tb_X8_append_4 : ∀ w ∈ v_X8_append_4, w ∈ lw_tbl := tb_mk (List.mem_of_getElem? (i := 854) rfl) (mem_r [460, 463] (by decide +kernel)) (tb_app tb_X8 tb_nil)
set_option maxRecDepth 20000 in
theorem tb_X8_append_8 : ∀ w ∈ v_X8_append_8, w ∈ lw_tbl := tb_mk (List.mem_of_getElem? (i := 854) rfl) (mem_r [460, 463] (by decide +kernel)) (tb_app tb_X8 tb_nil)
set_option maxRecDepth 20000 in
theorem tb_X8_append_12 : ∀ w ∈ v_X8_append_12, w ∈ lw_tbl := tb_mk (List.mem_of_getElem? (i := 854) rfl) (mem_r [460, 463] (by decide +kernel)) (tb_app tb_X8 tb_nil)
set_option maxRecDepth 20000 in
theorem tb_X8_append_16 : ∀ w ∈ v_X8_append_16, w ∈ lw_tbl := tb_mk (List.mem_of_getElem? (i := 854) rfl) (mem_r [460, 463] (by decide +kernel)) (tb_app tb_X8 tb_nil)
set_option maxRecDepth 20000 in
theorem tb_X11_feed : ∀ w ∈ v_X11_feed, w ∈ lw_tbl := tb_mk (List.mem_of_getElem? (i := 850) rfl) (mem_r [552, 462, 851, 852, 853, 112] (by decide +kernel)) (tb_app tb_X11 (tb_app tb_X8 (tb_app tb_X8_append_0 (tb_app tb_X8_append_4 (tb_app tb_X8_append_8 (tb_app tb_X8_append_12 (tb_app tb_X8_append_16 tb_nil)))))))
set_option maxRecDepth 20000 in
theorem tb_X11_end : ∀ w ∈ v_X11_end, w ∈ lw_tbl := tb_mk (List.mem_of_getElem? (i := 858) rfl) (mem_r [552, 462, 599, 600, 103] (by decide +kernel)) (tb_app tb_X11 (tb_app tb_X8 (tb_app tb_X11_within tb_nil)))
set_option maxRecDepth 20000 in
theorem tb_X5_split : ∀ w ∈ v_X5_split, w ∈ lw_tbl := tb_mk (List.mem_of_getElem? (i := 870) rfl) (mem_r [505, 461, 507, 506] (by decide +kernel)) (tb_app tb_X5 (tb_app tb_X8 tb_nil))
set_option maxRecDepth 20000 in
theorem tb_X5_fail : ∀ w ∈ v_X5_fail, w ∈ lw_tbl := tb_mk (List.mem_of_getElem? (i := 944) rfl) (mem_r [483, 507, 509] (by decide +kernel)) (tb_app tb_X5 tb_nil)
set_option maxRecDepth 20000 in
theorem tb_X5_readClause : ∀ w ∈ v_X5_readClause, w ∈ lw_tbl := tb_mk (List.mem_of_getElem? (i := 940) rfl) (mem_r [486, 506, 509, 489, 491, 493, 495, 500, 941, 943, 9, 113, 497] (by decide +kernel)) (tb_app tb_X5 (tb_app tb_X5_fail tb_nil))
set_option maxRecDepth 20000 in
theorem tb_X5_read : ∀ w ∈ v_X5_read, w ∈ lw_tbl := tb_mk (List.mem_of_getElem? (i := 866) rfl) (mem_r [867, 869, 7, 113, 483, 486, 488, 500, 509, 510, 937, 939, 8, 505, 506] (by decide +kernel)) (tb_app tb_X5_split (tb_app tb_X5 (tb_app tb_X5_readClause tb_nil)))
set_option maxRecDepth 20000 in
theorem tb_X11_text : ∀ w ∈ v_X11_text, w ∈ lw_tbl := tb_mk (List.mem_of_getElem? (i := 862) rfl) (mem_r [780, 781, 103, 546, 400, 346, 553, 552, 863, 864, 865, 113, 462, 603, 605, 0] (by decide +kernel)) (tb_app tb_X11_isWeek (tb_app tb_X11 (tb_app tb_X0 (tb_app tb_X2 (tb_app tb_X5_read (tb_app tb_X8 (tb_app tb_X11_refuse tb_nil)))))))
set_option maxRecDepth 20000 in
theorem tb_X11_fault : ∀ w ∈ v_X11_fault, w ∈ lw_tbl := tb_mk (List.mem_of_getElem? (i := 1057) rfl) (mem_r [553, 484] (by decide +kernel)) (tb_app tb_X11 (tb_app tb_X5 tb_nil))
set_option maxRecDepth 20000 in
theorem tb_X2_has : ∀ w ∈ v_X2_has, w ∈ lw_tbl := tb_mk (List.mem_of_getElem? (i := 1065) rfl) (mem_r [344] (by decide +kernel)) (tb_app tb_X2 tb_nil)
set_option maxRecDepth 20000 in
theorem tb_X11_force : ∀ w ∈ v_X11_force, w ∈ lw_tbl := tb_mk (List.mem_of_getElem? (i := 1061) rfl) (mem_r [546, 400, 1062, 1063, 1064, 110] (by decide +kernel)) (tb_app tb_X11 (tb_app tb_X0 (tb_app tb_X2_has tb_nil)))
set_option maxRecDepth 20000 in
theorem tb_X11_holds : ∀ w ∈ v_X11_holds, w ∈ lw_tbl := tb_mk (List.mem_of_getElem? (i := 1071) rfl) (mem_r [546, 400, 1062, 1063, 1064, 110] (by decide +kernel)) (tb_app tb_X11 (tb_app tb_X0 (tb_app tb_X2_has tb_nil)))
set_option maxRecDepth 20000 in
theorem tb_X11_writ : ∀ w ∈ v_X11_writ, w ∈ lw_tbl := tb_mk (List.mem_of_getElem? (i := 1079) rfl) (mem_r [546, 394, 396, 683, 684, 685, 106, 603, 605, 0, 103] (by decide +kernel)) (tb_app tb_X11 (tb_app tb_X0 (tb_app tb_X1_has (tb_app tb_X11_refuse tb_nil))))
set_option maxRecDepth 20000 in
theorem tb_X11_avoid : ∀ w ∈ v_X11_avoid, w ∈ lw_tbl := tb_mk (List.mem_of_getElem? (i := 1092) rfl) (mem_r [546, 394, 683, 684, 685, 106, 603, 605, 0, 103] (by decide +kernel)) (tb_app tb_X11 (tb_app tb_X0 (tb_app tb_X1_has (tb_app tb_X11_refuse tb_nil))))
set_option maxRecDepth 20000 in
theorem tb_X11_guard : ∀ w ∈ v_X11_guard, w ∈ lw_tbl := tb_mk (List.mem_of_getElem? (i := 1096) rfl) (mem_r [546, 396, 780, 781, 103, 394, 683, 684, 685, 106, 603, 605, 0] (by decide +kernel)) (tb_app tb_X11 (tb_app tb_X0 (tb_app tb_X11_isWeek (tb_app tb_X1_has (tb_app tb_X11_refuse tb_nil)))))
set_option maxRecDepth 20000 in
theorem tb_X11_take : ∀ w ∈ v_X11_take, w ∈ lw_tbl := tb_mk (List.mem_of_getElem? (i := 1104) rfl) (mem_r [546, 394, 599, 600, 103, 392, 619, 620, 621, 105, 603, 605, 0] (by decide +kernel)) (tb_app tb_X11 (tb_app tb_X0 (tb_app tb_X11_within (tb_app tb_X4_has (tb_app tb_X11_refuse tb_nil)))))
set_option maxRecDepth 20000 in
theorem tb_X11_deal : ∀ w ∈ v_X11_deal, w ∈ lw_tbl := tb_mk (List.mem_of_getElem? (i := 1179) rfl) (mem_r [546, 392, 402, 599, 600, 103, 619, 620, 621, 105, 603, 605, 0] (by decide +kernel)) (tb_app tb_X11 (tb_app tb_X0 (tb_app tb_X11_within (tb_app tb_X4_has (tb_app tb_X11_refuse tb_nil)))))
set_option maxRecDepth 20000 in
theorem tb_X11_brave : ∀ w ∈ v_X11_brave, w ∈ lw_tbl := tb_mk (List.mem_of_getElem? (i := 1192) rfl) (mem_r [599, 600, 103, 546, 402, 370, 611, 613, 1, 603, 605, 0] (by decide +kernel)) (tb_app tb_X11_within (tb_app tb_X11 (tb_app tb_X0 (tb_app tb_X3 (tb_app tb_X11_accept (tb_app tb_X11_refuse tb_nil))))))
set_option maxRecDepth 20000 in
theorem tb_X11_keeps : ∀ w ∈ v_X11_keeps, w ∈ lw_tbl := tb_mk (List.mem_of_getElem? (i := 1196) rfl) (mem_r [546, 392, 619, 620, 621, 105] (by decide +kernel)) (tb_app tb_X11 (tb_app tb_X0 (tb_app tb_X4_has tb_nil)))
set_option maxRecDepth 20000 in
theorem tb_X11_broke : ∀ w ∈ v_X11_broke, w ∈ lw_tbl := tb_mk (List.mem_of_getElem? (i := 1200) rfl) (mem_r [546, 392, 619, 620, 621, 105] (by decide +kernel)) (tb_app tb_X11 (tb_app tb_X0 (tb_app tb_X4_has tb_nil)))
set_option maxRecDepth 20000 in
theorem tb_X11_least : ∀ w ∈ v_X11_least, w ∈ lw_tbl := tb_mk (List.mem_of_getElem? (i := 1214) rfl) (mem_r [546, 404, 599, 600, 103, 394, 659, 660, 661, 106] (by decide +kernel)) (tb_app tb_X11 (tb_app tb_X0 (tb_app tb_X11_within (tb_app tb_X1_hasEstate tb_nil))))
set_option maxRecDepth 20000 in
theorem tb_X3_addOffer : ∀ w ∈ v_X3_addOffer, w ∈ lw_tbl := tb_mk (List.mem_of_getElem? (i := 1233) rfl) (mem_r [373, 375, 376] (by decide +kernel)) (tb_app tb_X3 tb_nil)
set_option maxRecDepth 20000 in
theorem tb_X11_offer : ∀ w ∈ v_X11_offer, w ∈ lw_tbl := tb_mk (List.mem_of_getElem? (i := 1229) rfl) (mem_r [599, 600, 103, 546, 402, 374, 1230, 1231, 1232, 111, 611, 613, 1, 603, 605, 0] (by decide +kernel)) (tb_app tb_X11_within (tb_app tb_X11 (tb_app tb_X0 (tb_app tb_X3 (tb_app tb_X3_addOffer (tb_app tb_X11_accept (tb_app tb_X11_refuse tb_nil)))))))
set_option maxRecDepth 20000 in
theorem tb_X3_sumOf : ∀ w ∈ v_X3_sumOf, w ∈ lw_tbl := tb_mk (List.mem_of_getElem? (i := 1245) rfl) (mem_r [373] (by decide +kernel)) (tb_app tb_X3 tb_nil)
set_option maxRecDepth 20000 in
theorem tb_X3_bestSet : ∀ w ∈ v_X3_bestSet, w ∈ lw_tbl := tb_mk (List.mem_of_getElem? (i := 1241) rfl) (mem_r [373, 375, 1242, 1244, 31, 111, 376] (by decide +kernel)) (tb_app tb_X3 (tb_app tb_X3_sumOf tb_nil))
set_option maxRecDepth 20000 in
theorem tb_X11_agree : ∀ w ∈ v_X11_agree, w ∈ lw_tbl := tb_mk (List.mem_of_getElem? (i := 1237) rfl) (mem_r [599, 600, 103, 546, 402, 1238, 1239, 1240, 111] (by decide +kernel)) (tb_app tb_X11_within (tb_app tb_X11 (tb_app tb_X0 (tb_app tb_X3_bestSet tb_nil))))
set_option maxRecDepth 20000 in
theorem tb_X11_wish : ∀ w ∈ v_X11_wish, w ∈ lw_tbl := tb_mk (List.mem_of_getElem? (i := 1255) rfl) (mem_r [546, 394, 683, 684, 685, 106, 603, 605, 0, 103] (by decide +kernel)) (tb_app tb_X11 (tb_app tb_X0 (tb_app tb_X1_has (tb_app tb_X11_refuse tb_nil))))
set_option maxRecDepth 20000 in
theorem tb_X11_clear : ∀ w ∈ v_X11_clear, w ∈ lw_tbl := tb_mk (List.mem_of_getElem? (i := 1263) rfl) (mem_r [555, 558] (by decide +kernel)) (tb_app tb_X11 tb_nil)
set_option maxRecDepth 20000 in
theorem tb_X11_crops : ∀ w ∈ v_X11_crops, w ∈ lw_tbl := tb_mk (List.mem_of_getElem? (i := 1267) rfl) (mem_r [599, 600, 103, 558, 556, 557, 611, 613, 1, 603, 605, 0] (by decide +kernel)) (tb_app tb_X11_within (tb_app tb_X11 (tb_app tb_X11_accept (tb_app tb_X11_refuse tb_nil))))
set_option maxRecDepth 20000 in
theorem tb_X11_canGo : ∀ w ∈ v_X11_canGo, w ∈ lw_tbl := tb_mk (List.mem_of_getElem? (i := 1113) rfl) (mem_r [599, 600, 103, 546, 404] (by decide +kernel)) (tb_app tb_X11_within (tb_app tb_X11 (tb_app tb_X0 tb_nil)))
set_option maxRecDepth 20000 in
theorem tb_X11_canChoose : ∀ w ∈ v_X11_canChoose, w ∈ lw_tbl := tb_mk (List.mem_of_getElem? (i := 1275) rfl) (mem_r [1110, 1112, 19, 103, 558] (by decide +kernel)) (tb_app tb_X11_canGo (tb_app tb_X11 tb_nil))
set_option maxRecDepth 20000 in
theorem tb_X11_choose : ∀ w ∈ v_X11_choose, w ∈ lw_tbl := tb_mk (List.mem_of_getElem? (i := 1271) rfl) (mem_r [1272, 1274, 33, 103] (by decide +kernel)) (tb_app tb_X11_canChoose tb_nil)
set_option maxRecDepth 20000 in
theorem tb_X11_chosen : ∀ w ∈ v_X11_chosen, w ∈ lw_tbl := tb_mk (List.mem_of_getElem? (i := 1326) rfl) (mem_r [560, 599, 600, 103] (by decide +kernel)) (tb_app tb_X11 (tb_app tb_X11_within tb_nil))
set_option maxRecDepth 20000 in
theorem tb_X11_judge : ∀ w ∈ v_X11_judge, w ∈ lw_tbl := tb_mk (List.mem_of_getElem? (i := 1330) rfl) (mem_r [1272, 1274, 33, 103] (by decide +kernel)) (tb_app tb_X11_canChoose tb_nil)
set_option maxRecDepth 20000 in
theorem tb_X11_beside : ∀ w ∈ v_X11_beside, w ∈ lw_tbl := tb_mk (List.mem_of_getElem? (i := 1334) rfl) (mem_r [1110, 1112, 19, 103, 546, 400, 346, 553, 552, 404, 863, 864, 865, 113, 462, 1335] (by decide +kernel)) (tb_app tb_X11_canGo (tb_app tb_X11 (tb_app tb_X0 (tb_app tb_X2 (tb_app tb_X5_read (tb_app tb_X8 tb_nil))))))
set_option maxRecDepth 20000 in
theorem tb_X1_sumOfRents : ∀ w ∈ v_X1_sumOfRents, w ∈ lw_tbl := tb_mk (List.mem_of_getElem? (i := 1351) rfl) (mem_r [198] (by decide +kernel)) (tb_app tb_X1 tb_nil)
set_option maxRecDepth 20000 in
theorem tb_X1_sumByPlace : ∀ w ∈ v_X1_sumByPlace, w ∈ lw_tbl := tb_mk (List.mem_of_getElem? (i := 1355) rfl) (mem_r [198] (by decide +kernel)) (tb_app tb_X1 tb_nil)
set_option maxRecDepth 20000 in
theorem tb_X1_keepSums : ∀ w ∈ v_X1_keepSums, w ∈ lw_tbl := tb_mk (List.mem_of_getElem? (i := 1347) rfl) (mem_r [198, 231, 1348, 1349, 1350, 106, 232, 1352, 1353, 1354, 233] (by decide +kernel)) (tb_app tb_X1 (tb_app tb_X1_sumOfRents (tb_app tb_X1_sumByPlace tb_nil)))
set_option maxRecDepth 20000 in
theorem tb_X11_seal : ∀ w ∈ v_X11_seal, w ∈ lw_tbl := tb_mk (List.mem_of_getElem? (i := 1343) rfl) (mem_r [546, 394, 1344, 1345, 1346, 106, 200] (by decide +kernel)) (tb_app tb_X11 (tb_app tb_X0 (tb_app tb_X1_keepSums (tb_app tb_X1 tb_nil))))
set_option maxRecDepth 20000 in
theorem tb_X11_alter : ∀ w ∈ v_X11_alter, w ∈ lw_tbl := tb_mk (List.mem_of_getElem? (i := 1359) rfl) (mem_r [599, 600, 103, 546, 394, 683, 684, 685, 106, 603, 605, 0] (by decide +kernel)) (tb_app tb_X11_within (tb_app tb_X11 (tb_app tb_X0 (tb_app tb_X1_has (tb_app tb_X11_refuse tb_nil)))))
set_option maxRecDepth 20000 in
theorem tb_X1_findAltered : ∀ w ∈ v_X1_findAltered, w ∈ lw_tbl := tb_mk (List.mem_of_getElem? (i := 1367) rfl) (mem_r [231] (by decide +kernel)) (tb_app tb_X1 tb_nil)
set_option maxRecDepth 20000 in
theorem tb_X11_found : ∀ w ∈ v_X11_found, w ∈ lw_tbl := tb_mk (List.mem_of_getElem? (i := 1363) rfl) (mem_r [546, 394, 1364, 1365, 1366, 106] (by decide +kernel)) (tb_app tb_X11 (tb_app tb_X0 (tb_app tb_X1_findAltered tb_nil)))
set_option maxRecDepth 20000 in
theorem tb_X11_back : ∀ w ∈ v_X11_back, w ∈ lw_tbl := tb_mk (List.mem_of_getElem? (i := 1375) rfl) (mem_r [599, 600, 103, 551, 603, 605, 0, 550] (by decide +kernel)) (tb_app tb_X11_within (tb_app tb_X11 (tb_app tb_X11_refuse tb_nil)))
set_option maxRecDepth 20000 in
theorem tb_X11_count : ∀ w ∈ v_X11_count, w ∈ lw_tbl := tb_mk (List.mem_of_getElem? (i := 1379) rfl) (mem_r [546, 404, 392, 145, 394, 221, 200, 400, 346, 396, 273, 402, 372, 374, 555, 552, 462] (by decide +kernel)) (tb_app tb_X11 (tb_app tb_X0 (tb_app tb_X4 (tb_app tb_X1 (tb_app tb_X2 (tb_app tb_X10 (tb_app tb_X3 (tb_app tb_X8 tb_nil))))))))
set_option maxRecDepth 20000 in
theorem tb_X11_status : ∀ w ∈ v_X11_status, w ∈ lw_tbl := tb_mk (List.mem_of_getElem? (i := 1383) rfl) (mem_r [561] (by decide +kernel)) (tb_app tb_X11 tb_nil)
set_option maxRecDepth 20000 in
theorem tb_J7_fill_20 : ∀ w ∈ v_J7_fill_20, w ∈ lw_tbl := tb_mk (List.mem_of_getElem? (i := 325) rfl) (mem_r [] (by decide +kernel)) tb_nil
set_option maxRecDepth 20000 in
theorem tb_X2_mark_v1 : ∀ w ∈ v_X2_mark_v1, w ∈ lw_tbl := tb_mk (List.mem_of_getElem? (i := 694) rfl) (mem_r [350, 695, 324, 109, 344] (by decide +kernel)) (tb_app tb_X2 (tb_app tb_J7_fill_20 tb_nil))
set_option maxRecDepth 20000 in
theorem tb_X7_priceIn : ∀ w ∈ v_X7_priceIn, w ∈ lw_tbl := tb_mk (List.mem_of_getElem? (i := 703) rfl) (mem_r [704, 637, 115, 638, 326] (by decide +kernel)) (tb_app tb_X7 tb_nil)
set_option maxRecDepth 20000 in
theorem tb_X0_lookAtNow_v1 : ∀ w ∈ v_X0_lookAtNow_v1, w ∈ lw_tbl := tb_mk (List.mem_of_getElem? (i := 690) rfl) (mem_r [399, 403, 691, 692, 693, 110, 408, 397, 700, 701, 702, 108, 415] (by decide +kernel)) (tb_app tb_X0 (tb_app tb_X2_mark_v1 (tb_app tb_X7_priceIn tb_nil)))
set_option maxRecDepth 20000 in
theorem tb_X0_reap_v1 : ∀ w ∈ v_X0_reap_v1, w ∈ lw_tbl := tb_mk (List.mem_of_getElem? (i := 1122) rfl) (mem_r [408, 397, 329, 403] (by decide +kernel)) (tb_app tb_X0 (tb_app tb_X7 tb_nil))
set_option maxRecDepth 20000 in
theorem tb_X0_payDraws_v1 : ∀ w ∈ v_X0_payDraws_v1, w ∈ lw_tbl := tb_mk (List.mem_of_getElem? (i := 1161) rfl) (mem_r [391, 146] (by decide +kernel)) (tb_app tb_X0 (tb_app tb_X4 tb_nil))
set_option maxRecDepth 20000 in
theorem tb_X0_renewBans_v1 : ∀ w ∈ v_X0_renewBans_v1, w ∈ lw_tbl := tb_mk (List.mem_of_getElem? (i := 1174) rfl) (mem_r [391, 146, 169, 167, 1175, 1004, 1003, 122] (by decide +kernel)) (tb_app tb_X0 (tb_app tb_X4 tb_nil))
set_option maxRecDepth 20000 in
theorem tb_X0_payDraws_v2 : ∀ w ∈ v_X0_payDraws_v2, w ∈ lw_tbl := tb_mk (List.mem_of_getElem? (i := 1161) rfl) (mem_r [391, 146] (by decide +kernel)) (tb_app tb_X0 (tb_app tb_X4 tb_nil))
set_option maxRecDepth 20000 in
theorem tb_X0_renewBans_v2 : ∀ w ∈ v_X0_renewBans_v2, w ∈ lw_tbl := tb_mk (List.mem_of_getElem? (i := 1174) rfl) (mem_r [391, 146, 169, 167, 1175, 1004, 1003, 122] (by decide +kernel)) (tb_app tb_X0 (tb_app tb_X4 tb_nil))
set_option maxRecDepth 20000 in
theorem tb_X0_collectRents_v1 : ∀ w ∈ v_X0_collectRents_v1, w ∈ lw_tbl := tb_mk (List.mem_of_getElem? (i := 1127) rfl) (mem_r [393, 199] (by decide +kernel)) (tb_app tb_X0 (tb_app tb_X1 tb_nil))
set_option maxRecDepth 20000 in
theorem tb_X0_payMortgages_v1 : ∀ w ∈ v_X0_payMortgages_v1, w ∈ lw_tbl := tb_mk (List.mem_of_getElem? (i := 1138) rfl) (mem_r [393, 222] (by decide +kernel)) (tb_app tb_X0 (tb_app tb_X1 tb_nil))
set_option maxRecDepth 20000 in
theorem tb_X0_passWeek : ∀ w ∈ v_X0_passWeek, w ∈ lw_tbl := tb_mk (List.mem_of_getElem? (i := 1117) rfl) (mem_r [403, 1118, 688, 689, 104, 1119, 1121, 20, 395, 272, 1158, 1160, 27, 405, 1171, 1173, 29, 1124, 1126, 21, 1135, 1137, 23, 408] (by decide +kernel)) (tb_app tb_X0 (tb_app tb_X0_lookAtNow_v1 (tb_app tb_X0_reap_v1 (tb_app tb_X10 (tb_app tb_X0_payDraws_v1 (tb_app tb_X0_renewBans_v1 (tb_app tb_X0_payDraws_v2 (tb_app tb_X0_renewBans_v2 (tb_app tb_X0_collectRents_v1 (tb_app tb_X0_payMortgages_v1 tb_nil))))))))))
set_option maxRecDepth 20000 in
theorem tb_X11_go : ∀ w ∈ v_X11_go, w ∈ lw_tbl := tb_mk (List.mem_of_getElem? (i := 1109) rfl) (mem_r [1110, 1112, 19, 103, 546, 404, 611, 613, 1, 1114, 1115, 1116, 104, 603, 605, 0] (by decide +kernel)) (tb_app tb_X11_canGo (tb_app tb_X11 (tb_app tb_X0 (tb_app tb_X11_accept (tb_app tb_X0_passWeek (tb_app tb_X11_refuse tb_nil))))))
set_option maxRecDepth 20000 in
theorem tb_X11_last : ∀ w ∈ v_X11_last, w ∈ lw_tbl := tb_mk (List.mem_of_getElem? (i := 1210) rfl) (mem_r [599, 600, 103, 546, 402, 367] (by decide +kernel)) (tb_app tb_X11_within (tb_app tb_X11 (tb_app tb_X0 (tb_app tb_X3 tb_nil))))
set_option maxRecDepth 20000 in
theorem tb_X4_copyFrom : ∀ w ∈ v_X4_copyFrom, w ∈ lw_tbl := tb_mk (List.mem_of_getElem? (i := 1292) rfl) (mem_r [144, 147, 1293, 1004, 1003, 122, 149, 152, 154, 156, 159, 162, 165] (by decide +kernel)) (tb_app tb_X4 tb_nil)
set_option maxRecDepth 20000 in
theorem tb_X1_copyFrom : ∀ w ∈ v_X1_copyFrom, w ∈ lw_tbl := tb_mk (List.mem_of_getElem? (i := 1297) rfl) (mem_r [198, 201, 1298, 1004, 1003, 122, 203, 206, 209, 212, 215, 217, 220, 223, 226, 228, 231, 232, 233] (by decide +kernel)) (tb_app tb_X1 tb_nil)
set_option maxRecDepth 20000 in
theorem tb_X10_copyFrom : ∀ w ∈ v_X10_copyFrom, w ∈ lw_tbl := tb_mk (List.mem_of_getElem? (i := 1302) rfl) (mem_r [271, 274, 1303, 1004, 1003, 122, 276, 278, 280, 282, 284, 287, 289, 290, 291] (by decide +kernel)) (tb_app tb_X10 tb_nil)
set_option maxRecDepth 20000 in
theorem tb_X7_copyFrom : ∀ w ∈ v_X7_copyFrom, w ∈ lw_tbl := tb_mk (List.mem_of_getElem? (i := 1307) rfl) (mem_r [326, 1308, 1004, 1003, 122, 328] (by decide +kernel)) (tb_app tb_X7 tb_nil)
set_option maxRecDepth 20000 in
theorem tb_X2_copyFrom : ∀ w ∈ v_X2_copyFrom, w ∈ lw_tbl := tb_mk (List.mem_of_getElem? (i := 1312) rfl) (mem_r [344, 347] (by decide +kernel)) (tb_app tb_X2 tb_nil)
set_option maxRecDepth 20000 in
theorem tb_X3_copyFrom : ∀ w ∈ v_X3_copyFrom, w ∈ lw_tbl := tb_mk (List.mem_of_getElem? (i := 1316) rfl) (mem_r [366, 369, 371, 373, 375, 1317, 1004, 1003, 122, 376] (by decide +kernel)) (tb_app tb_X3 tb_nil)
set_option maxRecDepth 20000 in
theorem tb_X0_copyFrom : ∀ w ∈ v_X0_copyFrom, w ∈ lw_tbl := tb_mk (List.mem_of_getElem? (i := 1288) rfl) (mem_r [391, 1289, 1290, 1291, 105, 393, 1294, 1295, 1296, 106, 395, 1299, 1300, 1301, 107, 397, 1304, 1305, 1306, 108, 399, 1309, 1310, 1311, 110, 401, 1313, 1314, 1315, 111, 403, 406, 390, 324, 109, 408, 411, 413] (by decide +kernel)) (tb_app tb_X0 (tb_app tb_X4_copyFrom (tb_app tb_X1_copyFrom (tb_app tb_X10_copyFrom (tb_app tb_X7_copyFrom (tb_app tb_X2_copyFrom (tb_app tb_X3_copyFrom (tb_app tb_J7_fill_40 tb_nil))))))))
set_option maxRecDepth 20000 in
theorem tb_X11_image : ∀ w ∈ v_X11_image, w ∈ lw_tbl := tb_mk (List.mem_of_getElem? (i := 1371) rfl) (mem_r [599, 600, 103, 548, 546, 1285, 1286, 1287, 104, 550, 611, 613, 1, 549, 551, 603, 605, 0] (by decide +kernel)) (tb_app tb_X11_within (tb_app tb_X11 (tb_app tb_X0_copyFrom (tb_app tb_X11_accept (tb_app tb_X11_refuse tb_nil)))))
set_option maxRecDepth 20000 in
theorem tb_X12_in : ∀ w ∈ v_X12_in, w ∈ lw_tbl := tb_mk (List.mem_of_getElem? (i := 1556) rfl) (mem_r [] (by decide +kernel)) tb_nil
set_option maxRecDepth 20000 in
theorem tb_X12_personAt_v1 : ∀ w ∈ v_X12_personAt_v1, w ∈ lw_tbl := tb_mk (List.mem_of_getElem? (i := 1574) rfl) (mem_r [] (by decide +kernel)) tb_nil
set_option maxRecDepth 20000 in
theorem tb_X12_addFour_20 : ∀ w ∈ v_X12_addFour_20, w ∈ lw_tbl := tb_mk (List.mem_of_getElem? (i := 1578) rfl) (mem_r [1394] (by decide +kernel)) (tb_app tb_X12 tb_nil)
set_option maxRecDepth 20000 in
theorem tb_X12_addFour_24 : ∀ w ∈ v_X12_addFour_24, w ∈ lw_tbl := tb_mk (List.mem_of_getElem? (i := 1578) rfl) (mem_r [1394] (by decide +kernel)) (tb_app tb_X12 tb_nil)
set_option maxRecDepth 20000 in
theorem tb_X12_told_v1 : ∀ w ∈ v_X12_told_v1, w ∈ lw_tbl := tb_mk (List.mem_of_getElem? (i := 1560) rfl) (mem_r [1393] (by decide +kernel)) (tb_app tb_X12 tb_nil)
set_option maxRecDepth 20000 in
theorem tb_X12_told_v2 : ∀ w ∈ v_X12_told_v2, w ∈ lw_tbl := tb_mk (List.mem_of_getElem? (i := 1560) rfl) (mem_r [1393] (by decide +kernel)) (tb_app tb_X12 tb_nil)
set_option maxRecDepth 20000 in
theorem tb_X12_person : ∀ w ∈ v_X12_person, w ∈ lw_tbl := tb_mk (List.mem_of_getElem? (i := 1568) rfl) (mem_r [1392, 1569, 1554, 1555, 114, 1570, 1571, 1394, 1572, 1573, 1575, 1577, 38, 1557, 1559, 37] (by decide +kernel)) (tb_app tb_X12 (tb_app tb_X12_in (tb_app tb_X12_personAt_v1 (tb_app tb_X12_addFour_20 (tb_app tb_X12_addFour_24 (tb_app tb_X12_told_v1 (tb_app tb_X12_told_v2 tb_nil)))))))
set_option maxRecDepth 20000 in
theorem tb_X12_isPerson_v1 : ∀ w ∈ v_X12_isPerson_v1, w ∈ lw_tbl := tb_mk (List.mem_of_getElem? (i := 1586) rfl) (mem_r [1394, 1554, 1555, 114] (by decide +kernel)) (tb_app tb_X12 (tb_app tb_X12_in tb_nil))
set_option maxRecDepth 20000 in
theorem tb_X12_told_v3 : ∀ w ∈ v_X12_told_v3, w ∈ lw_tbl := tb_mk (List.mem_of_getElem? (i := 1560) rfl) (mem_r [1393] (by decide +kernel)) (tb_app tb_X12 tb_nil)
set_option maxRecDepth 20000 in
theorem tb_X12_heed : ∀ w ∈ v_X12_heed, w ∈ lw_tbl := tb_mk (List.mem_of_getElem? (i := 1582) rfl) (mem_r [1392, 1583, 1585, 39, 114, 1557, 1559, 37] (by decide +kernel)) (tb_app tb_X12 (tb_app tb_X12_isPerson_v1 (tb_app tb_X12_told_v3 tb_nil)))
set_option maxRecDepth 20000 in
theorem tb_X12_goes : ∀ w ∈ v_X12_goes, w ∈ lw_tbl := tb_mk (List.mem_of_getElem? (i := 1590) rfl) (mem_r [1392, 1591, 1554, 1555, 114, 1583, 1585, 39, 1557, 1559, 37] (by decide +kernel)) (tb_app tb_X12 (tb_app tb_X12_in (tb_app tb_X12_isPerson_v1 (tb_app tb_X12_told_v3 (tb_app tb_X12_told_v2 tb_nil)))))
set_option maxRecDepth 20000 in
theorem tb_X12_coin : ∀ w ∈ v_X12_coin, w ∈ lw_tbl := tb_mk (List.mem_of_getElem? (i := 1595) rfl) (mem_r [1392, 1570, 1554, 1555, 114, 1583, 1585, 39, 1557, 1559, 37] (by decide +kernel)) (tb_app tb_X12 (tb_app tb_X12_in (tb_app tb_X12_isPerson_v1 (tb_app tb_X12_told_v3 (tb_app tb_X12_told_v2 tb_nil)))))
set_option maxRecDepth 20000 in
theorem tb_X12_told_v4 : ∀ w ∈ v_X12_told_v4, w ∈ lw_tbl := tb_mk (List.mem_of_getElem? (i := 1560) rfl) (mem_r [1393] (by decide +kernel)) (tb_app tb_X12 tb_nil)
set_option maxRecDepth 20000 in
theorem tb_X12_give : ∀ w ∈ v_X12_give, w ∈ lw_tbl := tb_mk (List.mem_of_getElem? (i := 1605) rfl) (mem_r [1392, 1601, 1554, 1555, 114, 1394, 1606, 1557, 1559, 37] (by decide +kernel)) (tb_app tb_X12 (tb_app tb_X12_in (tb_app tb_X12_told_v4 (tb_app tb_X12_told_v2 tb_nil))))
set_option maxRecDepth 20000 in
theorem tb_X12_estateAt_v1 : ∀ w ∈ v_X12_estateAt_v1, w ∈ lw_tbl := tb_mk (List.mem_of_getElem? (i := 1613) rfl) (mem_r [] (by decide +kernel)) tb_nil
set_option maxRecDepth 20000 in
theorem tb_X12_estate : ∀ w ∈ v_X12_estate, w ∈ lw_tbl := tb_mk (List.mem_of_getElem? (i := 1610) rfl) (mem_r [1392, 1601, 1554, 1555, 114, 1570, 1394, 1611, 1612, 1557, 1559, 37] (by decide +kernel)) (tb_app tb_X12 (tb_app tb_X12_in (tb_app tb_X12_estateAt_v1 (tb_app tb_X12_told_v1 (tb_app tb_X12_told_v2 tb_nil)))))
set_option maxRecDepth 20000 in
theorem tb_X12_isEstate_v1 : ∀ w ∈ v_X12_isEstate_v1, w ∈ lw_tbl := tb_mk (List.mem_of_getElem? (i := 1623) rfl) (mem_r [1394, 1554, 1555, 114] (by decide +kernel)) (tb_app tb_X12 (tb_app tb_X12_in tb_nil))
set_option maxRecDepth 20000 in
theorem tb_X12_field : ∀ w ∈ v_X12_field, w ∈ lw_tbl := tb_mk (List.mem_of_getElem? (i := 1617) rfl) (mem_r [1392, 1618, 1554, 1555, 114, 1619, 1620, 1622, 41, 1557, 1559, 37] (by decide +kernel)) (tb_app tb_X12 (tb_app tb_X12_in (tb_app tb_X12_isEstate_v1 (tb_app tb_X12_told_v3 (tb_app tb_X12_told_v2 tb_nil)))))
set_option maxRecDepth 20000 in
theorem tb_X12_of : ∀ w ∈ v_X12_of, w ∈ lw_tbl := tb_mk (List.mem_of_getElem? (i := 1630) rfl) (mem_r [1392, 1583, 1585, 39, 114] (by decide +kernel)) (tb_app tb_X12 (tb_app tb_X12_isPerson_v1 tb_nil))
set_option maxRecDepth 20000 in
theorem tb_X12_isField_v1 : ∀ w ∈ v_X12_isField_v1, w ∈ lw_tbl := tb_mk (List.mem_of_getElem? (i := 1642) rfl) (mem_r [1394, 1554, 1555, 114] (by decide +kernel)) (tb_app tb_X12 (tb_app tb_X12_in tb_nil))
set_option maxRecDepth 20000 in
theorem tb_X12_tells : ∀ w ∈ v_X12_tells, w ∈ lw_tbl := tb_mk (List.mem_of_getElem? (i := 1638) rfl) (mem_r [1392, 1639, 1641, 43, 114] (by decide +kernel)) (tb_app tb_X12 (tb_app tb_X12_isField_v1 tb_nil))
set_option maxRecDepth 20000 in
theorem tb_X12_owner : ∀ w ∈ v_X12_owner, w ∈ lw_tbl := tb_mk (List.mem_of_getElem? (i := 1710) rfl) (mem_r [1392, 1620, 1622, 41, 114] (by decide +kernel)) (tb_app tb_X12 (tb_app tb_X12_isEstate_v1 tb_nil))
set_option maxRecDepth 20000 in
theorem tb_X12_fund : ∀ w ∈ v_X12_fund, w ∈ lw_tbl := tb_mk (List.mem_of_getElem? (i := 1714) rfl) (mem_r [1392, 1394] (by decide +kernel)) (tb_app tb_X12 tb_nil)
set_option maxRecDepth 20000 in
theorem tb_X12_isWeek : ∀ w ∈ v_X12_isWeek, w ∈ lw_tbl := tb_mk (List.mem_of_getElem? (i := 1721) rfl) (mem_r [1722, 1554, 1555, 114] (by decide +kernel)) (tb_app tb_X12_in tb_nil)
set_option maxRecDepth 20000 in
theorem tb_X12_price : ∀ w ∈ v_X12_price, w ∈ lw_tbl := tb_mk (List.mem_of_getElem? (i := 1718) rfl) (mem_r [1392, 1719, 1720, 114, 1723, 1554, 1555, 1394, 1557, 1559, 37] (by decide +kernel)) (tb_app tb_X12 (tb_app tb_X12_isWeek (tb_app tb_X12_in (tb_app tb_X12_told_v1 (tb_app tb_X12_told_v2 tb_nil)))))
set_option maxRecDepth 20000 in
theorem tb_X12_row : ∀ w ∈ v_X12_row, w ∈ lw_tbl := tb_mk (List.mem_of_getElem? (i := 1727) rfl) (mem_r [1392, 1404, 1719, 1720, 114, 1639, 1641, 43, 1557, 1559, 37] (by decide +kernel)) (tb_app tb_X12 (tb_app tb_X12_isWeek (tb_app tb_X12_isField_v1 (tb_app tb_X12_told_v3 (tb_app tb_X12_told_v2 tb_nil)))))
set_option maxRecDepth 20000 in
theorem tb_X12_crop : ∀ w ∈ v_X12_crop, w ∈ lw_tbl := tb_mk (List.mem_of_getElem? (i := 1744) rfl) (mem_r [1392, 1639, 1641, 43, 114] (by decide +kernel)) (tb_app tb_X12 (tb_app tb_X12_isField_v1 tb_nil))
set_option maxRecDepth 20000 in
theorem tb_X12_four_v1 : ∀ w ∈ v_X12_four_v1, w ∈ lw_tbl := tb_mk (List.mem_of_getElem? (i := 1752) rfl) (mem_r [1403, 1404] (by decide +kernel)) (tb_app tb_X12 tb_nil)
set_option maxRecDepth 20000 in
theorem tb_X12_four_v2 : ∀ w ∈ v_X12_four_v2, w ∈ lw_tbl := tb_mk (List.mem_of_getElem? (i := 1752) rfl) (mem_r [1403, 1404] (by decide +kernel)) (tb_app tb_X12 tb_nil)
set_option maxRecDepth 20000 in
theorem tb_X12_four_v3 : ∀ w ∈ v_X12_four_v3, w ∈ lw_tbl := tb_mk (List.mem_of_getElem? (i := 1752) rfl) (mem_r [1403, 1404] (by decide +kernel)) (tb_app tb_X12 tb_nil)
set_option maxRecDepth 20000 in
theorem tb_X12_four_v4 : ∀ w ∈ v_X12_four_v4, w ∈ lw_tbl := tb_mk (List.mem_of_getElem? (i := 1752) rfl) (mem_r [1403, 1404] (by decide +kernel)) (tb_app tb_X12 tb_nil)
set_option maxRecDepth 20000 in
theorem tb_X12_four_v5 : ∀ w ∈ v_X12_four_v5, w ∈ lw_tbl := tb_mk (List.mem_of_getElem? (i := 1752) rfl) (mem_r [1403, 1404] (by decide +kernel)) (tb_app tb_X12 tb_nil)
set_option maxRecDepth 20000 in
theorem tb_X12_feed : ∀ w ∈ v_X12_feed, w ∈ lw_tbl := tb_mk (List.mem_of_getElem? (i := 1748) rfl) (mem_r [1392, 1404, 1749, 1751, 60, 114] (by decide +kernel)) (tb_app tb_X12 (tb_app tb_X12_four_v1 (tb_app tb_X12_four_v2 (tb_app tb_X12_four_v3 (tb_app tb_X12_four_v4 (tb_app tb_X12_four_v5 tb_nil))))))
set_option maxRecDepth 20000 in
theorem tb_X12_end : ∀ w ∈ v_X12_end, w ∈ lw_tbl := tb_mk (List.mem_of_getElem? (i := 1756) rfl) (mem_r [1392, 1404] (by decide +kernel)) (tb_app tb_X12 tb_nil)
set_option maxRecDepth 20000 in
theorem tb_X12_next_v1 : ∀ w ∈ v_X12_next_v1, w ∈ lw_tbl := tb_mk (List.mem_of_getElem? (i := 1776) rfl) (mem_r [1406, 1405, 1404, 1408, 1407] (by decide +kernel)) (tb_app tb_X12 tb_nil)
set_option maxRecDepth 20000 in
theorem tb_X12_begin_v1 : ∀ w ∈ v_X12_begin_v1, w ∈ lw_tbl := tb_mk (List.mem_of_getElem? (i := 1772) rfl) (mem_r [1406, 1410, 1409, 1773, 1775, 63, 114] (by decide +kernel)) (tb_app tb_X12 (tb_app tb_X12_next_v1 tb_nil))
set_option maxRecDepth 20000 in
theorem tb_X12_isWord_v1 : ∀ w ∈ v_X12_isWord_v1, w ∈ lw_tbl := tb_mk (List.mem_of_getElem? (i := 1800) rfl) (mem_r [1407] (by decide +kernel)) (tb_app tb_X12 tb_nil)
set_option maxRecDepth 20000 in
theorem tb_X12_isWord_v2 : ∀ w ∈ v_X12_isWord_v2, w ∈ lw_tbl := tb_mk (List.mem_of_getElem? (i := 1800) rfl) (mem_r [1407] (by decide +kernel)) (tb_app tb_X12 tb_nil)
set_option maxRecDepth 20000 in
theorem tb_X12_isWord_v3 : ∀ w ∈ v_X12_isWord_v3, w ∈ lw_tbl := tb_mk (List.mem_of_getElem? (i := 1800) rfl) (mem_r [1407] (by decide +kernel)) (tb_app tb_X12 tb_nil)
set_option maxRecDepth 20000 in
theorem tb_X12_isWord_v4 : ∀ w ∈ v_X12_isWord_v4, w ∈ lw_tbl := tb_mk (List.mem_of_getElem? (i := 1800) rfl) (mem_r [1407] (by decide +kernel)) (tb_app tb_X12 tb_nil)
set_option maxRecDepth 20000 in
theorem tb_X12_isWord_v5 : ∀ w ∈ v_X12_isWord_v5, w ∈ lw_tbl := tb_mk (List.mem_of_getElem? (i := 1800) rfl) (mem_r [1407] (by decide +kernel)) (tb_app tb_X12 tb_nil)
set_option maxRecDepth 20000 in
theorem tb_X12_isWord_v6 : ∀ w ∈ v_X12_isWord_v6, w ∈ lw_tbl := tb_mk (List.mem_of_getElem? (i := 1800) rfl) (mem_r [1407] (by decide +kernel)) (tb_app tb_X12 tb_nil)
set_option maxRecDepth 20000 in
theorem tb_X12_isWord_v7 : ∀ w ∈ v_X12_isWord_v7, w ∈ lw_tbl := tb_mk (List.mem_of_getElem? (i := 1800) rfl) (mem_r [1407] (by decide +kernel)) (tb_app tb_X12 tb_nil)
set_option maxRecDepth 20000 in
theorem tb_X12_headAt_v1 : ∀ w ∈ v_X12_headAt_v1, w ∈ lw_tbl := tb_mk (List.mem_of_getElem? (i := 1795) rfl) (mem_r [1796, 1797, 1799, 66, 114, 1801, 1802, 1803, 1804, 1805, 1806] (by decide +kernel)) (tb_app tb_X12_isWord_v1 (tb_app tb_X12_isWord_v2 (tb_app tb_X12_isWord_v3 (tb_app tb_X12_isWord_v4 (tb_app tb_X12_isWord_v5 (tb_app tb_X12_isWord_v6 (tb_app tb_X12_isWord_v7 tb_nil)))))))
set_option maxRecDepth 20000 in
theorem tb_X12_must_v1 : ∀ w ∈ v_X12_must_v1, w ∈ lw_tbl := tb_mk (List.mem_of_getElem? (i := 1810) rfl) (mem_r [1410, 1405, 1409] (by decide +kernel)) (tb_app tb_X12 tb_nil)
set_option maxRecDepth 20000 in
theorem tb_X12_readClause_v1 : ∀ w ∈ v_X12_readClause_v1, w ∈ lw_tbl := tb_mk (List.mem_of_getElem? (i := 1791) rfl) (mem_r [1792, 1794, 65, 114, 1807, 1809, 67, 1410] (by decide +kernel)) (tb_app tb_X12_headAt_v1 (tb_app tb_X12_must_v1 (tb_app tb_X12 tb_nil)))
set_option maxRecDepth 20000 in
theorem tb_X12_readText_v1 : ∀ w ∈ v_X12_readText_v1, w ∈ lw_tbl := tb_mk (List.mem_of_getElem? (i := 1768) rfl) (mem_r [1769, 1771, 62, 114, 1411, 1413, 1416, 1788, 1790, 64, 1410] (by decide +kernel)) (tb_app tb_X12_begin_v1 (tb_app tb_X12 (tb_app tb_X12_readClause_v1 tb_nil)))
set_option maxRecDepth 20000 in
theorem tb_X12_told_v5 : ∀ w ∈ v_X12_told_v5, w ∈ lw_tbl := tb_mk (List.mem_of_getElem? (i := 1560) rfl) (mem_r [1393] (by decide +kernel)) (tb_app tb_X12 tb_nil)
set_option maxRecDepth 20000 in
theorem tb_X12_told_v6 : ∀ w ∈ v_X12_told_v6, w ∈ lw_tbl := tb_mk (List.mem_of_getElem? (i := 1560) rfl) (mem_r [1393] (by decide +kernel)) (tb_app tb_X12 tb_nil)
set_option maxRecDepth 20000 in
theorem tb_X12_text : ∀ w ∈ v_X12_text, w ∈ lw_tbl := tb_mk (List.mem_of_getElem? (i := 1764) rfl) (mem_r [1392, 1719, 1720, 114, 1394, 1765, 1767, 61, 1404, 1557, 1559, 37] (by decide +kernel)) (tb_app tb_X12 (tb_app tb_X12_isWeek (tb_app tb_X12_readText_v1 (tb_app tb_X12_told_v5 (tb_app tb_X12_told_v6 (tb_app tb_X12_told_v2 tb_nil))))))
set_option maxRecDepth 20000 in
theorem tb_X12_fault : ∀ w ∈ v_X12_fault, w ∈ lw_tbl := tb_mk (List.mem_of_getElem? (i := 1760) rfl) (mem_r [1392, 1409] (by decide +kernel)) (tb_app tb_X12 tb_nil)
set_option maxRecDepth 20000 in
theorem tb_X12_force : ∀ w ∈ v_X12_force, w ∈ lw_tbl := tb_mk (List.mem_of_getElem? (i := 1908) rfl) (mem_r [1392, 1394, 1554, 1555, 114] (by decide +kernel)) (tb_app tb_X12 (tb_app tb_X12_in tb_nil))
set_option maxRecDepth 20000 in
theorem tb_X12_holds : ∀ w ∈ v_X12_holds, w ∈ lw_tbl := tb_mk (List.mem_of_getElem? (i := 1912) rfl) (mem_r [1392, 1394, 1554, 1555, 114] (by decide +kernel)) (tb_app tb_X12 (tb_app tb_X12_in tb_nil))
set_option maxRecDepth 20000 in
theorem tb_X12_writ : ∀ w ∈ v_X12_writ, w ∈ lw_tbl := tb_mk (List.mem_of_getElem? (i := 1953) rfl) (mem_r [1392, 1639, 1641, 43, 114, 1557, 1559, 37] (by decide +kernel)) (tb_app tb_X12 (tb_app tb_X12_isField_v1 (tb_app tb_X12_told_v3 tb_nil)))
set_option maxRecDepth 20000 in
theorem tb_X12_avoid : ∀ w ∈ v_X12_avoid, w ∈ lw_tbl := tb_mk (List.mem_of_getElem? (i := 1957) rfl) (mem_r [1392, 1639, 1641, 43, 114, 1557, 1559, 37] (by decide +kernel)) (tb_app tb_X12 (tb_app tb_X12_isField_v1 (tb_app tb_X12_told_v3 tb_nil)))
set_option maxRecDepth 20000 in
theorem tb_X12_guard : ∀ w ∈ v_X12_guard, w ∈ lw_tbl := tb_mk (List.mem_of_getElem? (i := 1961) rfl) (mem_r [1392, 1719, 1720, 114, 1554, 1555, 1639, 1641, 43, 1557, 1559, 37] (by decide +kernel)) (tb_app tb_X12 (tb_app tb_X12_isWeek (tb_app tb_X12_in (tb_app tb_X12_isField_v1 (tb_app tb_X12_told_v3 (tb_app tb_X12_told_v2 tb_nil))))))
set_option maxRecDepth 20000 in
theorem tb_X12_take : ∀ w ∈ v_X12_take, w ∈ lw_tbl := tb_mk (List.mem_of_getElem? (i := 1965) rfl) (mem_r [1392, 1554, 1555, 114, 1583, 1585, 39, 1557, 1559, 37] (by decide +kernel)) (tb_app tb_X12 (tb_app tb_X12_in (tb_app tb_X12_isPerson_v1 (tb_app tb_X12_told_v3 (tb_app tb_X12_told_v2 tb_nil)))))
set_option maxRecDepth 20000 in
theorem tb_X12_deal : ∀ w ∈ v_X12_deal, w ∈ lw_tbl := tb_mk (List.mem_of_getElem? (i := 1969) rfl) (mem_r [1392, 1723, 1554, 1555, 114, 1583, 1585, 39, 1557, 1559, 37] (by decide +kernel)) (tb_app tb_X12 (tb_app tb_X12_in (tb_app tb_X12_isPerson_v1 (tb_app tb_X12_told_v3 (tb_app tb_X12_told_v2 tb_nil)))))
set_option maxRecDepth 20000 in
theorem tb_X12_brave : ∀ w ∈ v_X12_brave, w ∈ lw_tbl := tb_mk (List.mem_of_getElem? (i := 1981) rfl) (mem_r [1392, 1982, 1554, 1555, 114, 1394, 1557, 1559, 37] (by decide +kernel)) (tb_app tb_X12 (tb_app tb_X12_in (tb_app tb_X12_told_v4 (tb_app tb_X12_told_v2 tb_nil))))
set_option maxRecDepth 20000 in
theorem tb_X12_keeps : ∀ w ∈ v_X12_keeps, w ∈ lw_tbl := tb_mk (List.mem_of_getElem? (i := 1986) rfl) (mem_r [1392, 1583, 1585, 39, 114] (by decide +kernel)) (tb_app tb_X12 (tb_app tb_X12_isPerson_v1 tb_nil))
set_option maxRecDepth 20000 in
theorem tb_X12_broke : ∀ w ∈ v_X12_broke, w ∈ lw_tbl := tb_mk (List.mem_of_getElem? (i := 1990) rfl) (mem_r [1392, 1583, 1585, 39, 114] (by decide +kernel)) (tb_app tb_X12 (tb_app tb_X12_isPerson_v1 tb_nil))
set_option maxRecDepth 20000 in
theorem tb_X12_least : ∀ w ∈ v_X12_least, w ∈ lw_tbl := tb_mk (List.mem_of_getElem? (i := 1999) rfl) (mem_r [1392, 1394, 1620, 1622, 41, 114] (by decide +kernel)) (tb_app tb_X12 (tb_app tb_X12_isEstate_v1 tb_nil))
set_option maxRecDepth 20000 in
theorem tb_X12_offer : ∀ w ∈ v_X12_offer, w ∈ lw_tbl := tb_mk (List.mem_of_getElem? (i := 2008) rfl) (mem_r [1392, 2009, 1618, 1554, 1555, 114, 1394, 1557, 1559, 37] (by decide +kernel)) (tb_app tb_X12 (tb_app tb_X12_in (tb_app tb_X12_told_v4 (tb_app tb_X12_told_v2 tb_nil))))
set_option maxRecDepth 20000 in
theorem tb_X12_agree : ∀ w ∈ v_X12_agree, w ∈ lw_tbl := tb_mk (List.mem_of_getElem? (i := 2013) rfl) (mem_r [1392, 2014, 1723, 1554, 1555, 114, 1394] (by decide +kernel)) (tb_app tb_X12 (tb_app tb_X12_in tb_nil))
set_option maxRecDepth 20000 in
theorem tb_X12_wish : ∀ w ∈ v_X12_wish, w ∈ lw_tbl := tb_mk (List.mem_of_getElem? (i := 2018) rfl) (mem_r [1392, 1639, 1641, 43, 114, 1557, 1559, 37] (by decide +kernel)) (tb_app tb_X12 (tb_app tb_X12_isField_v1 (tb_app tb_X12_told_v3 tb_nil)))
set_option maxRecDepth 20000 in
theorem tb_X12_clear : ∀ w ∈ v_X12_clear, w ∈ lw_tbl := tb_mk (List.mem_of_getElem? (i := 2022) rfl) (mem_r [1392, 1433, 1435] (by decide +kernel)) (tb_app tb_X12 tb_nil)
set_option maxRecDepth 20000 in
theorem tb_X12_told_v7 : ∀ w ∈ v_X12_told_v7, w ∈ lw_tbl := tb_mk (List.mem_of_getElem? (i := 1560) rfl) (mem_r [1393] (by decide +kernel)) (tb_app tb_X12 tb_nil)
set_option maxRecDepth 20000 in
theorem tb_X12_crops : ∀ w ∈ v_X12_crops, w ∈ lw_tbl := tb_mk (List.mem_of_getElem? (i := 2026) rfl) (mem_r [1392, 1723, 1554, 1555, 114, 1435, 1436, 1437, 1557, 1559, 37] (by decide +kernel)) (tb_app tb_X12 (tb_app tb_X12_in (tb_app tb_X12_told_v7 (tb_app tb_X12_told_v2 tb_nil))))
set_option maxRecDepth 20000 in
theorem tb_X12_isSpan : ∀ w ∈ v_X12_isSpan, w ∈ lw_tbl := tb_mk (List.mem_of_getElem? (i := 2034) rfl) (mem_r [1917, 1554, 1555, 114, 1394] (by decide +kernel)) (tb_app tb_X12_in (tb_app tb_X12 tb_nil))
set_option maxRecDepth 20000 in
theorem tb_X12_choose : ∀ w ∈ v_X12_choose, w ∈ lw_tbl := tb_mk (List.mem_of_getElem? (i := 2030) rfl) (mem_r [1392, 2031, 2033, 95, 114, 1435] (by decide +kernel)) (tb_app tb_X12 (tb_app tb_X12_isSpan tb_nil))
set_option maxRecDepth 20000 in
theorem tb_X12_chosen : ∀ w ∈ v_X12_chosen, w ∈ lw_tbl := tb_mk (List.mem_of_getElem? (i := 2054) rfl) (mem_r [1392, 1439] (by decide +kernel)) (tb_app tb_X12 tb_nil)
set_option maxRecDepth 20000 in
theorem tb_X12_judge : ∀ w ∈ v_X12_judge, w ∈ lw_tbl := tb_mk (List.mem_of_getElem? (i := 2058) rfl) (mem_r [1392, 2031, 2033, 95, 114, 1435] (by decide +kernel)) (tb_app tb_X12 (tb_app tb_X12_isSpan tb_nil))
set_option maxRecDepth 20000 in
theorem tb_X12_keepPaper_v1 : ∀ w ∈ v_X12_keepPaper_v1, w ∈ lw_tbl := tb_mk (List.mem_of_getElem? (i := 2046) rfl) (mem_r [1390, 1396, 1394] (by decide +kernel)) (tb_app tb_X12 tb_nil)
set_option maxRecDepth 20000 in
theorem tb_X12_beside : ∀ w ∈ v_X12_beside, w ∈ lw_tbl := tb_mk (List.mem_of_getElem? (i := 2062) rfl) (mem_r [1392, 2031, 2033, 95, 114, 1394, 2043, 2045, 98, 1765, 1767, 61, 1404, 2063] (by decide +kernel)) (tb_app tb_X12 (tb_app tb_X12_isSpan (tb_app tb_X12_keepPaper_v1 (tb_app tb_X12_readText_v1 tb_nil))))
set_option maxRecDepth 20000 in
theorem tb_X12_addFields_v1 : ∀ w ∈ v_X12_addFields_v1, w ∈ lw_tbl := tb_mk (List.mem_of_getElem? (i := 2075) rfl) (mem_r [1442, 1443, 1394] (by decide +kernel)) (tb_app tb_X12 tb_nil)
set_option maxRecDepth 20000 in
theorem tb_X12_seal : ∀ w ∈ v_X12_seal, w ∈ lw_tbl := tb_mk (List.mem_of_getElem? (i := 2071) rfl) (mem_r [1392, 2072, 2074, 101, 114, 1394, 1442, 1443] (by decide +kernel)) (tb_app tb_X12 (tb_app tb_X12_addFields_v1 tb_nil))
set_option maxRecDepth 20000 in
theorem tb_X12_alter : ∀ w ∈ v_X12_alter, w ∈ lw_tbl := tb_mk (List.mem_of_getElem? (i := 2079) rfl) (mem_r [1392, 2080, 1554, 1555, 114, 1639, 1641, 43, 1557, 1559, 37] (by decide +kernel)) (tb_app tb_X12 (tb_app tb_X12_in (tb_app tb_X12_isField_v1 (tb_app tb_X12_told_v3 (tb_app tb_X12_told_v2 tb_nil)))))
set_option maxRecDepth 20000 in
theorem tb_X12_found : ∀ w ∈ v_X12_found, w ∈ lw_tbl := tb_mk (List.mem_of_getElem? (i := 2084) rfl) (mem_r [1392, 1394] (by decide +kernel)) (tb_app tb_X12 tb_nil)
set_option maxRecDepth 20000 in
theorem tb_X12_back : ∀ w ∈ v_X12_back, w ∈ lw_tbl := tb_mk (List.mem_of_getElem? (i := 1564) rfl) (mem_r [1392, 1554, 1555, 114, 1397, 1557, 1559, 37] (by decide +kernel)) (tb_app tb_X12 (tb_app tb_X12_in (tb_app tb_X12_told_v3 (tb_app tb_X12_told_v2 tb_nil))))
set_option maxRecDepth 20000 in
theorem tb_X12_count : ∀ w ∈ v_X12_count, w ∈ lw_tbl := tb_mk (List.mem_of_getElem? (i := 2088) rfl) (mem_r [1392, 1394, 1433, 1404] (by decide +kernel)) (tb_app tb_X12 tb_nil)
set_option maxRecDepth 20000 in
theorem tb_X12_status : ∀ w ∈ v_X12_status, w ∈ lw_tbl := tb_mk (List.mem_of_getElem? (i := 2092) rfl) (mem_r [1392, 1393] (by decide +kernel)) (tb_app tb_X12 tb_nil)
set_option maxRecDepth 20000 in
theorem tb_X12_findForce_v1 : ∀ w ∈ v_X12_findForce_v1, w ∈ lw_tbl := tb_mk (List.mem_of_getElem? (i := 1654) rfl) (mem_r [1394, 1422] (by decide +kernel)) (tb_app tb_X12 tb_nil)
set_option maxRecDepth 20000 in
theorem tb_X12_forceNow_v1 : ∀ w ∈ v_X12_forceNow_v1, w ∈ lw_tbl := tb_mk (List.mem_of_getElem? (i := 1650) rfl) (mem_r [1394, 1651, 1653, 46, 114] (by decide +kernel)) (tb_app tb_X12 (tb_app tb_X12_findForce_v1 tb_nil))
set_option maxRecDepth 20000 in
theorem tb_X12_bringCrops_v1 : ∀ w ∈ v_X12_bringCrops_v1, w ∈ lw_tbl := tb_mk (List.mem_of_getElem? (i := 1925) rfl) (mem_r [1394] (by decide +kernel)) (tb_app tb_X12 tb_nil)
set_option maxRecDepth 20000 in
theorem tb_X12_priceNow : ∀ w ∈ v_X12_priceNow, w ∈ lw_tbl := tb_mk (List.mem_of_getElem? (i := 1680) rfl) (mem_r [1398, 1394] (by decide +kernel)) (tb_app tb_X12 tb_nil)
set_option maxRecDepth 20000 in
theorem tb_X12_payRents_v1 : ∀ w ∈ v_X12_payRents_v1, w ∈ lw_tbl := tb_mk (List.mem_of_getElem? (i := 1929) rfl) (mem_r [1677, 1679, 51, 114, 1394] (by decide +kernel)) (tb_app tb_X12_priceNow (tb_app tb_X12 tb_nil))
set_option maxRecDepth 20000 in
theorem tb_X12_goWeek : ∀ w ∈ v_X12_goWeek, w ∈ lw_tbl := tb_mk (List.mem_of_getElem? (i := 1921) rfl) (mem_r [1647, 1649, 45, 114, 1922, 1924, 85, 1394, 1926, 1928, 86] (by decide +kernel)) (tb_app tb_X12_forceNow_v1 (tb_app tb_X12_bringCrops_v1 (tb_app tb_X12 (tb_app tb_X12_payRents_v1 tb_nil))))
set_option maxRecDepth 20000 in
theorem tb_X12_go : ∀ w ∈ v_X12_go, w ∈ lw_tbl := tb_mk (List.mem_of_getElem? (i := 1916) rfl) (mem_r [1392, 1917, 1554, 1555, 114, 1394, 1557, 1559, 37, 1918, 1920, 84] (by decide +kernel)) (tb_app tb_X12 (tb_app tb_X12_in (tb_app tb_X12_told_v4 (tb_app tb_X12_goWeek (tb_app tb_X12_told_v2 tb_nil)))))
set_option maxRecDepth 20000 in
theorem tb_X12_last : ∀ w ∈ v_X12_last, w ∈ lw_tbl := tb_mk (List.mem_of_getElem? (i := 1995) rfl) (mem_r [1392, 1723, 1554, 1555, 114, 1618, 1394] (by decide +kernel)) (tb_app tb_X12 (tb_app tb_X12_in tb_nil))
set_option maxRecDepth 20000 in
theorem tb_X12_image : ∀ w ∈ v_X12_image, w ∈ lw_tbl := tb_mk (List.mem_of_getElem? (i := 1553) rfl) (mem_r [1392, 1554, 1555, 114, 1390, 1397, 1557, 1559, 37, 1395, 1394] (by decide +kernel)) (tb_app tb_X12 (tb_app tb_X12_in (tb_app tb_X12_told_v1 (tb_app tb_X12_told_v2 tb_nil))))
