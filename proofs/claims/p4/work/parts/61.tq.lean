/-! words of the constructors, by their places in the tables -/

theorem tq_nil {big : List Cond} : ∀ w ∈ ([] : List Cond), w ∈ big := fun _ h => absurd h List.not_mem_nil
theorem tq_app {big a b : List Cond} (ha : ∀ w ∈ a, w ∈ big) (hb : ∀ w ∈ b, w ∈ big) : ∀ w ∈ a ++ b, w ∈ big := fun w h => (List.mem_append.mp h).elim (ha w) (hb w)
theorem tq_mk {big : List Cond} {c : Cond} {d r : List Cond} (hc : c ∈ big) (hd : ∀ w ∈ d, w ∈ big) (hr : ∀ w ∈ r, w ∈ big) : ∀ w ∈ c :: (d ++ r), w ∈ big := fun w h => by
  rcases List.mem_cons.mp h with e | h
  · subst e; exact hc
  · exact tq_app hd hr w h
theorem tq_X0 : ∀ w ∈ wsX00, w ∈ lw_tbl := mem_r [418, 420, 422, 424, 426, 428, 430, 432, 434, 436, 438, 440, 442, 444, 446, 448, 450] (by decide +kernel)
theorem tq_X1 : ∀ w ∈ wsX10, w ∈ lw_tbl := mem_r [234, 236, 238, 240, 242, 244, 246, 248, 250, 252, 254, 256, 258, 260, 262] (by decide +kernel)
theorem tq_X2 : ∀ w ∈ wsX20, w ∈ lw_tbl := mem_r [351, 353, 355, 357] (by decide +kernel)
theorem tq_X3 : ∀ w ∈ wsX30, w ∈ lw_tbl := mem_r [377, 379, 381, 383, 385, 387] (by decide +kernel)
theorem tq_X4 : ∀ w ∈ wsX40, w ∈ lw_tbl := mem_r [170, 172, 174, 176, 178, 180, 182, 184, 186, 188] (by decide +kernel)
theorem tq_X5 : ∀ w ∈ wsX50, w ∈ lw_tbl := mem_r [511, 513, 515, 517, 519, 521, 523, 525, 527, 529, 531, 533, 535, 537, 539, 541, 543] (by decide +kernel)
theorem tq_X6 : ∀ w ∈ wsX60, w ∈ lw_tbl := mem_r [825, 827] (by decide +kernel)
theorem tq_X7 : ∀ w ∈ wsX70, w ∈ lw_tbl := mem_r [331, 333] (by decide +kernel)
theorem tq_X8 : ∀ w ∈ wsX80, w ∈ lw_tbl := mem_r [467, 469, 471, 473] (by decide +kernel)
theorem tq_X9 : ∀ w ∈ wsX90, w ∈ lw_tbl := mem_r [1028, 1030, 1032, 1034, 1036, 1038, 1040, 1042, 1044, 1046] (by decide +kernel)
theorem tq_X10 : ∀ w ∈ wsX100, w ∈ lw_tbl := mem_r [292, 294, 296, 298, 300, 302, 304, 306, 308, 310, 312] (by decide +kernel)
theorem tq_X11 : ∀ w ∈ wsX110, w ∈ lw_tbl := mem_r [562, 564, 566, 568, 570, 572, 574, 576, 578, 580, 582, 584, 586, 588, 590, 592] (by decide +kernel)
theorem tq_X12 : ∀ w ∈ wsX120, w ∈ lw_tbl := mem_r [1444, 1446, 1448, 1450, 1452, 1454, 1456, 1458, 1460, 1462, 1464, 1466, 1468, 1470, 1472, 1474, 1476, 1478, 1480, 1482, 1484, 1486, 1488, 1490, 1492, 1494, 1496, 1498, 1500, 1502, 1504, 1506, 1508, 1510, 1512, 1514, 1516, 1518, 1520, 1522, 1524, 1526, 1528, 1530, 1532, 1534, 1536, 1538, 1540, 1542, 1544, 1546] (by decide +kernel)
set_option maxRecDepth 20000 in
theorem tq_X4_init : ∀ w ∈ v_X4_init, w ∈ lw_tbl := tq_mk (List.mem_of_getElem? (i := 142) rfl) (mem_r [143, 130, 131, 191, 147, 149, 152, 154, 156, 159, 162, 165, 168] (by decide +kernel)) (tq_app tq_X4 tq_nil)
set_option maxRecDepth 20000 in
theorem tq_X1_init : ∀ w ∈ v_X1_init, w ∈ lw_tbl := tq_mk (List.mem_of_getElem? (i := 196) rfl) (mem_r [197, 130, 131, 191, 201, 203, 206, 209, 212, 215, 217, 223, 226, 228, 231] (by decide +kernel)) (tq_app tq_X1 tq_nil)
set_option maxRecDepth 20000 in
theorem tq_X10_init : ∀ w ∈ v_X10_init, w ∈ lw_tbl := tq_mk (List.mem_of_getElem? (i := 269) rfl) (mem_r [270, 130, 131, 191, 274, 276, 278, 280, 282, 284, 289, 290, 291] (by decide +kernel)) (tq_app tq_X10 tq_nil)
set_option maxRecDepth 20000 in
theorem tq_J7_fill_400 : ∀ w ∈ v_J7_fill_400, w ∈ lw_tbl := tq_mk (List.mem_of_getElem? (i := 325) rfl) (mem_r [] (by decide +kernel)) tq_nil
set_option maxRecDepth 20000 in
theorem tq_X7_init : ∀ w ∈ v_X7_init, w ∈ lw_tbl := tq_mk (List.mem_of_getElem? (i := 319) rfl) (mem_r [320, 130, 131, 191, 326, 321, 328, 323, 324, 109] (by decide +kernel)) (tq_app tq_X7 (tq_app tq_J7_fill_400 tq_nil))
set_option maxRecDepth 20000 in
theorem tq_X2_init : ∀ w ∈ v_X2_init, w ∈ lw_tbl := tq_mk (List.mem_of_getElem? (i := 340) rfl) (mem_r [341, 130, 131, 342, 347, 191, 349, 350] (by decide +kernel)) (tq_app tq_X2 tq_nil)
set_option maxRecDepth 20000 in
theorem tq_X3_init : ∀ w ∈ v_X3_init, w ∈ lw_tbl := tq_mk (List.mem_of_getElem? (i := 364) rfl) (mem_r [365, 130, 131, 369, 191, 375, 376] (by decide +kernel)) (tq_app tq_X3 tq_nil)
set_option maxRecDepth 20000 in
theorem tq_J7_fill_40 : ∀ w ∈ v_J7_fill_40, w ∈ lw_tbl := tq_mk (List.mem_of_getElem? (i := 325) rfl) (mem_r [] (by decide +kernel)) tq_nil
set_option maxRecDepth 20000 in
theorem tq_X0_init_0 : ∀ w ∈ v_X0_init_0, w ∈ lw_tbl := tq_mk (List.mem_of_getElem? (i := 136) rfl) (mem_r [137, 130, 131, 138, 139, 105, 141, 391, 192, 193, 106, 195, 393, 265, 266, 107, 268, 395, 315, 316, 108, 317, 318, 397, 336, 337, 110, 339, 399, 360, 361, 111, 363, 401, 191, 406, 453, 416, 417, 405, 390, 324, 109] (by decide +kernel)) (tq_app tq_X4 (tq_app tq_X4_init (tq_app tq_X0 (tq_app tq_X1 (tq_app tq_X1_init (tq_app tq_X10 (tq_app tq_X10_init (tq_app tq_X7 (tq_app tq_X7_init (tq_app tq_X2 (tq_app tq_X2_init (tq_app tq_X3 (tq_app tq_X3_init (tq_app tq_J7_fill_40 tq_nil))))))))))))))
set_option maxRecDepth 20000 in
theorem tq_X0_init_1 : ∀ w ∈ v_X0_init_1, w ∈ lw_tbl := tq_mk (List.mem_of_getElem? (i := 136) rfl) (mem_r [137, 130, 131, 138, 139, 105, 141, 391, 192, 193, 106, 195, 393, 265, 266, 107, 268, 395, 315, 316, 108, 317, 318, 397, 336, 337, 110, 339, 399, 360, 361, 111, 363, 401, 191, 406, 453, 416, 417, 405, 390, 324, 109] (by decide +kernel)) (tq_app tq_X4 (tq_app tq_X4_init (tq_app tq_X0 (tq_app tq_X1 (tq_app tq_X1_init (tq_app tq_X10 (tq_app tq_X10_init (tq_app tq_X7 (tq_app tq_X7_init (tq_app tq_X2 (tq_app tq_X2_init (tq_app tq_X3 (tq_app tq_X3_init (tq_app tq_J7_fill_40 tq_nil))))))))))))))
set_option maxRecDepth 20000 in
theorem tq_X8_init : ∀ w ∈ v_X8_init, w ∈ lw_tbl := tq_mk (List.mem_of_getElem? (i := 458) rfl) (mem_r [459, 130, 131, 191, 463, 476, 465] (by decide +kernel)) (tq_app tq_X8 tq_nil)
set_option maxRecDepth 20000 in
theorem tq_X5_init : ∀ w ∈ v_X5_init, w ∈ lw_tbl := tq_mk (List.mem_of_getElem? (i := 481) rfl) (mem_r [482, 130, 131, 483, 191, 489, 491, 493, 495, 497, 501, 503, 506, 507, 508] (by decide +kernel)) (tq_app tq_X5 tq_nil)
set_option maxRecDepth 20000 in
theorem tq_X11_init : ∀ w ∈ v_X11_init, w ∈ lw_tbl := tq_mk (List.mem_of_getElem? (i := 128) rfl) (mem_r [129, 130, 131, 132, 133, 104, 134, 135, 546, 547, 548, 549, 454, 455, 112, 457, 552, 477, 478, 113, 480, 553, 191, 554, 556, 557, 559] (by decide +kernel)) (tq_app tq_X0 (tq_app tq_X0_init_0 (tq_app tq_X11 (tq_app tq_X0_init_1 (tq_app tq_X8 (tq_app tq_X8_init (tq_app tq_X5 (tq_app tq_X5_init tq_nil))))))))
set_option maxRecDepth 20000 in
theorem tq_X12_init : ∀ w ∈ v_X12_init, w ∈ lw_tbl := tq_mk (List.mem_of_getElem? (i := 1388) rfl) (mem_r [1389, 130, 131, 1390, 191, 1394, 1391, 1395, 1396, 1549, 1397, 476, 1401, 1402, 1403, 1409, 1412, 1414, 1415, 1417, 1418, 1421, 1422, 453, 1423, 1424, 1431, 1432, 1434, 1436, 1437] (by decide +kernel)) (tq_app tq_X12 tq_nil)
