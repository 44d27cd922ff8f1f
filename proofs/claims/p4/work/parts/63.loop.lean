/-! the law's loop -/
theorem dL_law_18 : decode cL_law 18 = .ok (.iload_n 3, 1) := by decide +kernel
theorem dL_law_19 : decode cL_law 19 = .ok (.aload_n 0, 1) := by decide +kernel
theorem dL_law_20 : decode cL_law 20 = .ok (.arraylength, 1) := by decide +kernel
theorem dL_law_21 : decode cL_law 21 = .ok (.bipush 6, 2) := by decide +kernel
theorem dL_law_23 : decode cL_law 23 = .ok (.isub, 1) := by decide +kernel
theorem dL_law_24 : decode cL_law 24 = .ok (.if_icmp .gt 1659, 3) := by decide +kernel
theorem dL_law_27 : decode cL_law 27 = .ok (.aload_n 0, 1) := by decide +kernel
theorem dL_law_28 : decode cL_law 28 = .ok (.iload_n 3, 1) := by decide +kernel
theorem dL_law_29 : decode cL_law 29 = .ok (.iaload, 1) := by decide +kernel
theorem dL_law_30 : decode cL_law 30 = .ok (.bipush 63, 2) := by decide +kernel
theorem dL_law_32 : decode cL_law 32 = .ok (.iand, 1) := by decide +kernel
theorem dL_law_33 : decode cL_law 33 = .ok (.tableswitch 1644 0 46 #[203, 246, 279, 312, 345, 368, 401, 454, 487, 520, 553, 566, 599, 632, 665, 728, 751, 774, 787, 830, 883, 906, 929, 972, 1015, 1038, 1081, 1104, 1137, 1190, 1233, 1266, 1299, 1332, 1355, 1368, 1401, 1424, 1447, 1480, 1503, 1516, 1549, 1562, 1585, 1608, 1631], 203) := by decide +kernel
theorem dL_law_1677 : decode cL_law 1677 = .ok (.iinc 3 6, 3) := by decide +kernel
theorem dL_law_1680 : decode cL_law 1680 = .ok (.goto (-1662), 3) := by decide +kernel
theorem dL_law_1683 : decode cL_law 1683 = .ok (.iconst 1, 1) := by decide +kernel
theorem dL_law_1684 : decode cL_law 1684 = .ok (.ireturn, 1) := by decide +kernel
set_option maxHeartbeats 4000000 in
set_option maxRecDepth 100000 in
/-- the end: true -/
theorem law_out (l : Launch) (G : va_G) (cI cJ cZ cD cR cT : ClassId) (σ : SE) (x k b Ls : Nat) (xs : Nat → Int32) (p : Program) (e : Env) (s : State) (m : MethodId) (below : List Frame) (meth : Method) (c : Code) (E : EV G cI cJ cZ cD cR cT (fun q => s.heap.size ≤ q) cL_law ret 4 RL p s m ([.ref b] : List Value).toArray meth c) (hSX : SX σ (fun q => s.heap.size ≤ q) s s.heap) (hCA : CA s) (hX : va_X b Ls xs s s.heap) (hbl : b < s.heap.size) (hLs : Ls ≤ 3072) (i : Int32) (kp : Nat → Nat) (L : List Nat) (f : Nat → va_E) (S : State) (ls : Array Slot) (H : Heap) (locs : List Loc) (hI : LWS G cI cJ cZ cD cR cT (fun q => s.heap.size ≤ q) kp L f x k s S H locs) (hl : lv_has ls 4 [(3, .int i), (2, .ref k), (1, .ref x), (0, .ref b)]) (cells slots : Nat) (hc : cells ≤ room_1.cells) (hs : slots ≤ room_1.slots) : W p l e room_1 S m ([.ref b] : List Value).toArray below meth c H locs cells slots (lw_Z below #[Value.ref b] s) (F0 m 1683 ls []) := by
  obtain ⟨hdr, hW, rx, rk, hT, hZ⟩ := hI
  have ES := ev_S E hdr
  obtain ⟨hx, hb, hr, hml, hown, hts, hlocks, -, -⟩ := id ES
  have hq := hs_S hdr
  refine lv_iconst (v := 1) hx hb dL_law_1683 (by decide) ?_
  refine va_forget (fun q h => by rw [hq]; exact hW.2.2.1.2.2 q h) ?_
  refine W.more (c2 := room_1.cells) (s2 := room_1.slots) hc hs ?_
  obtain ⟨dd, hd, rfl⟩ := hdr
  exact lw_ret hd hx hb hr hlocks dL_law_1684
set_option maxHeartbeats 4000000 in
set_option maxRecDepth 100000 in
/-- one turn: the switch -/
theorem law_turn (l : Launch) (G : va_G) (cI cJ cZ cD cR cT : ClassId) (σ : SE) (x k b Ls : Nat) (xs : Nat → Int32) (p : Program) (e : Env) (s : State) (m : MethodId) (below : List Frame) (meth : Method) (c : Code) (E : EV G cI cJ cZ cD cR cT (fun q => s.heap.size ≤ q) cL_law ret 4 RL p s m ([.ref b] : List Value).toArray meth c) (hSX : SX σ (fun q => s.heap.size ≤ q) s s.heap) (hCA : CA s) (hX : va_X b Ls xs s s.heap) (hbl : b < s.heap.size) (hLs : Ls ≤ 3072) (i : Int32) (hi : 0 ≤ i.toInt ∧ i.toInt + 6 ≤ (Ls : Int)) (kp : Nat → Nat) (L : List Nat) (f : Nat → va_E) (S : State) (ls : Array Slot) (H : Heap) (locs : List Loc) (hI : LWS G cI cJ cZ cD cR cT (fun q => s.heap.size ≤ q) kp L f x k s S H locs) (hl : lv_has ls 4 [(3, .int i), (2, .ref k), (1, .ref x), (0, .ref b)]) (cells slots : Nat) (hc : cells + 8 ≤ room_1.cells) (hs : slots + 2810 ≤ room_1.slots)
  (hend : ∀ (kp : Nat → Nat) (L : List Nat) (f : Nat → va_E) (S : State) (ls : Array Slot) (H : Heap) (locs : List Loc), LWS G cI cJ cZ cD cR cT (fun q => s.heap.size ≤ q) kp L f x k s S H locs → lv_has ls 4 [(3, .int i), (2, .ref k), (1, .ref x), (0, .ref b)] → W p l e room_1 S m ([.ref b] : List Value).toArray below meth c H locs (cells + 8) (slots + 2810) (lw_Z below #[Value.ref b] s) (F0 m 1677 ls [])) : W p l e room_1 S m ([.ref b] : List Value).toArray below meth c H locs cells slots (lw_Z below #[Value.ref b] s) (F0 m 27 ls []) := by
  have ES := ev_S E hI.1
  have hXS := xx_S hI.1 hX
  have hq := hs_S hI.1
  obtain ⟨hx, hb, -, hml, hown, hts, -, -, -⟩ := id ES
  have hbA : ¬ (fun q => s.heap.size ≤ q) b := Nat.not_le.mpr hbl
  have hi3 : 0 ≤ i.toInt ∧ i.toInt + 6 ≤ (Ls : Int) ∧ Ls ≤ 3072 := ⟨hi.1, hi.2, hLs⟩
  refine lv_aload_n hx hb dL_law_27 rfl (lv_at hl 3 rfl) ?_
  refine lv_iload_n hx hb dL_law_28 rfl (lv_at hl 0 rfl) ?_
  refine va_sld hx hb hXS (by rw [hq]; exact hbl) hbA hI.2.1.2.2.1 (vin ⟨by omega, by omega⟩) dL_law_29 ?_
  refine lv_bipush (v := 63) hx hb dL_law_30 (by decide) ?_
  refine lv_iand hx hb dL_law_32 ?_
  refine lv_topi (fun z ez => ?_)
  have fz : 0 ≤ z.toInt ∧ z.toInt < 64 := by
    obtain ⟨j, hj, ej⟩ := pk_andE (xs i.toNatClampNeg) (m := 63) 6 (by decide)
    rw [ez, ej, nI_toInt (by omega)]
    omega
  by_cases c0 : z = 0
  · refine lv_tableIn (tgt := 236) hx hb dL_law_33 (by rw [c0]; decide) (by rw [c0]; decide) (by rw [c0]; rfl) (by decide) ?_
    exact law_case_0 l G cI cJ cZ cD cR cT σ x k b Ls xs p e s m below meth c _ _ i E hSX hCA hX hbl hbA hi3 cells slots hc hs kp L f S ls H locs hI hl hend
  have n0 : ¬ z.toInt = 0 := fun h => c0 (Int32.toInt_inj.mp (h.trans (by decide)))
  by_cases c1 : z = 1
  · refine lv_tableIn (tgt := 279) hx hb dL_law_33 (by rw [c1]; decide) (by rw [c1]; decide) (by rw [c1]; rfl) (by decide) ?_
    exact law_case_1 l G cI cJ cZ cD cR cT σ x k b Ls xs p e s m below meth c _ _ i E hSX hCA hX hbl hbA hi3 cells slots hc hs kp L f S ls H locs hI hl hend
  have n1 : ¬ z.toInt = 1 := fun h => c1 (Int32.toInt_inj.mp (h.trans (by decide)))
  by_cases c2 : z = 2
  · refine lv_tableIn (tgt := 312) hx hb dL_law_33 (by rw [c2]; decide) (by rw [c2]; decide) (by rw [c2]; rfl) (by decide) ?_
    exact law_case_2 l G cI cJ cZ cD cR cT σ x k b Ls xs p e s m below meth c _ _ i E hSX hCA hX hbl hbA hi3 cells slots hc hs kp L f S ls H locs hI hl hend
  have n2 : ¬ z.toInt = 2 := fun h => c2 (Int32.toInt_inj.mp (h.trans (by decide)))
  by_cases c3 : z = 3
  · refine lv_tableIn (tgt := 345) hx hb dL_law_33 (by rw [c3]; decide) (by rw [c3]; decide) (by rw [c3]; rfl) (by decide) ?_
    exact law_case_3 l G cI cJ cZ cD cR cT σ x k b Ls xs p e s m below meth c _ _ i E hSX hCA hX hbl hbA hi3 cells slots hc hs kp L f S ls H locs hI hl hend
  have n3 : ¬ z.toInt = 3 := fun h => c3 (Int32.toInt_inj.mp (h.trans (by decide)))
  by_cases c4 : z = 4
  · refine lv_tableIn (tgt := 378) hx hb dL_law_33 (by rw [c4]; decide) (by rw [c4]; decide) (by rw [c4]; rfl) (by decide) ?_
    exact law_case_4 l G cI cJ cZ cD cR cT σ x k b Ls xs p e s m below meth c _ _ i E hSX hCA hX hbl hbA hi3 cells slots hc hs kp L f S ls H locs hI hl hend
  have n4 : ¬ z.toInt = 4 := fun h => c4 (Int32.toInt_inj.mp (h.trans (by decide)))
  by_cases c5 : z = 5
  · refine lv_tableIn (tgt := 401) hx hb dL_law_33 (by rw [c5]; decide) (by rw [c5]; decide) (by rw [c5]; rfl) (by decide) ?_
    exact law_case_5 l G cI cJ cZ cD cR cT σ x k b Ls xs p e s m below meth c _ _ i E hSX hCA hX hbl hbA hi3 cells slots hc hs kp L f S ls H locs hI hl hend
  have n5 : ¬ z.toInt = 5 := fun h => c5 (Int32.toInt_inj.mp (h.trans (by decide)))
  by_cases c6 : z = 6
  · refine lv_tableIn (tgt := 434) hx hb dL_law_33 (by rw [c6]; decide) (by rw [c6]; decide) (by rw [c6]; rfl) (by decide) ?_
    exact law_case_6 l G cI cJ cZ cD cR cT σ x k b Ls xs p e s m below meth c _ _ i E hSX hCA hX hbl hbA hi3 cells slots hc hs kp L f S ls H locs hI hl hend
  have n6 : ¬ z.toInt = 6 := fun h => c6 (Int32.toInt_inj.mp (h.trans (by decide)))
  by_cases c7 : z = 7
  · refine lv_tableIn (tgt := 487) hx hb dL_law_33 (by rw [c7]; decide) (by rw [c7]; decide) (by rw [c7]; rfl) (by decide) ?_
    exact law_case_7 l G cI cJ cZ cD cR cT σ x k b Ls xs p e s m below meth c _ _ i E hSX hCA hX hbl hbA hi3 cells slots hc hs kp L f S ls H locs hI hl hend
  have n7 : ¬ z.toInt = 7 := fun h => c7 (Int32.toInt_inj.mp (h.trans (by decide)))
  by_cases c8 : z = 8
  · refine lv_tableIn (tgt := 520) hx hb dL_law_33 (by rw [c8]; decide) (by rw [c8]; decide) (by rw [c8]; rfl) (by decide) ?_
    exact law_case_8 l G cI cJ cZ cD cR cT σ x k b Ls xs p e s m below meth c _ _ i E hSX hCA hX hbl hbA hi3 cells slots hc hs kp L f S ls H locs hI hl hend
  have n8 : ¬ z.toInt = 8 := fun h => c8 (Int32.toInt_inj.mp (h.trans (by decide)))
  by_cases c9 : z = 9
  · refine lv_tableIn (tgt := 553) hx hb dL_law_33 (by rw [c9]; decide) (by rw [c9]; decide) (by rw [c9]; rfl) (by decide) ?_
    exact law_case_9 l G cI cJ cZ cD cR cT σ x k b Ls xs p e s m below meth c _ _ i E hSX hCA hX hbl hbA hi3 cells slots hc hs kp L f S ls H locs hI hl hend
  have n9 : ¬ z.toInt = 9 := fun h => c9 (Int32.toInt_inj.mp (h.trans (by decide)))
  by_cases c10 : z = 10
  · refine lv_tableIn (tgt := 586) hx hb dL_law_33 (by rw [c10]; decide) (by rw [c10]; decide) (by rw [c10]; rfl) (by decide) ?_
    exact law_case_10 l G cI cJ cZ cD cR cT σ x k b Ls xs p e s m below meth c _ _ i E hSX hCA hX hbl hbA hi3 cells slots hc hs kp L f S ls H locs hI hl hend
  have n10 : ¬ z.toInt = 10 := fun h => c10 (Int32.toInt_inj.mp (h.trans (by decide)))
  by_cases c11 : z = 11
  · refine lv_tableIn (tgt := 599) hx hb dL_law_33 (by rw [c11]; decide) (by rw [c11]; decide) (by rw [c11]; rfl) (by decide) ?_
    exact law_case_11 l G cI cJ cZ cD cR cT σ x k b Ls xs p e s m below meth c _ _ i E hSX hCA hX hbl hbA hi3 cells slots hc hs kp L f S ls H locs hI hl hend
  have n11 : ¬ z.toInt = 11 := fun h => c11 (Int32.toInt_inj.mp (h.trans (by decide)))
  by_cases c12 : z = 12
  · refine lv_tableIn (tgt := 632) hx hb dL_law_33 (by rw [c12]; decide) (by rw [c12]; decide) (by rw [c12]; rfl) (by decide) ?_
    exact law_case_12 l G cI cJ cZ cD cR cT σ x k b Ls xs p e s m below meth c _ _ i E hSX hCA hX hbl hbA hi3 cells slots hc hs kp L f S ls H locs hI hl hend
  have n12 : ¬ z.toInt = 12 := fun h => c12 (Int32.toInt_inj.mp (h.trans (by decide)))
  by_cases c13 : z = 13
  · refine lv_tableIn (tgt := 665) hx hb dL_law_33 (by rw [c13]; decide) (by rw [c13]; decide) (by rw [c13]; rfl) (by decide) ?_
    exact law_case_13 l G cI cJ cZ cD cR cT σ x k b Ls xs p e s m below meth c _ _ i E hSX hCA hX hbl hbA hi3 cells slots hc hs kp L f S ls H locs hI hl hend
  have n13 : ¬ z.toInt = 13 := fun h => c13 (Int32.toInt_inj.mp (h.trans (by decide)))
  by_cases c14 : z = 14
  · refine lv_tableIn (tgt := 698) hx hb dL_law_33 (by rw [c14]; decide) (by rw [c14]; decide) (by rw [c14]; rfl) (by decide) ?_
    exact law_case_14 l G cI cJ cZ cD cR cT σ x k b Ls xs p e s m below meth c _ _ i E hSX hCA hX hbl hbA hi3 cells slots hc hs kp L f S ls H locs hI hl hend
  have n14 : ¬ z.toInt = 14 := fun h => c14 (Int32.toInt_inj.mp (h.trans (by decide)))
  by_cases c15 : z = 15
  · refine lv_tableIn (tgt := 761) hx hb dL_law_33 (by rw [c15]; decide) (by rw [c15]; decide) (by rw [c15]; rfl) (by decide) ?_
    exact law_case_15 l G cI cJ cZ cD cR cT σ x k b Ls xs p e s m below meth c _ _ i E hSX hCA hX hbl hbA hi3 cells slots hc hs kp L f S ls H locs hI hl hend
  have n15 : ¬ z.toInt = 15 := fun h => c15 (Int32.toInt_inj.mp (h.trans (by decide)))
  by_cases c16 : z = 16
  · refine lv_tableIn (tgt := 784) hx hb dL_law_33 (by rw [c16]; decide) (by rw [c16]; decide) (by rw [c16]; rfl) (by decide) ?_
    exact law_case_16 l G cI cJ cZ cD cR cT σ x k b Ls xs p e s m below meth c _ _ i E hSX hCA hX hbl hbA hi3 cells slots hc hs kp L f S ls H locs hI hl hend
  have n16 : ¬ z.toInt = 16 := fun h => c16 (Int32.toInt_inj.mp (h.trans (by decide)))
  by_cases c17 : z = 17
  · refine lv_tableIn (tgt := 807) hx hb dL_law_33 (by rw [c17]; decide) (by rw [c17]; decide) (by rw [c17]; rfl) (by decide) ?_
    exact law_case_17 l G cI cJ cZ cD cR cT σ x k b Ls xs p e s m below meth c _ _ i E hSX hCA hX hbl hbA hi3 cells slots hc hs kp L f S ls H locs hI hl hend
  have n17 : ¬ z.toInt = 17 := fun h => c17 (Int32.toInt_inj.mp (h.trans (by decide)))
  by_cases c18 : z = 18
  · refine lv_tableIn (tgt := 820) hx hb dL_law_33 (by rw [c18]; decide) (by rw [c18]; decide) (by rw [c18]; rfl) (by decide) ?_
    exact law_case_18 l G cI cJ cZ cD cR cT σ x k b Ls xs p e s m below meth c _ _ i E hSX hCA hX hbl hbA hi3 cells slots hc hs kp L f S ls H locs hI hl hend
  have n18 : ¬ z.toInt = 18 := fun h => c18 (Int32.toInt_inj.mp (h.trans (by decide)))
  by_cases c19 : z = 19
  · refine lv_tableIn (tgt := 863) hx hb dL_law_33 (by rw [c19]; decide) (by rw [c19]; decide) (by rw [c19]; rfl) (by decide) ?_
    exact law_case_19 l G cI cJ cZ cD cR cT σ x k b Ls xs p e s m below meth c _ _ i E hSX hCA hX hbl hbA hi3 cells slots hc hs kp L f S ls H locs hI hl hend
  have n19 : ¬ z.toInt = 19 := fun h => c19 (Int32.toInt_inj.mp (h.trans (by decide)))
  by_cases c20 : z = 20
  · refine lv_tableIn (tgt := 916) hx hb dL_law_33 (by rw [c20]; decide) (by rw [c20]; decide) (by rw [c20]; rfl) (by decide) ?_
    exact law_case_20 l G cI cJ cZ cD cR cT σ x k b Ls xs p e s m below meth c _ _ i E hSX hCA hX hbl hbA hi3 cells slots hc hs kp L f S ls H locs hI hl hend
  have n20 : ¬ z.toInt = 20 := fun h => c20 (Int32.toInt_inj.mp (h.trans (by decide)))
  by_cases c21 : z = 21
  · refine lv_tableIn (tgt := 939) hx hb dL_law_33 (by rw [c21]; decide) (by rw [c21]; decide) (by rw [c21]; rfl) (by decide) ?_
    exact law_case_21 l G cI cJ cZ cD cR cT σ x k b Ls xs p e s m below meth c _ _ i E hSX hCA hX hbl hbA hi3 cells slots hc hs kp L f S ls H locs hI hl hend
  have n21 : ¬ z.toInt = 21 := fun h => c21 (Int32.toInt_inj.mp (h.trans (by decide)))
  by_cases c22 : z = 22
  · refine lv_tableIn (tgt := 962) hx hb dL_law_33 (by rw [c22]; decide) (by rw [c22]; decide) (by rw [c22]; rfl) (by decide) ?_
    exact law_case_22 l G cI cJ cZ cD cR cT σ x k b Ls xs p e s m below meth c _ _ i E hSX hCA hX hbl hbA hi3 cells slots hc hs kp L f S ls H locs hI hl hend
  have n22 : ¬ z.toInt = 22 := fun h => c22 (Int32.toInt_inj.mp (h.trans (by decide)))
  by_cases c23 : z = 23
  · refine lv_tableIn (tgt := 1005) hx hb dL_law_33 (by rw [c23]; decide) (by rw [c23]; decide) (by rw [c23]; rfl) (by decide) ?_
    exact law_case_23 l G cI cJ cZ cD cR cT σ x k b Ls xs p e s m below meth c _ _ i E hSX hCA hX hbl hbA hi3 cells slots hc hs kp L f S ls H locs hI hl hend
  have n23 : ¬ z.toInt = 23 := fun h => c23 (Int32.toInt_inj.mp (h.trans (by decide)))
  by_cases c24 : z = 24
  · refine lv_tableIn (tgt := 1048) hx hb dL_law_33 (by rw [c24]; decide) (by rw [c24]; decide) (by rw [c24]; rfl) (by decide) ?_
    exact law_case_24 l G cI cJ cZ cD cR cT σ x k b Ls xs p e s m below meth c _ _ i E hSX hCA hX hbl hbA hi3 cells slots hc hs kp L f S ls H locs hI hl hend
  have n24 : ¬ z.toInt = 24 := fun h => c24 (Int32.toInt_inj.mp (h.trans (by decide)))
  by_cases c25 : z = 25
  · refine lv_tableIn (tgt := 1071) hx hb dL_law_33 (by rw [c25]; decide) (by rw [c25]; decide) (by rw [c25]; rfl) (by decide) ?_
    exact law_case_25 l G cI cJ cZ cD cR cT σ x k b Ls xs p e s m below meth c _ _ i E hSX hCA hX hbl hbA hi3 cells slots hc hs kp L f S ls H locs hI hl hend
  have n25 : ¬ z.toInt = 25 := fun h => c25 (Int32.toInt_inj.mp (h.trans (by decide)))
  by_cases c26 : z = 26
  · refine lv_tableIn (tgt := 1114) hx hb dL_law_33 (by rw [c26]; decide) (by rw [c26]; decide) (by rw [c26]; rfl) (by decide) ?_
    exact law_case_26 l G cI cJ cZ cD cR cT σ x k b Ls xs p e s m below meth c _ _ i E hSX hCA hX hbl hbA hi3 cells slots hc hs kp L f S ls H locs hI hl hend
  have n26 : ¬ z.toInt = 26 := fun h => c26 (Int32.toInt_inj.mp (h.trans (by decide)))
  by_cases c27 : z = 27
  · refine lv_tableIn (tgt := 1137) hx hb dL_law_33 (by rw [c27]; decide) (by rw [c27]; decide) (by rw [c27]; rfl) (by decide) ?_
    exact law_case_27 l G cI cJ cZ cD cR cT σ x k b Ls xs p e s m below meth c _ _ i E hSX hCA hX hbl hbA hi3 cells slots hc hs kp L f S ls H locs hI hl hend
  have n27 : ¬ z.toInt = 27 := fun h => c27 (Int32.toInt_inj.mp (h.trans (by decide)))
  by_cases c28 : z = 28
  · refine lv_tableIn (tgt := 1170) hx hb dL_law_33 (by rw [c28]; decide) (by rw [c28]; decide) (by rw [c28]; rfl) (by decide) ?_
    exact law_case_28 l G cI cJ cZ cD cR cT σ x k b Ls xs p e s m below meth c _ _ i E hSX hCA hX hbl hbA hi3 cells slots hc hs kp L f S ls H locs hI hl hend
  have n28 : ¬ z.toInt = 28 := fun h => c28 (Int32.toInt_inj.mp (h.trans (by decide)))
  by_cases c29 : z = 29
  · refine lv_tableIn (tgt := 1223) hx hb dL_law_33 (by rw [c29]; decide) (by rw [c29]; decide) (by rw [c29]; rfl) (by decide) ?_
    exact law_case_29 l G cI cJ cZ cD cR cT σ x k b Ls xs p e s m below meth c _ _ i E hSX hCA hX hbl hbA hi3 cells slots hc hs kp L f S ls H locs hI hl hend
  have n29 : ¬ z.toInt = 29 := fun h => c29 (Int32.toInt_inj.mp (h.trans (by decide)))
  by_cases c30 : z = 30
  · refine lv_tableIn (tgt := 1266) hx hb dL_law_33 (by rw [c30]; decide) (by rw [c30]; decide) (by rw [c30]; rfl) (by decide) ?_
    exact law_case_30 l G cI cJ cZ cD cR cT σ x k b Ls xs p e s m below meth c _ _ i E hSX hCA hX hbl hbA hi3 cells slots hc hs kp L f S ls H locs hI hl hend
  have n30 : ¬ z.toInt = 30 := fun h => c30 (Int32.toInt_inj.mp (h.trans (by decide)))
  by_cases c31 : z = 31
  · refine lv_tableIn (tgt := 1299) hx hb dL_law_33 (by rw [c31]; decide) (by rw [c31]; decide) (by rw [c31]; rfl) (by decide) ?_
    exact law_case_31 l G cI cJ cZ cD cR cT σ x k b Ls xs p e s m below meth c _ _ i E hSX hCA hX hbl hbA hi3 cells slots hc hs kp L f S ls H locs hI hl hend
  have n31 : ¬ z.toInt = 31 := fun h => c31 (Int32.toInt_inj.mp (h.trans (by decide)))
  by_cases c32 : z = 32
  · refine lv_tableIn (tgt := 1332) hx hb dL_law_33 (by rw [c32]; decide) (by rw [c32]; decide) (by rw [c32]; rfl) (by decide) ?_
    exact law_case_32 l G cI cJ cZ cD cR cT σ x k b Ls xs p e s m below meth c _ _ i E hSX hCA hX hbl hbA hi3 cells slots hc hs kp L f S ls H locs hI hl hend
  have n32 : ¬ z.toInt = 32 := fun h => c32 (Int32.toInt_inj.mp (h.trans (by decide)))
  by_cases c33 : z = 33
  · refine lv_tableIn (tgt := 1365) hx hb dL_law_33 (by rw [c33]; decide) (by rw [c33]; decide) (by rw [c33]; rfl) (by decide) ?_
    exact law_case_33 l G cI cJ cZ cD cR cT σ x k b Ls xs p e s m below meth c _ _ i E hSX hCA hX hbl hbA hi3 cells slots hc hs kp L f S ls H locs hI hl hend
  have n33 : ¬ z.toInt = 33 := fun h => c33 (Int32.toInt_inj.mp (h.trans (by decide)))
  by_cases c34 : z = 34
  · refine lv_tableIn (tgt := 1388) hx hb dL_law_33 (by rw [c34]; decide) (by rw [c34]; decide) (by rw [c34]; rfl) (by decide) ?_
    exact law_case_34 l G cI cJ cZ cD cR cT σ x k b Ls xs p e s m below meth c _ _ i E hSX hCA hX hbl hbA hi3 cells slots hc hs kp L f S ls H locs hI hl hend
  have n34 : ¬ z.toInt = 34 := fun h => c34 (Int32.toInt_inj.mp (h.trans (by decide)))
  by_cases c35 : z = 35
  · refine lv_tableIn (tgt := 1401) hx hb dL_law_33 (by rw [c35]; decide) (by rw [c35]; decide) (by rw [c35]; rfl) (by decide) ?_
    exact law_case_35 l G cI cJ cZ cD cR cT σ x k b Ls xs p e s m below meth c _ _ i E hSX hCA hX hbl hbA hi3 cells slots hc hs kp L f S ls H locs hI hl hend
  have n35 : ¬ z.toInt = 35 := fun h => c35 (Int32.toInt_inj.mp (h.trans (by decide)))
  by_cases c36 : z = 36
  · refine lv_tableIn (tgt := 1434) hx hb dL_law_33 (by rw [c36]; decide) (by rw [c36]; decide) (by rw [c36]; rfl) (by decide) ?_
    exact law_case_36 l G cI cJ cZ cD cR cT σ x k b Ls xs p e s m below meth c _ _ i E hSX hCA hX hbl hbA hi3 cells slots hc hs kp L f S ls H locs hI hl hend
  have n36 : ¬ z.toInt = 36 := fun h => c36 (Int32.toInt_inj.mp (h.trans (by decide)))
  by_cases c37 : z = 37
  · refine lv_tableIn (tgt := 1457) hx hb dL_law_33 (by rw [c37]; decide) (by rw [c37]; decide) (by rw [c37]; rfl) (by decide) ?_
    exact law_case_37 l G cI cJ cZ cD cR cT σ x k b Ls xs p e s m below meth c _ _ i E hSX hCA hX hbl hbA hi3 cells slots hc hs kp L f S ls H locs hI hl hend
  have n37 : ¬ z.toInt = 37 := fun h => c37 (Int32.toInt_inj.mp (h.trans (by decide)))
  by_cases c38 : z = 38
  · refine lv_tableIn (tgt := 1480) hx hb dL_law_33 (by rw [c38]; decide) (by rw [c38]; decide) (by rw [c38]; rfl) (by decide) ?_
    exact law_case_38 l G cI cJ cZ cD cR cT σ x k b Ls xs p e s m below meth c _ _ i E hSX hCA hX hbl hbA hi3 cells slots hc hs kp L f S ls H locs hI hl hend
  have n38 : ¬ z.toInt = 38 := fun h => c38 (Int32.toInt_inj.mp (h.trans (by decide)))
  by_cases c39 : z = 39
  · refine lv_tableIn (tgt := 1513) hx hb dL_law_33 (by rw [c39]; decide) (by rw [c39]; decide) (by rw [c39]; rfl) (by decide) ?_
    exact law_case_39 l G cI cJ cZ cD cR cT σ x k b Ls xs p e s m below meth c _ _ i E hSX hCA hX hbl hbA hi3 cells slots hc hs kp L f S ls H locs hI hl hend
  have n39 : ¬ z.toInt = 39 := fun h => c39 (Int32.toInt_inj.mp (h.trans (by decide)))
  by_cases c40 : z = 40
  · refine lv_tableIn (tgt := 1536) hx hb dL_law_33 (by rw [c40]; decide) (by rw [c40]; decide) (by rw [c40]; rfl) (by decide) ?_
    exact law_case_40 l G cI cJ cZ cD cR cT σ x k b Ls xs p e s m below meth c _ _ i E hSX hCA hX hbl hbA hi3 cells slots hc hs kp L f S ls H locs hI hl hend
  have n40 : ¬ z.toInt = 40 := fun h => c40 (Int32.toInt_inj.mp (h.trans (by decide)))
  by_cases c41 : z = 41
  · refine lv_tableIn (tgt := 1549) hx hb dL_law_33 (by rw [c41]; decide) (by rw [c41]; decide) (by rw [c41]; rfl) (by decide) ?_
    exact law_case_41 l G cI cJ cZ cD cR cT σ x k b Ls xs p e s m below meth c _ _ i E hSX hCA hX hbl hbA hi3 cells slots hc hs kp L f S ls H locs hI hl hend
  have n41 : ¬ z.toInt = 41 := fun h => c41 (Int32.toInt_inj.mp (h.trans (by decide)))
  by_cases c42 : z = 42
  · refine lv_tableIn (tgt := 1582) hx hb dL_law_33 (by rw [c42]; decide) (by rw [c42]; decide) (by rw [c42]; rfl) (by decide) ?_
    exact law_case_42 l G cI cJ cZ cD cR cT σ x k b Ls xs p e s m below meth c _ _ i E hSX hCA hX hbl hbA hi3 cells slots hc hs kp L f S ls H locs hI hl hend
  have n42 : ¬ z.toInt = 42 := fun h => c42 (Int32.toInt_inj.mp (h.trans (by decide)))
  by_cases c43 : z = 43
  · refine lv_tableIn (tgt := 1595) hx hb dL_law_33 (by rw [c43]; decide) (by rw [c43]; decide) (by rw [c43]; rfl) (by decide) ?_
    exact law_case_43 l G cI cJ cZ cD cR cT σ x k b Ls xs p e s m below meth c _ _ i E hSX hCA hX hbl hbA hi3 cells slots hc hs kp L f S ls H locs hI hl hend
  have n43 : ¬ z.toInt = 43 := fun h => c43 (Int32.toInt_inj.mp (h.trans (by decide)))
  by_cases c44 : z = 44
  · refine lv_tableIn (tgt := 1618) hx hb dL_law_33 (by rw [c44]; decide) (by rw [c44]; decide) (by rw [c44]; rfl) (by decide) ?_
    exact law_case_44 l G cI cJ cZ cD cR cT σ x k b Ls xs p e s m below meth c _ _ i E hSX hCA hX hbl hbA hi3 cells slots hc hs kp L f S ls H locs hI hl hend
  have n44 : ¬ z.toInt = 44 := fun h => c44 (Int32.toInt_inj.mp (h.trans (by decide)))
  by_cases c45 : z = 45
  · refine lv_tableIn (tgt := 1641) hx hb dL_law_33 (by rw [c45]; decide) (by rw [c45]; decide) (by rw [c45]; rfl) (by decide) ?_
    exact law_case_45 l G cI cJ cZ cD cR cT σ x k b Ls xs p e s m below meth c _ _ i E hSX hCA hX hbl hbA hi3 cells slots hc hs kp L f S ls H locs hI hl hend
  have n45 : ¬ z.toInt = 45 := fun h => c45 (Int32.toInt_inj.mp (h.trans (by decide)))
  by_cases c46 : z = 46
  · refine lv_tableIn (tgt := 1664) hx hb dL_law_33 (by rw [c46]; decide) (by rw [c46]; decide) (by rw [c46]; rfl) (by decide) ?_
    exact law_case_46 l G cI cJ cZ cD cR cT σ x k b Ls xs p e s m below meth c _ _ i E hSX hCA hX hbl hbA hi3 cells slots hc hs kp L f S ls H locs hI hl hend
  have n46 : ¬ z.toInt = 46 := fun h => c46 (Int32.toInt_inj.mp (h.trans (by decide)))
  refine lv_tableOut (tgt := 1677) hx hb dL_law_33 (Or.inr (by omega)) (by decide) ?_
  exact W.more (by omega) (by omega) (hend kp L f S ls H locs hI hl)
set_option maxHeartbeats 4000000 in
set_option maxRecDepth 100000 in
theorem law_loop (l : Launch) (G : va_G) (cI cJ cZ cD cR cT : ClassId) (σ : SE) (x k b Ls : Nat) (xs : Nat → Int32) (p : Program) (e : Env) (s : State) (m : MethodId) (below : List Frame) (meth : Method) (c : Code) (E : EV G cI cJ cZ cD cR cT (fun q => s.heap.size ≤ q) cL_law ret 4 RL p s m ([.ref b] : List Value).toArray meth c) (hSX : SX σ (fun q => s.heap.size ≤ q) s s.heap) (hCA : CA s) (hX : va_X b Ls xs s s.heap) (hbl : b < s.heap.size) (hLs : Ls ≤ 3072) : ∀ (n : Nat) (i : Int32) (cells slots : Nat) (kp : Nat → Nat) (L : List Nat) (f : Nat → va_E) (S : State) (ls : Array Slot) (H : Heap) (locs : List Loc), 0 ≤ i.toInt → i.toInt ≤ 3072 → 3072 - i.toInt ≤ 6 * (n : Int) → cells + 8 * n ≤ room_1.cells → slots + 2810 * n ≤ room_1.slots → LWS G cI cJ cZ cD cR cT (fun q => s.heap.size ≤ q) kp L f x k s S H locs → lv_has ls 4 [(3, .int i), (2, .ref k), (1, .ref x), (0, .ref b)] → W p l e room_1 S m ([.ref b] : List Value).toArray below meth c H locs cells slots (lw_Z below #[Value.ref b] s) (F0 m 18 ls []) := by
  have hbA : ¬ (fun q => s.heap.size ≤ q) b := Nat.not_le.mpr hbl
  have hN : (Int32.ofNat Ls).toInt = (Ls : Int) := by
    show (nI Ls).toInt = _
    exact nI_toInt (by omega)
  intro n
  induction n with
  | zero =>
    intro i cells slots kp L f S ls H locs h0 h1 hn hc hs hI hl
    have ES := ev_S E hI.1
    have hXS := xx_S hI.1 hX
    have hq := hs_S hI.1
    obtain ⟨hx, hb, -, hml, hown, hts, -, -, -⟩ := id ES
    refine lv_iload_n hx hb dL_law_18 rfl (lv_at hl 0 rfl) ?_
    refine lv_aload_n hx hb dL_law_19 rfl (lv_at hl 3 rfl) ?_
    refine va_slen hx hb hXS (by rw [hq]; exact hbl) hbA hI.2.1.2.2.1 dL_law_20 ?_
    refine lv_bipush (v := 6) hx hb dL_law_21 (by decide) ?_
    refine q_isub (Y := 6) hx hb dL_law_23 hN rfl (by omega) (fun y hy => ?_)
    refine q_icmp_gt (tgt := 1683) hx hb dL_law_24 (by decide) rfl rfl (fun c1 => ?_) (fun c1 => ?_)
    · exact law_out l G cI cJ cZ cD cR cT σ x k b Ls xs p e s m below meth c E hSX hCA hX hbl hLs i kp L f S ls H locs hI hl cells slots (by omega) (by omega)
    · exact absurd c1 (by omega)
  | succ n ih =>
    intro i cells slots kp L f S ls H locs h0 h1 hn hc hs hI hl
    have ES := ev_S E hI.1
    have hXS := xx_S hI.1 hX
    have hq := hs_S hI.1
    obtain ⟨hx, hb, -, hml, hown, hts, -, -, -⟩ := id ES
    refine lv_iload_n hx hb dL_law_18 rfl (lv_at hl 0 rfl) ?_
    refine lv_aload_n hx hb dL_law_19 rfl (lv_at hl 3 rfl) ?_
    refine va_slen hx hb hXS (by rw [hq]; exact hbl) hbA hI.2.1.2.2.1 dL_law_20 ?_
    refine lv_bipush (v := 6) hx hb dL_law_21 (by decide) ?_
    refine q_isub (Y := 6) hx hb dL_law_23 hN rfl (by omega) (fun y hy => ?_)
    refine q_icmp_gt (tgt := 1683) hx hb dL_law_24 (by decide) rfl rfl (fun c1 => ?_) (fun c1 => ?_)
    · exact law_out l G cI cJ cZ cD cR cT σ x k b Ls xs p e s m below meth c E hSX hCA hX hbl hLs i kp L f S ls H locs hI hl cells slots (by omega) (by omega)
    · refine law_turn l G cI cJ cZ cD cR cT σ x k b Ls xs p e s m below meth c E hSX hCA hX hbl hLs i ⟨h0, by omega⟩ kp L f S ls H locs hI hl cells slots (show cells + 8 ≤ room_1.cells by omega) (show slots + 2810 ≤ room_1.slots by omega) (fun kp L f S ls H locs hI hl => ?_)
      have ES := ev_S E hI.1
      obtain ⟨hx, hb, -, hml, hown, hts, -, -, -⟩ := id ES
      refine q_iinc hx hb dL_law_1677 hl (k := 0) rfl rfl rfl (by omega) (by decide) (fun j ls hj hl => ?_)
      refine lv_goto (tgt := 18) hx hb dL_law_1680 (by decide) ?_
      exact ih j (cells + 8) (slots + 2810) kp L f S ls H locs (by omega) (by omega) (by omega) (by omega) (by omega) hI (lv_sub hl [0, 1, 2, 3] rfl)
