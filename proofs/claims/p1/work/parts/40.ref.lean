theorem dX12_in_0 : decode cX12_in 0 = .ok (.lload_n 0, 1) := by decide +kernel
theorem dX12_in_1 : decode cX12_in 1 = .ok (.lload_n 2, 1) := by decide +kernel
theorem dX12_in_2 : decode cX12_in 2 = .ok (.lcmp, 1) := by decide +kernel
theorem dX12_in_3 : decode cX12_in 3 = .ok (.ifCond .lt 14, 3) := by decide +kernel
theorem dX12_in_6 : decode cX12_in 6 = .ok (.lload_n 0, 1) := by decide +kernel
theorem dX12_in_7 : decode cX12_in 7 = .ok (.lload 4, 2) := by decide +kernel
theorem dX12_in_9 : decode cX12_in 9 = .ok (.lcmp, 1) := by decide +kernel
theorem dX12_in_10 : decode cX12_in 10 = .ok (.ifCond .gt 7, 3) := by decide +kernel
theorem dX12_in_17 : decode cX12_in 17 = .ok (.iconst 0, 1) := by decide +kernel
theorem dX12_in_18 : decode cX12_in 18 = .ok (.ireturn, 1) := by decide +kernel
theorem dX12_in_13 : decode cX12_in 13 = .ok (.iconst 1, 1) := by decide +kernel
theorem dX12_in_14 : decode cX12_in 14 = .ok (.goto 4, 3) := by decide +kernel
theorem dX12_isWeek_0 : decode cX12_isWeek 0 = .ok (.iload_n 0, 1) := by decide +kernel
theorem dX12_isWeek_1 : decode cX12_isWeek 1 = .ok (.i2l, 1) := by decide +kernel
theorem dX12_isWeek_2 : decode cX12_isWeek 2 = .ok (.lconst 0, 1) := by decide +kernel
theorem dX12_isWeek_3 : decode cX12_isWeek 3 = .ok (.ldc2_w 88, 3) := by decide +kernel
theorem dX12_isWeek_6 : decode cX12_isWeek 6 = .ok (.invokestatic 90, 3) := by decide +kernel
theorem dX12_isWeek_9 : decode cX12_isWeek 9 = .ok (.ireturn, 1) := by decide +kernel
theorem dX12_isSpan_0 : decode cX12_isSpan 0 = .ok (.iload_n 1, 1) := by decide +kernel
theorem dX12_isSpan_1 : decode cX12_isSpan 1 = .ok (.i2l, 1) := by decide +kernel
theorem dX12_isSpan_2 : decode cX12_isSpan 2 = .ok (.lconst 1, 1) := by decide +kernel
theorem dX12_isSpan_3 : decode cX12_isSpan 3 = .ok (.ldc2_w 479, 3) := by decide +kernel
theorem dX12_isSpan_6 : decode cX12_isSpan 6 = .ok (.invokestatic 90, 3) := by decide +kernel
theorem dX12_isSpan_9 : decode cX12_isSpan 9 = .ok (.ifCond .eq 22, 3) := by decide +kernel
theorem dX12_isSpan_12 : decode cX12_isSpan 12 = .ok (.aload_n 0, 1) := by decide +kernel
theorem dX12_isSpan_13 : decode cX12_isSpan 13 = .ok (.getfield 8, 3) := by decide +kernel
theorem dX12_isSpan_16 : decode cX12_isSpan 16 = .ok (.bipush 8, 2) := by decide +kernel
theorem dX12_isSpan_18 : decode cX12_isSpan 18 = .ok (.iaload, 1) := by decide +kernel
theorem dX12_isSpan_19 : decode cX12_isSpan 19 = .ok (.iload_n 1, 1) := by decide +kernel
theorem dX12_isSpan_20 : decode cX12_isSpan 20 = .ok (.iadd, 1) := by decide +kernel
theorem dX12_isSpan_21 : decode cX12_isSpan 21 = .ok (.sipush 399, 3) := by decide +kernel
theorem dX12_isSpan_24 : decode cX12_isSpan 24 = .ok (.if_icmp .gt 7, 3) := by decide +kernel
theorem dX12_isSpan_27 : decode cX12_isSpan 27 = .ok (.iconst 1, 1) := by decide +kernel
theorem dX12_isSpan_28 : decode cX12_isSpan 28 = .ok (.goto 4, 3) := by decide +kernel
theorem dX12_isSpan_32 : decode cX12_isSpan 32 = .ok (.ireturn, 1) := by decide +kernel
theorem dX12_isSpan_31 : decode cX12_isSpan 31 = .ok (.iconst 0, 1) := by decide +kernel
theorem inX12_isSpan_12 : ∀ w ∈ wsX120, w ∈ wsX12_isSpan := fun _ h => List.mem_cons_of_mem _ (List.mem_append_right _ h)
set_option maxRecDepth 20000 in
theorem wdX12_isWeek_c88 : (Cond.constantLong RX12 88 (399) : Cond) ∈ wsX12_isWeek := by decide +kernel
set_option maxRecDepth 20000 in
theorem wdX12_isSpan_c479 : (Cond.constantLong RX12 479 (104) : Cond) ∈ wsX12_isSpan := by decide +kernel
set_option maxRecDepth 20000 in
theorem wdX12_isSpan_f8 : (Cond.fieldLink RX12 8 "NoRentModel" "row" "[I" : Cond) ∈ wsX12_isSpan := by decide +kernel
set_option maxRecDepth 20000 in
theorem ggX12_isWeek_X12_in : GoodIn wsX12_isWeek wsX12_in := goodIn_r _ [5] (by decide +kernel) (by decide +kernel)
set_option maxRecDepth 20000 in
theorem gX12_isWeek_X12_in : GoodIn wsX12_isWeek (va_wsS RX12 90 yX12_in wsX12_in) := goodIn_app (goodIn_of _ (by decide +kernel)) ggX12_isWeek_X12_in
set_option maxRecDepth 20000 in
theorem ggX12_isSpan_X12_in : GoodIn wsX12_isSpan wsX12_in := goodIn_r _ [6] (by decide +kernel) (by decide +kernel)
set_option maxRecDepth 20000 in
theorem gX12_isSpan_X12_in : GoodIn wsX12_isSpan (va_wsS RX12 90 yX12_in wsX12_in) := goodIn_app (goodIn_of _ (by decide +kernel)) ggX12_isSpan_X12_in
set_option maxHeartbeats 4000000 in
set_option maxRecDepth 100000 in
theorem c_X12_in (l : Launch) (G : va_G) (cI cJ cZ cD cR cT : ClassId) (v : Int64) (lo : Int64) (hi : Int64) (X : Int) (L : Int) (U : Int) (sz : Nat) (hX : v.toInt = X) (hL : lo.toInt = L) (hU : hi.toInt = U) : Met l yX12_in wsX12_in ({ frames := 1, cells := 0, slots := 0, locals := 40 }) (va_Pc [.long v, .long lo, .long hi] (PreW G (tys6 cI cJ cZ cD cR cT) [] sz)) (QW (RI (fun r => (r = 1 ∧ (L ≤ X ∧ X ≤ U)) ∨ (r = 0 ∧ (X < L ∨ U < X)))) G (va_A [] sz) (fun q g => [])) 0 0 (va_A [] sz) := by
  refine metW (cc := cX12_in) (maxL := 6) (ret := (some .boolean)) (by decide) rfl (Nat.le_of_ble_eq_true rfl) ?_
  intro p e s m below meth c A ls hx hb hr hml hown hts hlocks hin hKK hP hD hA hS hl
  have hK := hKK.1
  have hown : s.vm.findClass RX12 = some m.cls := hown
  have hl : lv_has ls 6 [(0, .long v), (2, .long lo), (4, .long hi)] := hl
  have hP : va_P G vwCl [] s.heap := hP
  have hD : va_D A [] := hD
  refine lv_lload_n hx hb dX12_in_0 rfl (lv_at hl 0 rfl) ?_
  refine lv_lload_n hx hb dX12_in_1 rfl (lv_at hl 1 rfl) ?_
  refine W.lcmp hx hb dX12_in_2 ?_
  rcases lcmp_cases (v) (lo) with ⟨h1, fh1⟩ | ⟨h1, fh1⟩ | ⟨h1, fh1⟩ <;> rw [h1]
  · have f2 : (lo.toInt : Int) < v.toInt := by have h1 := (rfl : Int64.toInt (v) = v.toInt); have h2 := (rfl : Int64.toInt (lo) = lo.toInt); omega
    refine lv_if_lt (tgt := 17) hx hb dX12_in_3 (by decide) (fun c => absurd c (by decide)) (fun _ => ?_)
    refine lv_lload_n hx hb dX12_in_6 rfl (lv_at hl 0 rfl) ?_
    refine lv_lload hx hb dX12_in_7 (lv_at hl 2 rfl) ?_
    refine W.lcmp hx hb dX12_in_9 ?_
    rcases lcmp_cases (v) (hi) with ⟨h3, fh3⟩ | ⟨h3, fh3⟩ | ⟨h3, fh3⟩ <;> rw [h3]
    · have f4 : (hi.toInt : Int) < v.toInt := by have h1 := (rfl : Int64.toInt (v) = v.toInt); have h2 := (rfl : Int64.toInt (hi) = hi.toInt); omega
      refine lv_if_gt (tgt := 17) hx hb dX12_in_10 (by decide) (fun _ => ?_) (fun c => absurd c (by decide))
      refine lv_iconst (v := 0) hx hb dX12_in_17 (by decide) ?_
      exact retZ hx hb hr hlocks (by decide) ⟨_, rfl, Or.inr (⟨rfl, by omega⟩)⟩ hP hD hS (fun _ => 0) (fun _ _ => 0) [] (by decide +kernel) rfl dX12_in_18
    · have f5 : (v.toInt : Int) = hi.toInt := by have h1 := (rfl : Int64.toInt (v) = v.toInt); have h2 := (rfl : Int64.toInt (hi) = hi.toInt); omega
      refine lv_if_gt (tgt := 17) hx hb dX12_in_10 (by decide) (fun c => absurd c (by decide)) (fun _ => ?_)
      refine lv_iconst (v := 1) hx hb dX12_in_13 (by decide) ?_
      refine lv_goto (tgt := 18) hx hb dX12_in_14 (by decide) ?_
      exact retZ hx hb hr hlocks (by decide) ⟨_, rfl, Or.inl ⟨rfl, by omega⟩⟩ hP hD hS (fun _ => 0) (fun _ _ => 0) [] (by decide +kernel) rfl dX12_in_18
    · have f6 : (v.toInt : Int) < hi.toInt := by have h1 := (rfl : Int64.toInt (v) = v.toInt); have h2 := (rfl : Int64.toInt (hi) = hi.toInt); omega
      refine lv_if_gt (tgt := 17) hx hb dX12_in_10 (by decide) (fun c => absurd c (by decide)) (fun _ => ?_)
      refine lv_iconst (v := 1) hx hb dX12_in_13 (by decide) ?_
      refine lv_goto (tgt := 18) hx hb dX12_in_14 (by decide) ?_
      exact retZ hx hb hr hlocks (by decide) ⟨_, rfl, Or.inl ⟨rfl, by omega⟩⟩ hP hD hS (fun _ => 0) (fun _ _ => 0) [] (by decide +kernel) rfl dX12_in_18
  · have f7 : (v.toInt : Int) = lo.toInt := by have h1 := (rfl : Int64.toInt (v) = v.toInt); have h2 := (rfl : Int64.toInt (lo) = lo.toInt); omega
    refine lv_if_lt (tgt := 17) hx hb dX12_in_3 (by decide) (fun c => absurd c (by decide)) (fun _ => ?_)
    refine lv_lload_n hx hb dX12_in_6 rfl (lv_at hl 0 rfl) ?_
    refine lv_lload hx hb dX12_in_7 (lv_at hl 2 rfl) ?_
    refine W.lcmp hx hb dX12_in_9 ?_
    rcases lcmp_cases (v) (hi) with ⟨h8, fh8⟩ | ⟨h8, fh8⟩ | ⟨h8, fh8⟩ <;> rw [h8]
    · have f9 : (hi.toInt : Int) < v.toInt := by have h1 := (rfl : Int64.toInt (v) = v.toInt); have h2 := (rfl : Int64.toInt (hi) = hi.toInt); omega
      refine lv_if_gt (tgt := 17) hx hb dX12_in_10 (by decide) (fun _ => ?_) (fun c => absurd c (by decide))
      refine lv_iconst (v := 0) hx hb dX12_in_17 (by decide) ?_
      exact retZ hx hb hr hlocks (by decide) ⟨_, rfl, Or.inr (⟨rfl, by omega⟩)⟩ hP hD hS (fun _ => 0) (fun _ _ => 0) [] (by decide +kernel) rfl dX12_in_18
    · have f10 : (v.toInt : Int) = hi.toInt := by have h1 := (rfl : Int64.toInt (v) = v.toInt); have h2 := (rfl : Int64.toInt (hi) = hi.toInt); omega
      refine lv_if_gt (tgt := 17) hx hb dX12_in_10 (by decide) (fun c => absurd c (by decide)) (fun _ => ?_)
      refine lv_iconst (v := 1) hx hb dX12_in_13 (by decide) ?_
      refine lv_goto (tgt := 18) hx hb dX12_in_14 (by decide) ?_
      exact retZ hx hb hr hlocks (by decide) ⟨_, rfl, Or.inl ⟨rfl, by omega⟩⟩ hP hD hS (fun _ => 0) (fun _ _ => 0) [] (by decide +kernel) rfl dX12_in_18
    · have f11 : (v.toInt : Int) < hi.toInt := by have h1 := (rfl : Int64.toInt (v) = v.toInt); have h2 := (rfl : Int64.toInt (hi) = hi.toInt); omega
      refine lv_if_gt (tgt := 17) hx hb dX12_in_10 (by decide) (fun c => absurd c (by decide)) (fun _ => ?_)
      refine lv_iconst (v := 1) hx hb dX12_in_13 (by decide) ?_
      refine lv_goto (tgt := 18) hx hb dX12_in_14 (by decide) ?_
      exact retZ hx hb hr hlocks (by decide) ⟨_, rfl, Or.inl ⟨rfl, by omega⟩⟩ hP hD hS (fun _ => 0) (fun _ _ => 0) [] (by decide +kernel) rfl dX12_in_18
  · have f12 : (v.toInt : Int) < lo.toInt := by have h1 := (rfl : Int64.toInt (v) = v.toInt); have h2 := (rfl : Int64.toInt (lo) = lo.toInt); omega
    refine lv_if_lt (tgt := 17) hx hb dX12_in_3 (by decide) (fun _ => ?_) (fun c => absurd c (by decide))
    refine lv_iconst (v := 0) hx hb dX12_in_17 (by decide) ?_
    exact retZ hx hb hr hlocks (by decide) ⟨_, rfl, Or.inr (⟨rfl, by omega⟩)⟩ hP hD hS (fun _ => 0) (fun _ _ => 0) [] (by decide +kernel) rfl dX12_in_18
set_option maxHeartbeats 4000000 in
set_option maxRecDepth 100000 in
theorem c_X12_isWeek (l : Launch) (G : va_G) (cI cJ cZ cD cR cT : ClassId) (x : Int32) (sz : Nat) : Met l yX12_isWeek wsX12_isWeek ({ frames := 2, cells := 0, slots := 0, locals := 65 }) (va_Pc [.int x] (PreW G (tys6 cI cJ cZ cD cR cT) [] sz)) (QW (RI (fun r => (r = 1 ∧ (0 ≤ x.toInt ∧ x.toInt ≤ 399)) ∨ (r = 0 ∧ (x.toInt < 0 ∨ 399 < x.toInt)))) G (va_A [] sz) (fun q g => [])) 0 0 (va_A [] sz) := by
  refine metW (cc := cX12_isWeek) (maxL := 1) (ret := (some .boolean)) (by decide) rfl (Nat.le_of_ble_eq_true rfl) ?_
  intro p e s m below meth c A ls hx hb hr hml hown hts hlocks hin hKK hP hD hA hS hl
  have hK := hKK.1
  have hown : s.vm.findClass RX12 = some m.cls := hown
  have hl : lv_has ls 1 [(0, .int x)] := hl
  have hP : va_P G vwCl [] s.heap := hP
  have hD : va_D A [] := hD
  refine lv_iload_n hx hb dX12_isWeek_0 rfl (lv_at hl 0 rfl) ?_
  refine lv_i2l hx hb dX12_isWeek_1 rfl ?_
  refine lv_lconst (v := 0) hx hb dX12_isWeek_2 (by decide) ?_
  refine lv_ldc2 (v := 399) hx hb hown (hts _ wdX12_isWeek_c88) dX12_isWeek_3 ?_
  refine goS (As := [.long (x).toInt64, .long 0, .long 399]) (rest := []) (wr := []) ⟨hx, hb, hml, hown, hts⟩ (c_X12_in l G cI cJ cZ cD cR cT (x).toInt64 0 399 x.toInt 0 399 _ (Int32.toInt_toInt64 x) (by decide) (by decide)) (va_cwS 3 hts gX12_isWeek_X12_in rfl rfl rfl (by decide +kernel) ⟨Nat.le_of_ble_eq_true rfl, Nat.le_of_ble_eq_true rfl⟩) hKK hP hD hS hA [] [] rfl rfl (by decide +kernel) (by decide +kernel) (by decide +kernel) rfl hl.1 rfl (lv_room (Nat.le_of_ble_eq_true rfl)) dX12_isWeek_6 ⟨Nat.le_of_ble_eq_true rfl, Nat.le_of_ble_eq_true rfl⟩ (fun v2 q1 gq1 H locs hv2 => appW (ws' := []) rfl (fun hP hD hS => ?_))
  obtain ⟨_, rfl, h4⟩ := hv2
  rcases h4 with ⟨rfl, h4⟩ | ⟨rfl, h4⟩
  · exact retZ hx hb hr hlocks (by decide) ⟨_, rfl, Or.inl ⟨rfl, by omega⟩⟩ hP hD hS (fun _ => 0) (fun _ _ => 0) [] (by decide +kernel) rfl dX12_isWeek_9
  · exact retZ hx hb hr hlocks (by decide) ⟨_, rfl, Or.inr (⟨rfl, by omega⟩)⟩ hP hD hS (fun _ => 0) (fun _ _ => 0) [] (by decide +kernel) rfl dX12_isWeek_9
set_option maxHeartbeats 4000000 in
set_option maxRecDepth 100000 in
theorem c_X12_isSpan (l : Launch) (G : va_G) (cI cJ cZ cD cR cT : ClassId) (h0 : Nat) (x : Int32) (h0_2 : Nat) (h0_3 : Nat) (h0_4 : Nat) (h0_5 : Nat) (h0_9 : Nat) (h0_10 : Nat) (h0_11 : Nat) (h0_20 : Nat) (h0_22 : Nat) (h0_23 : Nat) (h0_25 : Nat) (h0_26 : Nat) (h0_29 : Nat) (h0_30 : Nat) (h0_31 : Nat) (h0_32 : Nat) (h0_39 : Nat) (h0_40 : Nat) (h0_42 : Nat) (h0_44 : Nat) (h0_45 : Nat) (sz : Nat) : Met l yX12_isSpan wsX12_isSpan ({ frames := 2, cells := 0, slots := 0, locals := 65 }) (va_Pc [.ref h0, .int x] (PreW G (tys6 cI cJ cZ cD cR cT) [(h0, .inr (12, [.int 0, .int 0, .ref h0_2, .ref h0_3, .ref h0_4, .ref h0_5, .int 0, .int 0, .int 0, .ref h0_9, .ref h0_10, .ref h0_11, .int 0, .int 0, .int 0, .int 0, .long 0, .int (-1), .int 0, .int 0, .ref h0_20, .int 0, .ref h0_22, .ref h0_23, .int 0, .ref h0_25, .ref h0_26, .int 0, .int 0, .ref h0_29, .ref h0_30, .ref h0_31, .ref h0_32, .int 0, .long 0, .long 0, .long 0, .long 0, .int 0, .ref h0_39, .ref h0_40, .int 0, .ref h0_42, .int 0, .ref h0_44, .ref h0_45, .int 0, .int 0, .int 0, .int 0, .int 0, .int 0])), (h0_2, .inl (cI, 35942, .inl mrow)), (h0_3, .inl (cI, 71884, .inl (fun _ => 0))), (h0_4, .inl (cI, 35942, .inl (fun _ => 0))), (h0_5, .inl (cZ, 2, .inl (fun _ => 0))), (h0_9, .inl (cD, 100, .inr (.inr (.inr (.inl (fun _ => 0)))))), (h0_10, .inl (cZ, 100, .inl (fun _ => 0))), (h0_11, .inl (cI, 400, .inl (fun _ => 0))), (h0_20, .inl (cI, 96, .inl (fun _ => 0))), (h0_22, .inl (cI, 400, .inl (fun _ => 0))), (h0_23, .inl (cI, 400, .inl (fun _ => 0))), (h0_25, .inl (cI, 400, .inl (fun _ => 0))), (h0_26, .inl (cI, 400, .inl (fun _ => 0))), (h0_29, .inl (cZ, 20, .inl (fun _ => 0))), (h0_30, .inl (cZ, 240, .inl (fun _ => 0))), (h0_31, .inl (cJ, 16, .inr (.inl (fun _ => 0)))), (h0_32, .inl (cJ, 400, .inr (.inl (fun _ => 0)))), (h0_39, .inl (cZ, 40, .inl (fun _ => 0))), (h0_40, .inl (cI, 40, .inl (fun _ => 0))), (h0_42, .inl (cI, 6, .inl (fun _ => 0))), (h0_44, .inl (cI, 3, .inl (fun _ => 0))), (h0_45, .inl (cI, 3, .inl (fun _ => 0)))] sz)) (QW (RI (fun r => (r = 1 ∧ (1 ≤ x.toInt ∧ x.toInt ≤ 104)) ∨ (r = 0 ∧ (x.toInt < 1 ∨ 104 < x.toInt)))) G (va_A [(h0, .inr (12, [.int 0, .int 0, .ref h0_2, .ref h0_3, .ref h0_4, .ref h0_5, .int 0, .int 0, .int 0, .ref h0_9, .ref h0_10, .ref h0_11, .int 0, .int 0, .int 0, .int 0, .long 0, .int (-1), .int 0, .int 0, .ref h0_20, .int 0, .ref h0_22, .ref h0_23, .int 0, .ref h0_25, .ref h0_26, .int 0, .int 0, .ref h0_29, .ref h0_30, .ref h0_31, .ref h0_32, .int 0, .long 0, .long 0, .long 0, .long 0, .int 0, .ref h0_39, .ref h0_40, .int 0, .ref h0_42, .int 0, .ref h0_44, .ref h0_45, .int 0, .int 0, .int 0, .int 0, .int 0, .int 0])), (h0_2, .inl (cI, 35942, .inl mrow)), (h0_3, .inl (cI, 71884, .inl (fun _ => 0))), (h0_4, .inl (cI, 35942, .inl (fun _ => 0))), (h0_5, .inl (cZ, 2, .inl (fun _ => 0))), (h0_9, .inl (cD, 100, .inr (.inr (.inr (.inl (fun _ => 0)))))), (h0_10, .inl (cZ, 100, .inl (fun _ => 0))), (h0_11, .inl (cI, 400, .inl (fun _ => 0))), (h0_20, .inl (cI, 96, .inl (fun _ => 0))), (h0_22, .inl (cI, 400, .inl (fun _ => 0))), (h0_23, .inl (cI, 400, .inl (fun _ => 0))), (h0_25, .inl (cI, 400, .inl (fun _ => 0))), (h0_26, .inl (cI, 400, .inl (fun _ => 0))), (h0_29, .inl (cZ, 20, .inl (fun _ => 0))), (h0_30, .inl (cZ, 240, .inl (fun _ => 0))), (h0_31, .inl (cJ, 16, .inr (.inl (fun _ => 0)))), (h0_32, .inl (cJ, 400, .inr (.inl (fun _ => 0)))), (h0_39, .inl (cZ, 40, .inl (fun _ => 0))), (h0_40, .inl (cI, 40, .inl (fun _ => 0))), (h0_42, .inl (cI, 6, .inl (fun _ => 0))), (h0_44, .inl (cI, 3, .inl (fun _ => 0))), (h0_45, .inl (cI, 3, .inl (fun _ => 0)))] sz) (fun q g => [(h0, .inr (12, [.int 0, .int 0, .ref h0_2, .ref h0_3, .ref h0_4, .ref h0_5, .int 0, .int 0, .int 0, .ref h0_9, .ref h0_10, .ref h0_11, .int 0, .int 0, .int 0, .int 0, .long 0, .int (-1), .int 0, .int 0, .ref h0_20, .int 0, .ref h0_22, .ref h0_23, .int 0, .ref h0_25, .ref h0_26, .int 0, .int 0, .ref h0_29, .ref h0_30, .ref h0_31, .ref h0_32, .int 0, .long 0, .long 0, .long 0, .long 0, .int 0, .ref h0_39, .ref h0_40, .int 0, .ref h0_42, .int 0, .ref h0_44, .ref h0_45, .int 0, .int 0, .int 0, .int 0, .int 0, .int 0])), (h0_2, .inl (cI, 35942, .inl mrow)), (h0_3, .inl (cI, 71884, .inl (fun _ => 0))), (h0_4, .inl (cI, 35942, .inl (fun _ => 0))), (h0_5, .inl (cZ, 2, .inl (fun _ => 0))), (h0_9, .inl (cD, 100, .inr (.inr (.inr (.inl (fun _ => 0)))))), (h0_10, .inl (cZ, 100, .inl (fun _ => 0))), (h0_11, .inl (cI, 400, .inl (fun _ => 0))), (h0_20, .inl (cI, 96, .inl (fun _ => 0))), (h0_22, .inl (cI, 400, .inl (fun _ => 0))), (h0_23, .inl (cI, 400, .inl (fun _ => 0))), (h0_25, .inl (cI, 400, .inl (fun _ => 0))), (h0_26, .inl (cI, 400, .inl (fun _ => 0))), (h0_29, .inl (cZ, 20, .inl (fun _ => 0))), (h0_30, .inl (cZ, 240, .inl (fun _ => 0))), (h0_31, .inl (cJ, 16, .inr (.inl (fun _ => 0)))), (h0_32, .inl (cJ, 400, .inr (.inl (fun _ => 0)))), (h0_39, .inl (cZ, 40, .inl (fun _ => 0))), (h0_40, .inl (cI, 40, .inl (fun _ => 0))), (h0_42, .inl (cI, 6, .inl (fun _ => 0))), (h0_44, .inl (cI, 3, .inl (fun _ => 0))), (h0_45, .inl (cI, 3, .inl (fun _ => 0)))])) 0 0 (va_A [(h0, .inr (12, [.int 0, .int 0, .ref h0_2, .ref h0_3, .ref h0_4, .ref h0_5, .int 0, .int 0, .int 0, .ref h0_9, .ref h0_10, .ref h0_11, .int 0, .int 0, .int 0, .int 0, .long 0, .int (-1), .int 0, .int 0, .ref h0_20, .int 0, .ref h0_22, .ref h0_23, .int 0, .ref h0_25, .ref h0_26, .int 0, .int 0, .ref h0_29, .ref h0_30, .ref h0_31, .ref h0_32, .int 0, .long 0, .long 0, .long 0, .long 0, .int 0, .ref h0_39, .ref h0_40, .int 0, .ref h0_42, .int 0, .ref h0_44, .ref h0_45, .int 0, .int 0, .int 0, .int 0, .int 0, .int 0])), (h0_2, .inl (cI, 35942, .inl mrow)), (h0_3, .inl (cI, 71884, .inl (fun _ => 0))), (h0_4, .inl (cI, 35942, .inl (fun _ => 0))), (h0_5, .inl (cZ, 2, .inl (fun _ => 0))), (h0_9, .inl (cD, 100, .inr (.inr (.inr (.inl (fun _ => 0)))))), (h0_10, .inl (cZ, 100, .inl (fun _ => 0))), (h0_11, .inl (cI, 400, .inl (fun _ => 0))), (h0_20, .inl (cI, 96, .inl (fun _ => 0))), (h0_22, .inl (cI, 400, .inl (fun _ => 0))), (h0_23, .inl (cI, 400, .inl (fun _ => 0))), (h0_25, .inl (cI, 400, .inl (fun _ => 0))), (h0_26, .inl (cI, 400, .inl (fun _ => 0))), (h0_29, .inl (cZ, 20, .inl (fun _ => 0))), (h0_30, .inl (cZ, 240, .inl (fun _ => 0))), (h0_31, .inl (cJ, 16, .inr (.inl (fun _ => 0)))), (h0_32, .inl (cJ, 400, .inr (.inl (fun _ => 0)))), (h0_39, .inl (cZ, 40, .inl (fun _ => 0))), (h0_40, .inl (cI, 40, .inl (fun _ => 0))), (h0_42, .inl (cI, 6, .inl (fun _ => 0))), (h0_44, .inl (cI, 3, .inl (fun _ => 0))), (h0_45, .inl (cI, 3, .inl (fun _ => 0)))] sz) := by
  refine metW (cc := cX12_isSpan) (maxL := 2) (ret := (some .boolean)) (by decide) rfl (Nat.le_of_ble_eq_true rfl) ?_
  intro p e s m below meth c A ls hx hb hr hml hown hts hlocks hin hKK hP hD hA hS hl
  have hK := hKK.1
  have hown : s.vm.findClass RX12 = some m.cls := hown
  have hl : lv_has ls 2 [(0, .ref h0), (1, .int x)] := hl
  have hP : va_P G vwCl [(h0, .inr (12, [.int 0, .int 0, .ref h0_2, .ref h0_3, .ref h0_4, .ref h0_5, .int 0, .int 0, .int 0, .ref h0_9, .ref h0_10, .ref h0_11, .int 0, .int 0, .int 0, .int 0, .long 0, .int (-1), .int 0, .int 0, .ref h0_20, .int 0, .ref h0_22, .ref h0_23, .int 0, .ref h0_25, .ref h0_26, .int 0, .int 0, .ref h0_29, .ref h0_30, .ref h0_31, .ref h0_32, .int 0, .long 0, .long 0, .long 0, .long 0, .int 0, .ref h0_39, .ref h0_40, .int 0, .ref h0_42, .int 0, .ref h0_44, .ref h0_45, .int 0, .int 0, .int 0, .int 0, .int 0, .int 0])), (h0_2, .inl (cI, 35942, .inl mrow)), (h0_3, .inl (cI, 71884, .inl (fun _ => 0))), (h0_4, .inl (cI, 35942, .inl (fun _ => 0))), (h0_5, .inl (cZ, 2, .inl (fun _ => 0))), (h0_9, .inl (cD, 100, .inr (.inr (.inr (.inl (fun _ => 0)))))), (h0_10, .inl (cZ, 100, .inl (fun _ => 0))), (h0_11, .inl (cI, 400, .inl (fun _ => 0))), (h0_20, .inl (cI, 96, .inl (fun _ => 0))), (h0_22, .inl (cI, 400, .inl (fun _ => 0))), (h0_23, .inl (cI, 400, .inl (fun _ => 0))), (h0_25, .inl (cI, 400, .inl (fun _ => 0))), (h0_26, .inl (cI, 400, .inl (fun _ => 0))), (h0_29, .inl (cZ, 20, .inl (fun _ => 0))), (h0_30, .inl (cZ, 240, .inl (fun _ => 0))), (h0_31, .inl (cJ, 16, .inr (.inl (fun _ => 0)))), (h0_32, .inl (cJ, 400, .inr (.inl (fun _ => 0)))), (h0_39, .inl (cZ, 40, .inl (fun _ => 0))), (h0_40, .inl (cI, 40, .inl (fun _ => 0))), (h0_42, .inl (cI, 6, .inl (fun _ => 0))), (h0_44, .inl (cI, 3, .inl (fun _ => 0))), (h0_45, .inl (cI, 3, .inl (fun _ => 0)))] s.heap := hP
  have hD : va_D A [(h0, .inr (12, [.int 0, .int 0, .ref h0_2, .ref h0_3, .ref h0_4, .ref h0_5, .int 0, .int 0, .int 0, .ref h0_9, .ref h0_10, .ref h0_11, .int 0, .int 0, .int 0, .int 0, .long 0, .int (-1), .int 0, .int 0, .ref h0_20, .int 0, .ref h0_22, .ref h0_23, .int 0, .ref h0_25, .ref h0_26, .int 0, .int 0, .ref h0_29, .ref h0_30, .ref h0_31, .ref h0_32, .int 0, .long 0, .long 0, .long 0, .long 0, .int 0, .ref h0_39, .ref h0_40, .int 0, .ref h0_42, .int 0, .ref h0_44, .ref h0_45, .int 0, .int 0, .int 0, .int 0, .int 0, .int 0])), (h0_2, .inl (cI, 35942, .inl mrow)), (h0_3, .inl (cI, 71884, .inl (fun _ => 0))), (h0_4, .inl (cI, 35942, .inl (fun _ => 0))), (h0_5, .inl (cZ, 2, .inl (fun _ => 0))), (h0_9, .inl (cD, 100, .inr (.inr (.inr (.inl (fun _ => 0)))))), (h0_10, .inl (cZ, 100, .inl (fun _ => 0))), (h0_11, .inl (cI, 400, .inl (fun _ => 0))), (h0_20, .inl (cI, 96, .inl (fun _ => 0))), (h0_22, .inl (cI, 400, .inl (fun _ => 0))), (h0_23, .inl (cI, 400, .inl (fun _ => 0))), (h0_25, .inl (cI, 400, .inl (fun _ => 0))), (h0_26, .inl (cI, 400, .inl (fun _ => 0))), (h0_29, .inl (cZ, 20, .inl (fun _ => 0))), (h0_30, .inl (cZ, 240, .inl (fun _ => 0))), (h0_31, .inl (cJ, 16, .inr (.inl (fun _ => 0)))), (h0_32, .inl (cJ, 400, .inr (.inl (fun _ => 0)))), (h0_39, .inl (cZ, 40, .inl (fun _ => 0))), (h0_40, .inl (cI, 40, .inl (fun _ => 0))), (h0_42, .inl (cI, 6, .inl (fun _ => 0))), (h0_44, .inl (cI, 3, .inl (fun _ => 0))), (h0_45, .inl (cI, 3, .inl (fun _ => 0)))] := hD
  refine lv_iload_n hx hb dX12_isSpan_0 rfl (lv_at hl 1 rfl) ?_
  refine lv_i2l hx hb dX12_isSpan_1 rfl ?_
  refine lv_lconst (v := 1) hx hb dX12_isSpan_2 (by decide) ?_
  refine lv_ldc2 (v := 104) hx hb hown (hts _ wdX12_isSpan_c479) dX12_isSpan_3 ?_
  refine goS (As := [.long (x).toInt64, .long 1, .long 104]) (rest := []) (wr := [(h0, .inr (12, [.int 0, .int 0, .ref h0_2, .ref h0_3, .ref h0_4, .ref h0_5, .int 0, .int 0, .int 0, .ref h0_9, .ref h0_10, .ref h0_11, .int 0, .int 0, .int 0, .int 0, .long 0, .int (-1), .int 0, .int 0, .ref h0_20, .int 0, .ref h0_22, .ref h0_23, .int 0, .ref h0_25, .ref h0_26, .int 0, .int 0, .ref h0_29, .ref h0_30, .ref h0_31, .ref h0_32, .int 0, .long 0, .long 0, .long 0, .long 0, .int 0, .ref h0_39, .ref h0_40, .int 0, .ref h0_42, .int 0, .ref h0_44, .ref h0_45, .int 0, .int 0, .int 0, .int 0, .int 0, .int 0])), (h0_2, .inl (cI, 35942, .inl mrow)), (h0_3, .inl (cI, 71884, .inl (fun _ => 0))), (h0_4, .inl (cI, 35942, .inl (fun _ => 0))), (h0_5, .inl (cZ, 2, .inl (fun _ => 0))), (h0_9, .inl (cD, 100, .inr (.inr (.inr (.inl (fun _ => 0)))))), (h0_10, .inl (cZ, 100, .inl (fun _ => 0))), (h0_11, .inl (cI, 400, .inl (fun _ => 0))), (h0_20, .inl (cI, 96, .inl (fun _ => 0))), (h0_22, .inl (cI, 400, .inl (fun _ => 0))), (h0_23, .inl (cI, 400, .inl (fun _ => 0))), (h0_25, .inl (cI, 400, .inl (fun _ => 0))), (h0_26, .inl (cI, 400, .inl (fun _ => 0))), (h0_29, .inl (cZ, 20, .inl (fun _ => 0))), (h0_30, .inl (cZ, 240, .inl (fun _ => 0))), (h0_31, .inl (cJ, 16, .inr (.inl (fun _ => 0)))), (h0_32, .inl (cJ, 400, .inr (.inl (fun _ => 0)))), (h0_39, .inl (cZ, 40, .inl (fun _ => 0))), (h0_40, .inl (cI, 40, .inl (fun _ => 0))), (h0_42, .inl (cI, 6, .inl (fun _ => 0))), (h0_44, .inl (cI, 3, .inl (fun _ => 0))), (h0_45, .inl (cI, 3, .inl (fun _ => 0)))]) ⟨hx, hb, hml, hown, hts⟩ (c_X12_in l G cI cJ cZ cD cR cT (x).toInt64 1 104 x.toInt 1 104 _ (Int32.toInt_toInt64 x) (by decide) (by decide)) (va_cwS 3 hts gX12_isSpan_X12_in rfl rfl rfl (by decide +kernel) ⟨Nat.le_of_ble_eq_true rfl, Nat.le_of_ble_eq_true rfl⟩) hKK hP hD hS hA [] [0, 1, 2, 3, 4, 5, 6, 7, 8, 9, 10, 11, 12, 13, 14, 15, 16, 17, 18, 19, 20, 21] rfl rfl (by decide +kernel) (by decide +kernel) (by decide +kernel) rfl hl.1 rfl (lv_room (Nat.le_of_ble_eq_true rfl)) dX12_isSpan_6 ⟨Nat.le_of_ble_eq_true rfl, Nat.le_of_ble_eq_true rfl⟩ (fun v2 q1 gq1 H locs hv2 => appW (ws' := [(h0, .inr (12, [.int 0, .int 0, .ref h0_2, .ref h0_3, .ref h0_4, .ref h0_5, .int 0, .int 0, .int 0, .ref h0_9, .ref h0_10, .ref h0_11, .int 0, .int 0, .int 0, .int 0, .long 0, .int (-1), .int 0, .int 0, .ref h0_20, .int 0, .ref h0_22, .ref h0_23, .int 0, .ref h0_25, .ref h0_26, .int 0, .int 0, .ref h0_29, .ref h0_30, .ref h0_31, .ref h0_32, .int 0, .long 0, .long 0, .long 0, .long 0, .int 0, .ref h0_39, .ref h0_40, .int 0, .ref h0_42, .int 0, .ref h0_44, .ref h0_45, .int 0, .int 0, .int 0, .int 0, .int 0, .int 0])), (h0_2, .inl (cI, 35942, .inl mrow)), (h0_3, .inl (cI, 71884, .inl (fun _ => 0))), (h0_4, .inl (cI, 35942, .inl (fun _ => 0))), (h0_5, .inl (cZ, 2, .inl (fun _ => 0))), (h0_9, .inl (cD, 100, .inr (.inr (.inr (.inl (fun _ => 0)))))), (h0_10, .inl (cZ, 100, .inl (fun _ => 0))), (h0_11, .inl (cI, 400, .inl (fun _ => 0))), (h0_20, .inl (cI, 96, .inl (fun _ => 0))), (h0_22, .inl (cI, 400, .inl (fun _ => 0))), (h0_23, .inl (cI, 400, .inl (fun _ => 0))), (h0_25, .inl (cI, 400, .inl (fun _ => 0))), (h0_26, .inl (cI, 400, .inl (fun _ => 0))), (h0_29, .inl (cZ, 20, .inl (fun _ => 0))), (h0_30, .inl (cZ, 240, .inl (fun _ => 0))), (h0_31, .inl (cJ, 16, .inr (.inl (fun _ => 0)))), (h0_32, .inl (cJ, 400, .inr (.inl (fun _ => 0)))), (h0_39, .inl (cZ, 40, .inl (fun _ => 0))), (h0_40, .inl (cI, 40, .inl (fun _ => 0))), (h0_42, .inl (cI, 6, .inl (fun _ => 0))), (h0_44, .inl (cI, 3, .inl (fun _ => 0))), (h0_45, .inl (cI, 3, .inl (fun _ => 0)))]) rfl (fun hP hD hS => ?_))
  obtain ⟨_, rfl, h4⟩ := hv2
  rcases h4 with ⟨rfl, h4⟩ | ⟨rfl, h4⟩
  · refine lv_if_eq (tgt := 31) hx hb dX12_isSpan_9 (by decide) (fun c => absurd c (by decide)) (fun _ => ?_)
    refine lv_aload_n hx hb dX12_isSpan_12 rfl (lv_at hl 0 rfl) ?_
    refine va_get (D := G) (ci := 12) (v := .ref h0_2) (C := RX12) (T := TX12) (N := 52) hx hb hts inX12_isSpan_12 hown hK hP 0 rfl rfl 2 (by decide) (hts _ wdX12_isSpan_f8) (fun _ h9 => h9) rfl dX12_isSpan_13 ?_
    refine lv_bipush (v := 8) hx hb dX12_isSpan_16 (by decide) ?_
    refine va_iald hx hb hK hP 1 0 rfl rfl (vp_in_iff.mpr (by decide)) dX12_isSpan_18 ?_
    refine lv_topi (fun x5 ex5 => ?_)
    obtain rfl : 0 = x5 := (ex5.trans (by first | rfl | decide | (simp [upd, mrow]; done))).symm
    refine lv_iload_n hx hb dX12_isSpan_19 rfl (lv_at hl 1 rfl) ?_
    refine lv_iadd hx hb dX12_isSpan_20 ?_
    refine lv_topi (fun x6 ex6 => ?_)
    obtain rfl : x = x6 := (ex6.trans (by simp)).symm
    refine lv_sipush (v := 399) hx hb dX12_isSpan_21 (by decide) ?_
    refine lv_icmp_gt (tgt := 31) hx hb dX12_isSpan_24 (by decide) (fun c7 => ?_) (fun c7 => ?_)
    · have f8 : (399 : Int) < x.toInt := Int32.lt_iff_toInt_lt.mp c7
      exfalso; omega
    · have f9 : ¬ ((399 : Int) < x.toInt) := fun h => c7 (Int32.lt_iff_toInt_lt.mpr h)
      refine lv_iconst (v := 1) hx hb dX12_isSpan_27 (by decide) ?_
      refine lv_goto (tgt := 32) hx hb dX12_isSpan_28 (by decide) ?_
      exact retZ hx hb hr hlocks (by decide) ⟨_, rfl, Or.inl ⟨rfl, by omega⟩⟩ hP hD hS (fun _ => 0) (fun _ _ => 0) [0, 1, 2, 3, 4, 5, 6, 7, 8, 9, 10, 11, 12, 13, 14, 15, 16, 17, 18, 19, 20, 21] (by decide +kernel) rfl dX12_isSpan_32
  · refine lv_if_eq (tgt := 31) hx hb dX12_isSpan_9 (by decide) (fun _ => ?_) (fun c => absurd c (by decide))
    refine lv_iconst (v := 0) hx hb dX12_isSpan_31 (by decide) ?_
    exact retZ hx hb hr hlocks (by decide) ⟨_, rfl, Or.inr (⟨rfl, by omega⟩)⟩ hP hD hS (fun _ => 0) (fun _ _ => 0) [0, 1, 2, 3, 4, 5, 6, 7, 8, 9, 10, 11, 12, 13, 14, 15, 16, 17, 18, 19, 20, 21] (by decide +kernel) rfl dX12_isSpan_32
