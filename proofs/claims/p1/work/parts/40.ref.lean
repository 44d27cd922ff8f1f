theorem dX12_in_0 : decode cX12_in 0 = .ok (.lload_n 0, 1) := by decide +kernel
theorem dX12_in_1 : decode cX12_in 1 = .ok (.lload_n 2, 1) := by decide +kernel
theorem dX12_in_2 : decode cX12_in 2 = .ok (.lcmp, 1) := by decide +kernel
theorem dX12_in_3 : decode cX12_in 3 = .ok (.ifCond .lt 14, 3) := by decide +kernel
theorem dX12_in_6 : decode cX12_in 6 = .ok (.lload_n 0, 1) := by decide +kernel
theorem dX12_in_7 : decode cX12_in 7 = .ok (.lload 4, 2) := by decide +kernel
theorem dX12_in_9 : decode cX12_in 9 = .ok (.lcmp, 1) := by decide +kernel
theorem dX12_in_10 : decode cX12_in 10 = .ok (.ifCond .gt 7, 3) := by decide +kernel
theorem dX12_in_17 : decode cX12_in 17 = .ok (.iconst 0, 1) := by decide +kernel
theorem dX12_in_18 : decode cX12_in 18 = .ok (.ireturn, 1) := by decide +kernel
theorem dX12_in_13 : decode cX12_in 13 = .ok (.iconst 1, 1) := by decide +kernel
theorem dX12_in_14 : decode cX12_in 14 = .ok (.goto 4, 3) := by decide +kernel
theorem dX12_isWeek_0 : decode cX12_isWeek 0 = .ok (.iload_n 0, 1) := by decide +kernel
theorem dX12_isWeek_1 : decode cX12_isWeek 1 = .ok (.i2l, 1) := by decide +kernel
theorem dX12_isWeek_2 : decode cX12_isWeek 2 = .ok (.lconst 0, 1) := by decide +kernel
theorem dX12_isWeek_3 : decode cX12_isWeek 3 = .ok (.ldc2_w 88, 3) := by decide +kernel
theorem dX12_isWeek_6 : decode cX12_isWeek 6 = .ok (.invokestatic 90, 3) := by decide +kernel
theorem dX12_isWeek_9 : decode cX12_isWeek 9 = .ok (.ireturn, 1) := by decide +kernel
theorem dX12_isSpan_0 : decode cX12_isSpan 0 = .ok (.iload_n 1, 1) := by decide +kernel
theorem dX12_isSpan_1 : decode cX12_isSpan 1 = .ok (.i2l, 1) := by decide +kernel
theorem dX12_isSpan_2 : decode cX12_isSpan 2 = .ok (.lconst 1, 1) := by decide +kernel
theorem dX12_isSpan_3 : decode cX12_isSpan 3 = .ok (.ldc2_w 479, 3) := by decide +kernel
theorem dX12_isSpan_6 : decode cX12_isSpan 6 = .ok (.invokestatic 90, 3) := by decide +kernel
theorem dX12_isSpan_9 : decode cX12_isSpan 9 = .ok (.ifCond .eq 22, 3) := by decide +kernel
theorem dX12_isSpan_12 : decode cX12_isSpan 12 = .ok (.aload_n 0, 1) := by decide +kernel
theorem dX12_isSpan_13 : decode cX12_isSpan 13 = .ok (.getfield 8, 3) := by decide +kernel
theorem dX12_isSpan_16 : decode cX12_isSpan 16 = .ok (.bipush 8, 2) := by decide +kernel
theorem dX12_isSpan_18 : decode cX12_isSpan 18 = .ok (.iaload, 1) := by decide +kernel
theorem dX12_isSpan_19 : decode cX12_isSpan 19 = .ok (.iload_n 1, 1) := by decide +kernel
theorem dX12_isSpan_20 : decode cX12_isSpan 20 = .ok (.iadd, 1) := by decide +kernel
theorem dX12_isSpan_21 : decode cX12_isSpan 21 = .ok (.sipush 399, 3) := by decide +kernel
theorem dX12_isSpan_24 : decode cX12_isSpan 24 = .ok (.if_icmp .gt 7, 3) := by decide +kernel
theorem dX12_isSpan_27 : decode cX12_isSpan 27 = .ok (.iconst 1, 1) := by decide +kernel
theorem dX12_isSpan_28 : decode cX12_isSpan 28 = .ok (.goto 4, 3) := by decide +kernel
theorem dX12_isSpan_32 : decode cX12_isSpan 32 = .ok (.ireturn, 1) := by decide +kernel
theorem dX12_isSpan_31 : decode cX12_isSpan 31 = .ok (.iconst 0, 1) := by decide +kernel
theorem dX12_addFour_0 : decode cX12_addFour 0 = .ok (.aload_n 0, 1) := by decide +kernel
theorem dX12_addFour_1 : decode cX12_addFour 1 = .ok (.getfield 8, 3) := by decide +kernel
theorem dX12_addFour_4 : decode cX12_addFour 4 = .ok (.iload_n 1, 1) := by decide +kernel
theorem dX12_addFour_5 : decode cX12_addFour 5 = .ok (.iload_n 2, 1) := by decide +kernel
theorem dX12_addFour_6 : decode cX12_addFour 6 = .ok (.iastore, 1) := by decide +kernel
theorem dX12_addFour_7 : decode cX12_addFour 7 = .ok (.aload_n 0, 1) := by decide +kernel
theorem dX12_addFour_8 : decode cX12_addFour 8 = .ok (.getfield 8, 3) := by decide +kernel
theorem dX12_addFour_11 : decode cX12_addFour 11 = .ok (.iload_n 1, 1) := by decide +kernel
theorem dX12_addFour_12 : decode cX12_addFour 12 = .ok (.iconst 1, 1) := by decide +kernel
theorem dX12_addFour_13 : decode cX12_addFour 13 = .ok (.iadd, 1) := by decide +kernel
theorem dX12_addFour_14 : decode cX12_addFour 14 = .ok (.iload_n 3, 1) := by decide +kernel
theorem dX12_addFour_15 : decode cX12_addFour 15 = .ok (.iastore, 1) := by decide +kernel
theorem dX12_addFour_16 : decode cX12_addFour 16 = .ok (.aload_n 0, 1) := by decide +kernel
theorem dX12_addFour_17 : decode cX12_addFour 17 = .ok (.getfield 8, 3) := by decide +kernel
theorem dX12_addFour_20 : decode cX12_addFour 20 = .ok (.iload_n 1, 1) := by decide +kernel
theorem dX12_addFour_21 : decode cX12_addFour 21 = .ok (.iconst 2, 1) := by decide +kernel
theorem dX12_addFour_22 : decode cX12_addFour 22 = .ok (.iadd, 1) := by decide +kernel
theorem dX12_addFour_23 : decode cX12_addFour 23 = .ok (.iload 4, 2) := by decide +kernel
theorem dX12_addFour_25 : decode cX12_addFour 25 = .ok (.iastore, 1) := by decide +kernel
theorem dX12_addFour_26 : decode cX12_addFour 26 = .ok (.aload_n 0, 1) := by decide +kernel
theorem dX12_addFour_27 : decode cX12_addFour 27 = .ok (.getfield 8, 3) := by decide +kernel
theorem dX12_addFour_30 : decode cX12_addFour 30 = .ok (.iload_n 1, 1) := by decide +kernel
theorem dX12_addFour_31 : decode cX12_addFour 31 = .ok (.iconst 3, 1) := by decide +kernel
theorem dX12_addFour_32 : decode cX12_addFour 32 = .ok (.iadd, 1) := by decide +kernel
theorem dX12_addFour_33 : decode cX12_addFour 33 = .ok (.iload 5, 2) := by decide +kernel
theorem dX12_addFour_35 : decode cX12_addFour 35 = .ok (.iastore, 1) := by decide +kernel
theorem dX12_addFour_36 : decode cX12_addFour 36 = .ok (.return_, 1) := by decide +kernel
def d_X12_in : List Cond := []
def v_X12_in : List Cond := Cond.code yX12_in cX12_in 6 (some .boolean) :: (d_X12_in ++ ([] : List Cond))
theorem gd_X12_in : Gd v_X12_in := gd_mk (by decide +kernel) gd_nil
set_option maxHeartbeats 4000000 in
set_option maxRecDepth 100000 in
theorem c_X12_in (l : Launch) (G : va_G) (cI cJ cZ cD cR cT : ClassId) (v : Int64) (lo : Int64) (hi : Int64) (X : Int) (L : Int) (U : Int) (sz : Nat) (hX : v.toInt = X) (hL : lo.toInt = L) (hU : hi.toInt = U) : Met l yX12_in v_X12_in ({ frames := 1, cells := 0, slots := 0, locals := 40 }) (va_Pc [.long v, .long lo, .long hi] (PreW G (tys6 cI cJ cZ cD cR cT) [] sz)) (QW (RI (fun r => (r = 1 ∧ (L ≤ X ∧ X ≤ U)) ∨ (r = 0 ∧ (X < L ∨ U < X)))) G (va_A [] sz) (fun q g => [])) 0 0 (va_A [] sz) := by
  refine metW (cc := cX12_in) (maxL := 6) (ret := (some .boolean)) (by decide) rfl (Nat.le_of_ble_eq_true rfl) ?_
  intro p e s m below meth c A ls hx hb hr hml hown hts hlocks hin hKK hP hD hA hS hl
  have hK := hKK.1
  have hown : s.vm.findClass RX12 = some m.cls := hown
  have hl : lv_has ls 6 [(0, .long v), (2, .long lo), (4, .long hi)] := hl
  have hP : va_P G vwCl [] s.heap := hP
  have hD : va_D A [] := hD
  refine lv_lload_n hx hb dX12_in_0 rfl (lv_at hl 0 rfl) ?_
  refine lv_lload_n hx hb dX12_in_1 rfl (lv_at hl 1 rfl) ?_
  refine W.lcmp hx hb dX12_in_2 ?_
  rcases lcmp_cases (v) (lo) with ⟨h1, fh1⟩ | ⟨h1, fh1⟩ | ⟨h1, fh1⟩ <;> rw [h1]
  · have f2 : (lo.toInt : Int) < v.toInt := by have h1 := (rfl : Int64.toInt (v) = v.toInt); have h2 := (rfl : Int64.toInt (lo) = lo.toInt); omega
    refine lv_if_lt (tgt := 17) hx hb dX12_in_3 (by decide) (fun c => absurd c (by decide)) (fun _ => ?_)
    refine lv_lload_n hx hb dX12_in_6 rfl (lv_at hl 0 rfl) ?_
    refine lv_lload hx hb dX12_in_7 (lv_at hl 2 rfl) ?_
    refine W.lcmp hx hb dX12_in_9 ?_
    rcases lcmp_cases (v) (hi) with ⟨h3, fh3⟩ | ⟨h3, fh3⟩ | ⟨h3, fh3⟩ <;> rw [h3]
    · have f4 : (hi.toInt : Int) < v.toInt := by have h1 := (rfl : Int64.toInt (v) = v.toInt); have h2 := (rfl : Int64.toInt (hi) = hi.toInt); omega
      refine lv_if_gt (tgt := 17) hx hb dX12_in_10 (by decide) (fun _ => ?_) (fun c => absurd c (by decide))
      refine lv_iconst (v := 0) hx hb dX12_in_17 (by decide) ?_
      exact retZ hx hb hr hlocks (by decide) ⟨_, rfl, Or.inr (⟨rfl, by omega⟩)⟩ hP hD hS (fun _ => 0) (fun _ _ => 0) [] (by decide +kernel) rfl dX12_in_18
    · have f5 : (v.toInt : Int) = hi.toInt := by have h1 := (rfl : Int64.toInt (v) = v.toInt); have h2 := (rfl : Int64.toInt (hi) = hi.toInt); omega
      refine lv_if_gt (tgt := 17) hx hb dX12_in_10 (by decide) (fun c => absurd c (by decide)) (fun _ => ?_)
      refine lv_iconst (v := 1) hx hb dX12_in_13 (by decide) ?_
      refine lv_goto (tgt := 18) hx hb dX12_in_14 (by decide) ?_
      exact retZ hx hb hr hlocks (by decide) ⟨_, rfl, Or.inl ⟨rfl, by omega⟩⟩ hP hD hS (fun _ => 0) (fun _ _ => 0) [] (by decide +kernel) rfl dX12_in_18
    · have f6 : (v.toInt : Int) < hi.toInt := by have h1 := (rfl : Int64.toInt (v) = v.toInt); have h2 := (rfl : Int64.toInt (hi) = hi.toInt); omega
      refine lv_if_gt (tgt := 17) hx hb dX12_in_10 (by decide) (fun c => absurd c (by decide)) (fun _ => ?_)
      refine lv_iconst (v := 1) hx hb dX12_in_13 (by decide) ?_
      refine lv_goto (tgt := 18) hx hb dX12_in_14 (by decide) ?_
      exact retZ hx hb hr hlocks (by decide) ⟨_, rfl, Or.inl ⟨rfl, by omega⟩⟩ hP hD hS (fun _ => 0) (fun _ _ => 0) [] (by decide +kernel) rfl dX12_in_18
  · have f7 : (v.toInt : Int) = lo.toInt := by have h1 := (rfl : Int64.toInt (v) = v.toInt); have h2 := (rfl : Int64.toInt (lo) = lo.toInt); omega
    refine lv_if_lt (tgt := 17) hx hb dX12_in_3 (by decide) (fun c => absurd c (by decide)) (fun _ => ?_)
    refine lv_lload_n hx hb dX12_in_6 rfl (lv_at hl 0 rfl) ?_
    refine lv_lload hx hb dX12_in_7 (lv_at hl 2 rfl) ?_
    refine W.lcmp hx hb dX12_in_9 ?_
    rcases lcmp_cases (v) (hi) with ⟨h8, fh8⟩ | ⟨h8, fh8⟩ | ⟨h8, fh8⟩ <;> rw [h8]
    · have f9 : (hi.toInt : Int) < v.toInt := by have h1 := (rfl : Int64.toInt (v) = v.toInt); have h2 := (rfl : Int64.toInt (hi) = hi.toInt); omega
      refine lv_if_gt (tgt := 17) hx hb dX12_in_10 (by decide) (fun _ => ?_) (fun c => absurd c (by decide))
      refine lv_iconst (v := 0) hx hb dX12_in_17 (by decide) ?_
      exact retZ hx hb hr hlocks (by decide) ⟨_, rfl, Or.inr (⟨rfl, by omega⟩)⟩ hP hD hS (fun _ => 0) (fun _ _ => 0) [] (by decide +kernel) rfl dX12_in_18
    · have f10 : (v.toInt : Int) = hi.toInt := by have h1 := (rfl : Int64.toInt (v) = v.toInt); have h2 := (rfl : Int64.toInt (hi) = hi.toInt); omega
      refine lv_if_gt (tgt := 17) hx hb dX12_in_10 (by decide) (fun c => absurd c (by decide)) (fun _ => ?_)
      refine lv_iconst (v := 1) hx hb dX12_in_13 (by decide) ?_
      refine lv_goto (tgt := 18) hx hb dX12_in_14 (by decide) ?_
      exact retZ hx hb hr hlocks (by decide) ⟨_, rfl, Or.inl ⟨rfl, by omega⟩⟩ hP hD hS (fun _ => 0) (fun _ _ => 0) [] (by decide +kernel) rfl dX12_in_18
    · have f11 : (v.toInt : Int) < hi.toInt := by have h1 := (rfl : Int64.toInt (v) = v.toInt); have h2 := (rfl : Int64.toInt (hi) = hi.toInt); omega
      refine lv_if_gt (tgt := 17) hx hb dX12_in_10 (by decide) (fun c => absurd c (by decide)) (fun _ => ?_)
      refine lv_iconst (v := 1) hx hb dX12_in_13 (by decide) ?_
      refine lv_goto (tgt := 18) hx hb dX12_in_14 (by decide) ?_
      exact retZ hx hb hr hlocks (by decide) ⟨_, rfl, Or.inl ⟨rfl, by omega⟩⟩ hP hD hS (fun _ => 0) (fun _ _ => 0) [] (by decide +kernel) rfl dX12_in_18
  · have f12 : (v.toInt : Int) < lo.toInt := by have h1 := (rfl : Int64.toInt (v) = v.toInt); have h2 := (rfl : Int64.toInt (lo) = lo.toInt); omega
    refine lv_if_lt (tgt := 17) hx hb dX12_in_3 (by decide) (fun _ => ?_) (fun c => absurd c (by decide))
    refine lv_iconst (v := 0) hx hb dX12_in_17 (by decide) ?_
    exact retZ hx hb hr hlocks (by decide) ⟨_, rfl, Or.inr (⟨rfl, by omega⟩)⟩ hP hD hS (fun _ => 0) (fun _ _ => 0) [] (by decide +kernel) rfl dX12_in_18
def d_X12_isWeek : List Cond := [Cond.constantLong RX12 88 (399), Cond.methodLink RX12 90 yX12_in, Cond.static yX12_in, Cond.initialized RX12]
def v_X12_isWeek : List Cond := Cond.code yX12_isWeek cX12_isWeek 1 (some .boolean) :: (d_X12_isWeek ++ (v_X12_in ++ ([] : List Cond)))
theorem cm_X12_isWeek_0 : ∀ w ∈ v_X12_in, w ∈ v_X12_isWeek := fun _ h => List.mem_cons_of_mem _ (List.mem_append_right _ (List.mem_append_left _ h))
theorem gd_X12_isWeek : Gd v_X12_isWeek := gd_mk (by decide +kernel) (gd_app gd_X12_in gd_nil)
set_option maxRecDepth 20000 in
theorem gv_X12_isWeek_90_X12_in : GoodIn v_X12_isWeek (va_wsS RX12 90 yX12_in v_X12_in) := goodIn_app (goodIn_of _ (by decide +kernel)) (gi cm_X12_isWeek_0 gd_X12_in)
set_option maxHeartbeats 4000000 in
set_option maxRecDepth 100000 in
theorem c_X12_isWeek (l : Launch) (G : va_G) (cI cJ cZ cD cR cT : ClassId) (x : Int32) (sz : Nat) : Met l yX12_isWeek v_X12_isWeek ({ frames := 2, cells := 0, slots := 0, locals := 65 }) (va_Pc [.int x] (PreW G (tys6 cI cJ cZ cD cR cT) [] sz)) (QW (RI (fun r => (r = 1 ∧ (0 ≤ x.toInt ∧ x.toInt ≤ 399)) ∨ (r = 0 ∧ (x.toInt < 0 ∨ 399 < x.toInt)))) G (va_A [] sz) (fun q g => [])) 0 0 (va_A [] sz) := by
  refine metW (cc := cX12_isWeek) (maxL := 1) (ret := (some .boolean)) (by decide) rfl (Nat.le_of_ble_eq_true rfl) ?_
  intro p e s m below meth c A ls hx hb hr hml hown hts hlocks hin hKK hP hD hA hS hl
  have hK := hKK.1
  have hown : s.vm.findClass RX12 = some m.cls := hown
  have hl : lv_has ls 1 [(0, .int x)] := hl
  have hP : va_P G vwCl [] s.heap := hP
  have hD : va_D A [] := hD
  refine lv_iload_n hx hb dX12_isWeek_0 rfl (lv_at hl 0 rfl) ?_
  refine lv_i2l hx hb dX12_isWeek_1 rfl ?_
  refine lv_lconst (v := 0) hx hb dX12_isWeek_2 (by decide) ?_
  refine lv_ldc2 (v := 399) hx hb hown (hts _ (dmem (j := 0) rfl)) dX12_isWeek_3 ?_
  refine goS (As := [.long (x).toInt64, .long 0, .long 399]) (rest := []) (wr := []) ⟨hx, hb, hml, hown, hts⟩ (c_X12_in l G cI cJ cZ cD cR cT (x).toInt64 0 399 x.toInt 0 399 _ (Int32.toInt_toInt64 x) (by decide) (by decide)) (va_cwS 3 hts gv_X12_isWeek_90_X12_in rfl rfl rfl (by decide +kernel) ⟨Nat.le_of_ble_eq_true rfl, Nat.le_of_ble_eq_true rfl⟩) hKK hP hD hS hA [] [] rfl rfl (by decide +kernel) (by decide +kernel) (by decide +kernel) rfl hl.1 rfl (lv_room (Nat.le_of_ble_eq_true rfl)) dX12_isWeek_6 ⟨Nat.le_of_ble_eq_true rfl, Nat.le_of_ble_eq_true rfl⟩ (fun v2 q1 gq1 H locs hv2 => appW (ws' := []) rfl (fun hP hD hS => ?_))
  obtain ⟨_, rfl, h4⟩ := hv2
  rcases h4 with ⟨rfl, h4⟩ | ⟨rfl, h4⟩
  · exact retZ hx hb hr hlocks (by decide) ⟨_, rfl, Or.inl ⟨rfl, by omega⟩⟩ hP hD hS (fun _ => 0) (fun _ _ => 0) [] (by decide +kernel) rfl dX12_isWeek_9
  · exact retZ hx hb hr hlocks (by decide) ⟨_, rfl, Or.inr (⟨rfl, by omega⟩)⟩ hP hD hS (fun _ => 0) (fun _ _ => 0) [] (by decide +kernel) rfl dX12_isWeek_9
def d_X12_isSpan : List Cond := [Cond.constantLong RX12 479 (104), Cond.methodLink RX12 90 yX12_in, Cond.static yX12_in, Cond.initialized RX12, Cond.fieldLink RX12 8 "NoRentModel" "row" "[I"]
def v_X12_isSpan : List Cond := Cond.code yX12_isSpan cX12_isSpan 2 (some .boolean) :: (d_X12_isSpan ++ (v_X12_in ++ (wsX120 ++ ([] : List Cond))))
theorem cm_X12_isSpan_0 : ∀ w ∈ v_X12_in, w ∈ v_X12_isSpan := fun _ h => List.mem_cons_of_mem _ (List.mem_append_right _ (List.mem_append_left _ h))
theorem cm_X12_isSpan_1 : ∀ w ∈ wsX120, w ∈ v_X12_isSpan := fun _ h => List.mem_cons_of_mem _ (List.mem_append_right _ (List.mem_append_right _ (List.mem_append_left _ h)))
theorem gd_X12_isSpan : Gd v_X12_isSpan := gd_mk (by decide +kernel) (gd_app gd_X12_in (gd_app gd_X12 gd_nil))
set_option maxRecDepth 20000 in
theorem gv_X12_isSpan_90_X12_in : GoodIn v_X12_isSpan (va_wsS RX12 90 yX12_in v_X12_in) := goodIn_app (goodIn_of _ (by decide +kernel)) (gi cm_X12_isSpan_0 gd_X12_in)
set_option maxHeartbeats 4000000 in
set_option maxRecDepth 100000 in
theorem c_X12_isSpan (l : Launch) (G : va_G) (cI cJ cZ cD cR cT : ClassId) (h0 : Nat) (x : Int32) (h0_2 : Nat) (h0_3 : Nat) (h0_4 : Nat) (h0_5 : Nat) (h0_9 : Nat) (h0_10 : Nat) (h0_11 : Nat) (h0_20 : Nat) (h0_22 : Nat) (h0_23 : Nat) (h0_25 : Nat) (h0_26 : Nat) (h0_29 : Nat) (h0_30 : Nat) (h0_31 : Nat) (h0_32 : Nat) (h0_39 : Nat) (h0_40 : Nat) (h0_42 : Nat) (h0_44 : Nat) (h0_45 : Nat) (sz : Nat) : Met l yX12_isSpan v_X12_isSpan ({ frames := 2, cells := 0, slots := 0, locals := 65 }) (va_Pc [.ref h0, .int x] (PreW G (tys6 cI cJ cZ cD cR cT) [(h0, .inr (12, [.int 0, .int 0, .ref h0_2, .ref h0_3, .ref h0_4, .ref h0_5, .int 0, .int 0, .int 0, .ref h0_9, .ref h0_10, .ref h0_11, .int 0, .int 0, .int 0, .int 0, .long 0, .int (-1), .int 0, .int 0, .ref h0_20, .int 0, .ref h0_22, .ref h0_23, .int 0, .ref h0_25, .ref h0_26, .int 0, .int 0, .ref h0_29, .ref h0_30, .ref h0_31, .ref h0_32, .int 0, .long 0, .long 0, .long 0, .long 0, .int 0, .ref h0_39, .ref h0_40, .int 0, .ref h0_42, .int 0, .ref h0_44, .ref h0_45, .int 0, .int 0, .int 0, .int 0, .int 0, .int 0])), (h0_2, .inl (cI, 35942, .inl mrow))] sz)) (QW (RI (fun r => (r = 1 ∧ (1 ≤ x.toInt ∧ x.toInt ≤ 104)) ∨ (r = 0 ∧ (x.toInt < 1 ∨ 104 < x.toInt)))) G (va_A [(h0, .inr (12, [.int 0, .int 0, .ref h0_2, .ref h0_3, .ref h0_4, .ref h0_5, .int 0, .int 0, .int 0, .ref h0_9, .ref h0_10, .ref h0_11, .int 0, .int 0, .int 0, .int 0, .long 0, .int (-1), .int 0, .int 0, .ref h0_20, .int 0, .ref h0_22, .ref h0_23, .int 0, .ref h0_25, .ref h0_26, .int 0, .int 0, .ref h0_29, .ref h0_30, .ref h0_31, .ref h0_32, .int 0, .long 0, .long 0, .long 0, .long 0, .int 0, .ref h0_39, .ref h0_40, .int 0, .ref h0_42, .int 0, .ref h0_44, .ref h0_45, .int 0, .int 0, .int 0, .int 0, .int 0, .int 0])), (h0_2, .inl (cI, 35942, .inl mrow))] sz) (fun q g => [(h0, .inr (12, [.int 0, .int 0, .ref h0_2, .ref h0_3, .ref h0_4, .ref h0_5, .int 0, .int 0, .int 0, .ref h0_9, .ref h0_10, .ref h0_11, .int 0, .int 0, .int 0, .int 0, .long 0, .int (-1), .int 0, .int 0, .ref h0_20, .int 0, .ref h0_22, .ref h0_23, .int 0, .ref h0_25, .ref h0_26, .int 0, .int 0, .ref h0_29, .ref h0_30, .ref h0_31, .ref h0_32, .int 0, .long 0, .long 0, .long 0, .long 0, .int 0, .ref h0_39, .ref h0_40, .int 0, .ref h0_42, .int 0, .ref h0_44, .ref h0_45, .int 0, .int 0, .int 0, .int 0, .int 0, .int 0])), (h0_2, .inl (cI, 35942, .inl mrow))])) 0 0 (va_A [(h0, .inr (12, [.int 0, .int 0, .ref h0_2, .ref h0_3, .ref h0_4, .ref h0_5, .int 0, .int 0, .int 0, .ref h0_9, .ref h0_10, .ref h0_11, .int 0, .int 0, .int 0, .int 0, .long 0, .int (-1), .int 0, .int 0, .ref h0_20, .int 0, .ref h0_22, .ref h0_23, .int 0, .ref h0_25, .ref h0_26, .int 0, .int 0, .ref h0_29, .ref h0_30, .ref h0_31, .ref h0_32, .int 0, .long 0, .long 0, .long 0, .long 0, .int 0, .ref h0_39, .ref h0_40, .int 0, .ref h0_42, .int 0, .ref h0_44, .ref h0_45, .int 0, .int 0, .int 0, .int 0, .int 0, .int 0])), (h0_2, .inl (cI, 35942, .inl mrow))] sz) := by
  refine metW (cc := cX12_isSpan) (maxL := 2) (ret := (some .boolean)) (by decide) rfl (Nat.le_of_ble_eq_true rfl) ?_
  intro p e s m below meth c A ls hx hb hr hml hown hts hlocks hin hKK hP hD hA hS hl
  have hK := hKK.1
  have hown : s.vm.findClass RX12 = some m.cls := hown
  have hl : lv_has ls 2 [(0, .ref h0), (1, .int x)] := hl
  have hP : va_P G vwCl [(h0, .inr (12, [.int 0, .int 0, .ref h0_2, .ref h0_3, .ref h0_4, .ref h0_5, .int 0, .int 0, .int 0, .ref h0_9, .ref h0_10, .ref h0_11, .int 0, .int 0, .int 0, .int 0, .long 0, .int (-1), .int 0, .int 0, .ref h0_20, .int 0, .ref h0_22, .ref h0_23, .int 0, .ref h0_25, .ref h0_26, .int 0, .int 0, .ref h0_29, .ref h0_30, .ref h0_31, .ref h0_32, .int 0, .long 0, .long 0, .long 0, .long 0, .int 0, .ref h0_39, .ref h0_40, .int 0, .ref h0_42, .int 0, .ref h0_44, .ref h0_45, .int 0, .int 0, .int 0, .int 0, .int 0, .int 0])), (h0_2, .inl (cI, 35942, .inl mrow))] s.heap := hP
  have hD : va_D A [(h0, .inr (12, [.int 0, .int 0, .ref h0_2, .ref h0_3, .ref h0_4, .ref h0_5, .int 0, .int 0, .int 0, .ref h0_9, .ref h0_10, .ref h0_11, .int 0, .int 0, .int 0, .int 0, .long 0, .int (-1), .int 0, .int 0, .ref h0_20, .int 0, .ref h0_22, .ref h0_23, .int 0, .ref h0_25, .ref h0_26, .int 0, .int 0, .ref h0_29, .ref h0_30, .ref h0_31, .ref h0_32, .int 0, .long 0, .long 0, .long 0, .long 0, .int 0, .ref h0_39, .ref h0_40, .int 0, .ref h0_42, .int 0, .ref h0_44, .ref h0_45, .int 0, .int 0, .int 0, .int 0, .int 0, .int 0])), (h0_2, .inl (cI, 35942, .inl mrow))] := hD
  refine lv_iload_n hx hb dX12_isSpan_0 rfl (lv_at hl 1 rfl) ?_
  refine lv_i2l hx hb dX12_isSpan_1 rfl ?_
  refine lv_lconst (v := 1) hx hb dX12_isSpan_2 (by decide) ?_
  refine lv_ldc2 (v := 104) hx hb hown (hts _ (dmem (j := 0) rfl)) dX12_isSpan_3 ?_
  refine goS (As := [.long (x).toInt64, .long 1, .long 104]) (rest := []) (wr := [(h0, .inr (12, [.int 0, .int 0, .ref h0_2, .ref h0_3, .ref h0_4, .ref h0_5, .int 0, .int 0, .int 0, .ref h0_9, .ref h0_10, .ref h0_11, .int 0, .int 0, .int 0, .int 0, .long 0, .int (-1), .int 0, .int 0, .ref h0_20, .int 0, .ref h0_22, .ref h0_23, .int 0, .ref h0_25, .ref h0_26, .int 0, .int 0, .ref h0_29, .ref h0_30, .ref h0_31, .ref h0_32, .int 0, .long 0, .long 0, .long 0, .long 0, .int 0, .ref h0_39, .ref h0_40, .int 0, .ref h0_42, .int 0, .ref h0_44, .ref h0_45, .int 0, .int 0, .int 0, .int 0, .int 0, .int 0])), (h0_2, .inl (cI, 35942, .inl mrow))]) ⟨hx, hb, hml, hown, hts⟩ (c_X12_in l G cI cJ cZ cD cR cT (x).toInt64 1 104 x.toInt 1 104 _ (Int32.toInt_toInt64 x) (by decide) (by decide)) (va_cwS 3 hts gv_X12_isSpan_90_X12_in rfl rfl rfl (by decide +kernel) ⟨Nat.le_of_ble_eq_true rfl, Nat.le_of_ble_eq_true rfl⟩) hKK hP hD hS hA [] [0, 1] rfl rfl (by decide +kernel) (by decide +kernel) (by decide +kernel) rfl hl.1 rfl (lv_room (Nat.le_of_ble_eq_true rfl)) dX12_isSpan_6 ⟨Nat.le_of_ble_eq_true rfl, Nat.le_of_ble_eq_true rfl⟩ (fun v2 q1 gq1 H locs hv2 => appW (ws' := [(h0, .inr (12, [.int 0, .int 0, .ref h0_2, .ref h0_3, .ref h0_4, .ref h0_5, .int 0, .int 0, .int 0, .ref h0_9, .ref h0_10, .ref h0_11, .int 0, .int 0, .int 0, .int 0, .long 0, .int (-1), .int 0, .int 0, .ref h0_20, .int 0, .ref h0_22, .ref h0_23, .int 0, .ref h0_25, .ref h0_26, .int 0, .int 0, .ref h0_29, .ref h0_30, .ref h0_31, .ref h0_32, .int 0, .long 0, .long 0, .long 0, .long 0, .int 0, .ref h0_39, .ref h0_40, .int 0, .ref h0_42, .int 0, .ref h0_44, .ref h0_45, .int 0, .int 0, .int 0, .int 0, .int 0, .int 0])), (h0_2, .inl (cI, 35942, .inl mrow))]) rfl (fun hP hD hS => ?_))
  obtain ⟨_, rfl, h4⟩ := hv2
  rcases h4 with ⟨rfl, h4⟩ | ⟨rfl, h4⟩
  · refine lv_if_eq (tgt := 31) hx hb dX12_isSpan_9 (by decide) (fun c => absurd c (by decide)) (fun _ => ?_)
    refine lv_aload_n hx hb dX12_isSpan_12 rfl (lv_at hl 0 rfl) ?_
    refine va_get (D := G) (ci := 12) (v := .ref h0_2) (C := RX12) (T := TX12) (N := 52) hx hb hts cm_X12_isSpan_1 hown hK hP 0 rfl rfl 2 (by decide) (hts _ (dmem (j := 4) rfl)) (fun _ h9 => h9) rfl dX12_isSpan_13 ?_
    refine lv_bipush (v := 8) hx hb dX12_isSpan_16 (by decide) ?_
    refine va_iald hx hb hK hP 1 0 rfl rfl (vp_in_iff.mpr (by decide)) dX12_isSpan_18 ?_
    refine lv_topi (fun x5 ex5 => ?_)
    obtain rfl : 0 = x5 := (ex5.trans (by first | rfl | decide | (simp [upd, mrow]; done))).symm
    refine lv_iload_n hx hb dX12_isSpan_19 rfl (lv_at hl 1 rfl) ?_
    refine lv_iadd hx hb dX12_isSpan_20 ?_
    refine lv_topi (fun x6 ex6 => ?_)
    obtain rfl : x = x6 := (ex6.trans (by simp)).symm
    refine lv_sipush (v := 399) hx hb dX12_isSpan_21 (by decide) ?_
    refine lv_icmp_gt (tgt := 31) hx hb dX12_isSpan_24 (by decide) (fun c7 => ?_) (fun c7 => ?_)
    · have f8 : (399 : Int) < x.toInt := Int32.lt_iff_toInt_lt.mp c7
      exfalso; omega
    · have f9 : ¬ ((399 : Int) < x.toInt) := fun h => c7 (Int32.lt_iff_toInt_lt.mpr h)
      refine lv_iconst (v := 1) hx hb dX12_isSpan_27 (by decide) ?_
      refine lv_goto (tgt := 32) hx hb dX12_isSpan_28 (by decide) ?_
      exact retZ hx hb hr hlocks (by decide) ⟨_, rfl, Or.inl ⟨rfl, by omega⟩⟩ hP hD hS (fun _ => 0) (fun _ _ => 0) [0, 1] (by decide +kernel) rfl dX12_isSpan_32
  · refine lv_if_eq (tgt := 31) hx hb dX12_isSpan_9 (by decide) (fun _ => ?_) (fun c => absurd c (by decide))
    refine lv_iconst (v := 0) hx hb dX12_isSpan_31 (by decide) ?_
    exact retZ hx hb hr hlocks (by decide) ⟨_, rfl, Or.inr (⟨rfl, by omega⟩)⟩ hP hD hS (fun _ => 0) (fun _ _ => 0) [0, 1] (by decide +kernel) rfl dX12_isSpan_32
def d_X12_addFour_20 : List Cond := [Cond.fieldLink RX12 8 "NoRentModel" "row" "[I"]
def v_X12_addFour_20 : List Cond := Cond.code yX12_addFour cX12_addFour 6 none :: (d_X12_addFour_20 ++ (wsX120 ++ ([] : List Cond)))
theorem cm_X12_addFour_20_0 : ∀ w ∈ wsX120, w ∈ v_X12_addFour_20 := fun _ h => List.mem_cons_of_mem _ (List.mem_append_right _ (List.mem_append_left _ h))
theorem gd_X12_addFour_20 : Gd v_X12_addFour_20 := gd_mk (by decide +kernel) (gd_app gd_X12 gd_nil)
set_option maxHeartbeats 4000000 in
set_option maxRecDepth 100000 in
theorem c_X12_addFour_20 (l : Launch) (G : va_G) (cI cJ cZ cD cR cT : ClassId) (h0 : Nat) (v1 : Int32) (v2 : Int32) (v3 : Int32) (v4 : Int32) (h0_2 : Nat) (h0_3 : Nat) (h0_4 : Nat) (h0_5 : Nat) (h0_9 : Nat) (h0_10 : Nat) (h0_11 : Nat) (h0_20 : Nat) (h0_22 : Nat) (h0_23 : Nat) (h0_25 : Nat) (h0_26 : Nat) (h0_29 : Nat) (h0_30 : Nat) (h0_31 : Nat) (h0_32 : Nat) (h0_39 : Nat) (h0_40 : Nat) (h0_42 : Nat) (h0_44 : Nat) (h0_45 : Nat) (fr : Nat → Int32) (sz : Nat) : Met l yX12_addFour v_X12_addFour_20 ({ frames := 1, cells := 0, slots := 0, locals := 40 }) (va_Pc [.ref h0, .int 20, .int v1, .int v2, .int v3, .int v4] (PreW G (tys6 cI cJ cZ cD cR cT) [(h0, .inr (12, [.int 0, .int 0, .ref h0_2, .ref h0_3, .ref h0_4, .ref h0_5, .int 0, .int 0, .int 0, .ref h0_9, .ref h0_10, .ref h0_11, .int 0, .int 0, .int 0, .int 0, .long 0, .int (-1), .int 0, .int 0, .ref h0_20, .int 0, .ref h0_22, .ref h0_23, .int 0, .ref h0_25, .ref h0_26, .int 0, .int 0, .ref h0_29, .ref h0_30, .ref h0_31, .ref h0_32, .int 0, .long 0, .long 0, .long 0, .long 0, .int 0, .ref h0_39, .ref h0_40, .int 0, .ref h0_42, .int 0, .ref h0_44, .ref h0_45, .int 0, .int 0, .int 0, .int 0, .int 0, .int 0])), (h0_2, .inl (cI, 35942, .inl fr))] sz)) (QW RV G (va_A [(h0, .inr (12, [.int 0, .int 0, .ref h0_2, .ref h0_3, .ref h0_4, .ref h0_5, .int 0, .int 0, .int 0, .ref h0_9, .ref h0_10, .ref h0_11, .int 0, .int 0, .int 0, .int 0, .long 0, .int (-1), .int 0, .int 0, .ref h0_20, .int 0, .ref h0_22, .ref h0_23, .int 0, .ref h0_25, .ref h0_26, .int 0, .int 0, .ref h0_29, .ref h0_30, .ref h0_31, .ref h0_32, .int 0, .long 0, .long 0, .long 0, .long 0, .int 0, .ref h0_39, .ref h0_40, .int 0, .ref h0_42, .int 0, .ref h0_44, .ref h0_45, .int 0, .int 0, .int 0, .int 0, .int 0, .int 0])), (h0_2, .inl (cI, 35942, .inl fr))] sz) (fun q g => [(h0, .inr (12, [.int 0, .int 0, .ref h0_2, .ref h0_3, .ref h0_4, .ref h0_5, .int 0, .int 0, .int 0, .ref h0_9, .ref h0_10, .ref h0_11, .int 0, .int 0, .int 0, .int 0, .long 0, .int (-1), .int 0, .int 0, .ref h0_20, .int 0, .ref h0_22, .ref h0_23, .int 0, .ref h0_25, .ref h0_26, .int 0, .int 0, .ref h0_29, .ref h0_30, .ref h0_31, .ref h0_32, .int 0, .long 0, .long 0, .long 0, .long 0, .int 0, .ref h0_39, .ref h0_40, .int 0, .ref h0_42, .int 0, .ref h0_44, .ref h0_45, .int 0, .int 0, .int 0, .int 0, .int 0, .int 0])), (h0_2, .inl (cI, 35942, .inl (upd (upd (upd (upd fr 20 v1) 21 v2) 22 v3) 23 v4)))])) 0 0 (va_A [(h0, .inr (12, [.int 0, .int 0, .ref h0_2, .ref h0_3, .ref h0_4, .ref h0_5, .int 0, .int 0, .int 0, .ref h0_9, .ref h0_10, .ref h0_11, .int 0, .int 0, .int 0, .int 0, .long 0, .int (-1), .int 0, .int 0, .ref h0_20, .int 0, .ref h0_22, .ref h0_23, .int 0, .ref h0_25, .ref h0_26, .int 0, .int 0, .ref h0_29, .ref h0_30, .ref h0_31, .ref h0_32, .int 0, .long 0, .long 0, .long 0, .long 0, .int 0, .ref h0_39, .ref h0_40, .int 0, .ref h0_42, .int 0, .ref h0_44, .ref h0_45, .int 0, .int 0, .int 0, .int 0, .int 0, .int 0])), (h0_2, .inl (cI, 35942, .inl fr))] sz) := by
  refine metW (cc := cX12_addFour) (maxL := 6) (ret := none) (by decide) rfl (Nat.le_of_ble_eq_true rfl) ?_
  intro p e s m below meth c A ls hx hb hr hml hown hts hlocks hin hKK hP hD hA hS hl
  have hK := hKK.1
  have hown : s.vm.findClass RX12 = some m.cls := hown
  have hl : lv_has ls 6 [(0, .ref h0), (1, .int 20), (2, .int v1), (3, .int v2), (4, .int v3), (5, .int v4)] := hl
  have hP : va_P G vwCl [(h0, .inr (12, [.int 0, .int 0, .ref h0_2, .ref h0_3, .ref h0_4, .ref h0_5, .int 0, .int 0, .int 0, .ref h0_9, .ref h0_10, .ref h0_11, .int 0, .int 0, .int 0, .int 0, .long 0, .int (-1), .int 0, .int 0, .ref h0_20, .int 0, .ref h0_22, .ref h0_23, .int 0, .ref h0_25, .ref h0_26, .int 0, .int 0, .ref h0_29, .ref h0_30, .ref h0_31, .ref h0_32, .int 0, .long 0, .long 0, .long 0, .long 0, .int 0, .ref h0_39, .ref h0_40, .int 0, .ref h0_42, .int 0, .ref h0_44, .ref h0_45, .int 0, .int 0, .int 0, .int 0, .int 0, .int 0])), (h0_2, .inl (cI, 35942, .inl fr))] s.heap := hP
  have hD : va_D A [(h0, .inr (12, [.int 0, .int 0, .ref h0_2, .ref h0_3, .ref h0_4, .ref h0_5, .int 0, .int 0, .int 0, .ref h0_9, .ref h0_10, .ref h0_11, .int 0, .int 0, .int 0, .int 0, .long 0, .int (-1), .int 0, .int 0, .ref h0_20, .int 0, .ref h0_22, .ref h0_23, .int 0, .ref h0_25, .ref h0_26, .int 0, .int 0, .ref h0_29, .ref h0_30, .ref h0_31, .ref h0_32, .int 0, .long 0, .long 0, .long 0, .long 0, .int 0, .ref h0_39, .ref h0_40, .int 0, .ref h0_42, .int 0, .ref h0_44, .ref h0_45, .int 0, .int 0, .int 0, .int 0, .int 0, .int 0])), (h0_2, .inl (cI, 35942, .inl fr))] := hD
  refine lv_aload_n hx hb dX12_addFour_0 rfl (lv_at hl 0 rfl) ?_
  refine va_get (D := G) (ci := 12) (v := .ref h0_2) (C := RX12) (T := TX12) (N := 52) hx hb hts cm_X12_addFour_20_0 hown hK hP 0 rfl rfl 2 (by decide) (hts _ (dmem (j := 0) rfl)) (fun _ h9 => h9) rfl dX12_addFour_1 ?_
  refine lv_iload_n hx hb dX12_addFour_4 rfl (lv_at hl 1 rfl) ?_
  refine lv_iload_n hx hb dX12_addFour_5 rfl (lv_at hl 2 rfl) ?_
  refine va_iast hx hb hK hP hD hS 1 0 rfl rfl (vp_in_iff.mpr (by decide)) dX12_addFour_6 (fun H locs => setW (ws' := [(h0, .inr (12, [.int 0, .int 0, .ref h0_2, .ref h0_3, .ref h0_4, .ref h0_5, .int 0, .int 0, .int 0, .ref h0_9, .ref h0_10, .ref h0_11, .int 0, .int 0, .int 0, .int 0, .long 0, .int (-1), .int 0, .int 0, .ref h0_20, .int 0, .ref h0_22, .ref h0_23, .int 0, .ref h0_25, .ref h0_26, .int 0, .int 0, .ref h0_29, .ref h0_30, .ref h0_31, .ref h0_32, .int 0, .long 0, .long 0, .long 0, .long 0, .int 0, .ref h0_39, .ref h0_40, .int 0, .ref h0_42, .int 0, .ref h0_44, .ref h0_45, .int 0, .int 0, .int 0, .int 0, .int 0, .int 0])), (h0_2, .inl (cI, 35942, .inl (upd fr 20 v1)))]) rfl (fun hP hD hS => ?_))
  refine lv_aload_n hx hb dX12_addFour_7 rfl (lv_at hl 0 rfl) ?_
  refine va_get (D := G) (ci := 12) (v := .ref h0_2) (C := RX12) (T := TX12) (N := 52) hx hb hts cm_X12_addFour_20_0 hown hK hP 0 rfl rfl 2 (by decide) (hts _ (dmem (j := 0) rfl)) (fun _ h9 => h9) rfl dX12_addFour_8 ?_
  refine lv_iload_n hx hb dX12_addFour_11 rfl (lv_at hl 1 rfl) ?_
  refine lv_iconst (v := 1) hx hb dX12_addFour_12 (by decide) ?_
  refine lv_iadd hx hb dX12_addFour_13 ?_
  refine lv_topi (fun x1 ex1 => ?_)
  obtain rfl : 21 = x1 := (ex1.trans (by decide)).symm
  refine lv_iload_n hx hb dX12_addFour_14 rfl (lv_at hl 3 rfl) ?_
  refine va_iast hx hb hK hP hD hS 1 0 rfl rfl (vp_in_iff.mpr (by decide)) dX12_addFour_15 (fun H locs => setW (ws' := [(h0, .inr (12, [.int 0, .int 0, .ref h0_2, .ref h0_3, .ref h0_4, .ref h0_5, .int 0, .int 0, .int 0, .ref h0_9, .ref h0_10, .ref h0_11, .int 0, .int 0, .int 0, .int 0, .long 0, .int (-1), .int 0, .int 0, .ref h0_20, .int 0, .ref h0_22, .ref h0_23, .int 0, .ref h0_25, .ref h0_26, .int 0, .int 0, .ref h0_29, .ref h0_30, .ref h0_31, .ref h0_32, .int 0, .long 0, .long 0, .long 0, .long 0, .int 0, .ref h0_39, .ref h0_40, .int 0, .ref h0_42, .int 0, .ref h0_44, .ref h0_45, .int 0, .int 0, .int 0, .int 0, .int 0, .int 0])), (h0_2, .inl (cI, 35942, .inl (upd (upd fr 20 v1) 21 v2)))]) rfl (fun hP hD hS => ?_))
  refine lv_aload_n hx hb dX12_addFour_16 rfl (lv_at hl 0 rfl) ?_
  refine va_get (D := G) (ci := 12) (v := .ref h0_2) (C := RX12) (T := TX12) (N := 52) hx hb hts cm_X12_addFour_20_0 hown hK hP 0 rfl rfl 2 (by decide) (hts _ (dmem (j := 0) rfl)) (fun _ h9 => h9) rfl dX12_addFour_17 ?_
  refine lv_iload_n hx hb dX12_addFour_20 rfl (lv_at hl 1 rfl) ?_
  refine lv_iconst (v := 2) hx hb dX12_addFour_21 (by decide) ?_
  refine lv_iadd hx hb dX12_addFour_22 ?_
  refine lv_topi (fun x2 ex2 => ?_)
  obtain rfl : 22 = x2 := (ex2.trans (by decide)).symm
  refine lv_iload hx hb dX12_addFour_23 (lv_at hl 4 rfl) ?_
  refine va_iast hx hb hK hP hD hS 1 0 rfl rfl (vp_in_iff.mpr (by decide)) dX12_addFour_25 (fun H locs => setW (ws' := [(h0, .inr (12, [.int 0, .int 0, .ref h0_2, .ref h0_3, .ref h0_4, .ref h0_5, .int 0, .int 0, .int 0, .ref h0_9, .ref h0_10, .ref h0_11, .int 0, .int 0, .int 0, .int 0, .long 0, .int (-1), .int 0, .int 0, .ref h0_20, .int 0, .ref h0_22, .ref h0_23, .int 0, .ref h0_25, .ref h0_26, .int 0, .int 0, .ref h0_29, .ref h0_30, .ref h0_31, .ref h0_32, .int 0, .long 0, .long 0, .long 0, .long 0, .int 0, .ref h0_39, .ref h0_40, .int 0, .ref h0_42, .int 0, .ref h0_44, .ref h0_45, .int 0, .int 0, .int 0, .int 0, .int 0, .int 0])), (h0_2, .inl (cI, 35942, .inl (upd (upd (upd fr 20 v1) 21 v2) 22 v3)))]) rfl (fun hP hD hS => ?_))
  refine lv_aload_n hx hb dX12_addFour_26 rfl (lv_at hl 0 rfl) ?_
  refine va_get (D := G) (ci := 12) (v := .ref h0_2) (C := RX12) (T := TX12) (N := 52) hx hb hts cm_X12_addFour_20_0 hown hK hP 0 rfl rfl 2 (by decide) (hts _ (dmem (j := 0) rfl)) (fun _ h9 => h9) rfl dX12_addFour_27 ?_
  refine lv_iload_n hx hb dX12_addFour_30 rfl (lv_at hl 1 rfl) ?_
  refine lv_iconst (v := 3) hx hb dX12_addFour_31 (by decide) ?_
  refine lv_iadd hx hb dX12_addFour_32 ?_
  refine lv_topi (fun x3 ex3 => ?_)
  obtain rfl : 23 = x3 := (ex3.trans (by decide)).symm
  refine lv_iload hx hb dX12_addFour_33 (lv_at hl 5 rfl) ?_
  refine va_iast hx hb hK hP hD hS 1 0 rfl rfl (vp_in_iff.mpr (by decide)) dX12_addFour_35 (fun H locs => setW (ws' := [(h0, .inr (12, [.int 0, .int 0, .ref h0_2, .ref h0_3, .ref h0_4, .ref h0_5, .int 0, .int 0, .int 0, .ref h0_9, .ref h0_10, .ref h0_11, .int 0, .int 0, .int 0, .int 0, .long 0, .int (-1), .int 0, .int 0, .ref h0_20, .int 0, .ref h0_22, .ref h0_23, .int 0, .ref h0_25, .ref h0_26, .int 0, .int 0, .ref h0_29, .ref h0_30, .ref h0_31, .ref h0_32, .int 0, .long 0, .long 0, .long 0, .long 0, .int 0, .ref h0_39, .ref h0_40, .int 0, .ref h0_42, .int 0, .ref h0_44, .ref h0_45, .int 0, .int 0, .int 0, .int 0, .int 0, .int 0])), (h0_2, .inl (cI, 35942, .inl (upd (upd (upd (upd fr 20 v1) 21 v2) 22 v3) 23 v4)))]) rfl (fun hP hD hS => ?_))
  exact retV hx hb hr hlocks rfl hP hD hS (fun _ => 0) (fun _ _ => 0) [0, 1] (by decide +kernel) rfl dX12_addFour_36
def d_X12_addFour_24 : List Cond := [Cond.fieldLink RX12 8 "NoRentModel" "row" "[I"]
def v_X12_addFour_24 : List Cond := Cond.code yX12_addFour cX12_addFour 6 none :: (d_X12_addFour_24 ++ (wsX120 ++ ([] : List Cond)))
theorem cm_X12_addFour_24_0 : ∀ w ∈ wsX120, w ∈ v_X12_addFour_24 := fun _ h => List.mem_cons_of_mem _ (List.mem_append_right _ (List.mem_append_left _ h))
theorem gd_X12_addFour_24 : Gd v_X12_addFour_24 := gd_mk (by decide +kernel) (gd_app gd_X12 gd_nil)
set_option maxHeartbeats 4000000 in
set_option maxRecDepth 100000 in
theorem c_X12_addFour_24 (l : Launch) (G : va_G) (cI cJ cZ cD cR cT : ClassId) (h0 : Nat) (v1 : Int32) (v2 : Int32) (v3 : Int32) (v4 : Int32) (h0_2 : Nat) (h0_3 : Nat) (h0_4 : Nat) (h0_5 : Nat) (h0_9 : Nat) (h0_10 : Nat) (h0_11 : Nat) (h0_20 : Nat) (h0_22 : Nat) (h0_23 : Nat) (h0_25 : Nat) (h0_26 : Nat) (h0_29 : Nat) (h0_30 : Nat) (h0_31 : Nat) (h0_32 : Nat) (h0_39 : Nat) (h0_40 : Nat) (h0_42 : Nat) (h0_44 : Nat) (h0_45 : Nat) (fr : Nat → Int32) (sz : Nat) : Met l yX12_addFour v_X12_addFour_24 ({ frames := 1, cells := 0, slots := 0, locals := 40 }) (va_Pc [.ref h0, .int 24, .int v1, .int v2, .int v3, .int v4] (PreW G (tys6 cI cJ cZ cD cR cT) [(h0, .inr (12, [.int 0, .int 0, .ref h0_2, .ref h0_3, .ref h0_4, .ref h0_5, .int 0, .int 0, .int 0, .ref h0_9, .ref h0_10, .ref h0_11, .int 0, .int 0, .int 0, .int 0, .long 0, .int (-1), .int 0, .int 0, .ref h0_20, .int 0, .ref h0_22, .ref h0_23, .int 0, .ref h0_25, .ref h0_26, .int 0, .int 0, .ref h0_29, .ref h0_30, .ref h0_31, .ref h0_32, .int 0, .long 0, .long 0, .long 0, .long 0, .int 0, .ref h0_39, .ref h0_40, .int 0, .ref h0_42, .int 0, .ref h0_44, .ref h0_45, .int 0, .int 0, .int 0, .int 0, .int 0, .int 0])), (h0_2, .inl (cI, 35942, .inl fr))] sz)) (QW RV G (va_A [(h0, .inr (12, [.int 0, .int 0, .ref h0_2, .ref h0_3, .ref h0_4, .ref h0_5, .int 0, .int 0, .int 0, .ref h0_9, .ref h0_10, .ref h0_11, .int 0, .int 0, .int 0, .int 0, .long 0, .int (-1), .int 0, .int 0, .ref h0_20, .int 0, .ref h0_22, .ref h0_23, .int 0, .ref h0_25, .ref h0_26, .int 0, .int 0, .ref h0_29, .ref h0_30, .ref h0_31, .ref h0_32, .int 0, .long 0, .long 0, .long 0, .long 0, .int 0, .ref h0_39, .ref h0_40, .int 0, .ref h0_42, .int 0, .ref h0_44, .ref h0_45, .int 0, .int 0, .int 0, .int 0, .int 0, .int 0])), (h0_2, .inl (cI, 35942, .inl fr))] sz) (fun q g => [(h0, .inr (12, [.int 0, .int 0, .ref h0_2, .ref h0_3, .ref h0_4, .ref h0_5, .int 0, .int 0, .int 0, .ref h0_9, .ref h0_10, .ref h0_11, .int 0, .int 0, .int 0, .int 0, .long 0, .int (-1), .int 0, .int 0, .ref h0_20, .int 0, .ref h0_22, .ref h0_23, .int 0, .ref h0_25, .ref h0_26, .int 0, .int 0, .ref h0_29, .ref h0_30, .ref h0_31, .ref h0_32, .int 0, .long 0, .long 0, .long 0, .long 0, .int 0, .ref h0_39, .ref h0_40, .int 0, .ref h0_42, .int 0, .ref h0_44, .ref h0_45, .int 0, .int 0, .int 0, .int 0, .int 0, .int 0])), (h0_2, .inl (cI, 35942, .inl (upd (upd (upd (upd fr 24 v1) 25 v2) 26 v3) 27 v4)))])) 0 0 (va_A [(h0, .inr (12, [.int 0, .int 0, .ref h0_2, .ref h0_3, .ref h0_4, .ref h0_5, .int 0, .int 0, .int 0, .ref h0_9, .ref h0_10, .ref h0_11, .int 0, .int 0, .int 0, .int 0, .long 0, .int (-1), .int 0, .int 0, .ref h0_20, .int 0, .ref h0_22, .ref h0_23, .int 0, .ref h0_25, .ref h0_26, .int 0, .int 0, .ref h0_29, .ref h0_30, .ref h0_31, .ref h0_32, .int 0, .long 0, .long 0, .long 0, .long 0, .int 0, .ref h0_39, .ref h0_40, .int 0, .ref h0_42, .int 0, .ref h0_44, .ref h0_45, .int 0, .int 0, .int 0, .int 0, .int 0, .int 0])), (h0_2, .inl (cI, 35942, .inl fr))] sz) := by
  refine metW (cc := cX12_addFour) (maxL := 6) (ret := none) (by decide) rfl (Nat.le_of_ble_eq_true rfl) ?_
  intro p e s m below meth c A ls hx hb hr hml hown hts hlocks hin hKK hP hD hA hS hl
  have hK := hKK.1
  have hown : s.vm.findClass RX12 = some m.cls := hown
  have hl : lv_has ls 6 [(0, .ref h0), (1, .int 24), (2, .int v1), (3, .int v2), (4, .int v3), (5, .int v4)] := hl
  have hP : va_P G vwCl [(h0, .inr (12, [.int 0, .int 0, .ref h0_2, .ref h0_3, .ref h0_4, .ref h0_5, .int 0, .int 0, .int 0, .ref h0_9, .ref h0_10, .ref h0_11, .int 0, .int 0, .int 0, .int 0, .long 0, .int (-1), .int 0, .int 0, .ref h0_20, .int 0, .ref h0_22, .ref h0_23, .int 0, .ref h0_25, .ref h0_26, .int 0, .int 0, .ref h0_29, .ref h0_30, .ref h0_31, .ref h0_32, .int 0, .long 0, .long 0, .long 0, .long 0, .int 0, .ref h0_39, .ref h0_40, .int 0, .ref h0_42, .int 0, .ref h0_44, .ref h0_45, .int 0, .int 0, .int 0, .int 0, .int 0, .int 0])), (h0_2, .inl (cI, 35942, .inl fr))] s.heap := hP
  have hD : va_D A [(h0, .inr (12, [.int 0, .int 0, .ref h0_2, .ref h0_3, .ref h0_4, .ref h0_5, .int 0, .int 0, .int 0, .ref h0_9, .ref h0_10, .ref h0_11, .int 0, .int 0, .int 0, .int 0, .long 0, .int (-1), .int 0, .int 0, .ref h0_20, .int 0, .ref h0_22, .ref h0_23, .int 0, .ref h0_25, .ref h0_26, .int 0, .int 0, .ref h0_29, .ref h0_30, .ref h0_31, .ref h0_32, .int 0, .long 0, .long 0, .long 0, .long 0, .int 0, .ref h0_39, .ref h0_40, .int 0, .ref h0_42, .int 0, .ref h0_44, .ref h0_45, .int 0, .int 0, .int 0, .int 0, .int 0, .int 0])), (h0_2, .inl (cI, 35942, .inl fr))] := hD
  refine lv_aload_n hx hb dX12_addFour_0 rfl (lv_at hl 0 rfl) ?_
  refine va_get (D := G) (ci := 12) (v := .ref h0_2) (C := RX12) (T := TX12) (N := 52) hx hb hts cm_X12_addFour_24_0 hown hK hP 0 rfl rfl 2 (by decide) (hts _ (dmem (j := 0) rfl)) (fun _ h9 => h9) rfl dX12_addFour_1 ?_
  refine lv_iload_n hx hb dX12_addFour_4 rfl (lv_at hl 1 rfl) ?_
  refine lv_iload_n hx hb dX12_addFour_5 rfl (lv_at hl 2 rfl) ?_
  refine va_iast hx hb hK hP hD hS 1 0 rfl rfl (vp_in_iff.mpr (by decide)) dX12_addFour_6 (fun H locs => setW (ws' := [(h0, .inr (12, [.int 0, .int 0, .ref h0_2, .ref h0_3, .ref h0_4, .ref h0_5, .int 0, .int 0, .int 0, .ref h0_9, .ref h0_10, .ref h0_11, .int 0, .int 0, .int 0, .int 0, .long 0, .int (-1), .int 0, .int 0, .ref h0_20, .int 0, .ref h0_22, .ref h0_23, .int 0, .ref h0_25, .ref h0_26, .int 0, .int 0, .ref h0_29, .ref h0_30, .ref h0_31, .ref h0_32, .int 0, .long 0, .long 0, .long 0, .long 0, .int 0, .ref h0_39, .ref h0_40, .int 0, .ref h0_42, .int 0, .ref h0_44, .ref h0_45, .int 0, .int 0, .int 0, .int 0, .int 0, .int 0])), (h0_2, .inl (cI, 35942, .inl (upd fr 24 v1)))]) rfl (fun hP hD hS => ?_))
  refine lv_aload_n hx hb dX12_addFour_7 rfl (lv_at hl 0 rfl) ?_
  refine va_get (D := G) (ci := 12) (v := .ref h0_2) (C := RX12) (T := TX12) (N := 52) hx hb hts cm_X12_addFour_24_0 hown hK hP 0 rfl rfl 2 (by decide) (hts _ (dmem (j := 0) rfl)) (fun _ h9 => h9) rfl dX12_addFour_8 ?_
  refine lv_iload_n hx hb dX12_addFour_11 rfl (lv_at hl 1 rfl) ?_
  refine lv_iconst (v := 1) hx hb dX12_addFour_12 (by decide) ?_
  refine lv_iadd hx hb dX12_addFour_13 ?_
  refine lv_topi (fun x1 ex1 => ?_)
  obtain rfl : 25 = x1 := (ex1.trans (by decide)).symm
  refine lv_iload_n hx hb dX12_addFour_14 rfl (lv_at hl 3 rfl) ?_
  refine va_iast hx hb hK hP hD hS 1 0 rfl rfl (vp_in_iff.mpr (by decide)) dX12_addFour_15 (fun H locs => setW (ws' := [(h0, .inr (12, [.int 0, .int 0, .ref h0_2, .ref h0_3, .ref h0_4, .ref h0_5, .int 0, .int 0, .int 0, .ref h0_9, .ref h0_10, .ref h0_11, .int 0, .int 0, .int 0, .int 0, .long 0, .int (-1), .int 0, .int 0, .ref h0_20, .int 0, .ref h0_22, .ref h0_23, .int 0, .ref h0_25, .ref h0_26, .int 0, .int 0, .ref h0_29, .ref h0_30, .ref h0_31, .ref h0_32, .int 0, .long 0, .long 0, .long 0, .long 0, .int 0, .ref h0_39, .ref h0_40, .int 0, .ref h0_42, .int 0, .ref h0_44, .ref h0_45, .int 0, .int 0, .int 0, .int 0, .int 0, .int 0])), (h0_2, .inl (cI, 35942, .inl (upd (upd fr 24 v1) 25 v2)))]) rfl (fun hP hD hS => ?_))
  refine lv_aload_n hx hb dX12_addFour_16 rfl (lv_at hl 0 rfl) ?_
  refine va_get (D := G) (ci := 12) (v := .ref h0_2) (C := RX12) (T := TX12) (N := 52) hx hb hts cm_X12_addFour_24_0 hown hK hP 0 rfl rfl 2 (by decide) (hts _ (dmem (j := 0) rfl)) (fun _ h9 => h9) rfl dX12_addFour_17 ?_
  refine lv_iload_n hx hb dX12_addFour_20 rfl (lv_at hl 1 rfl) ?_
  refine lv_iconst (v := 2) hx hb dX12_addFour_21 (by decide) ?_
  refine lv_iadd hx hb dX12_addFour_22 ?_
  refine lv_topi (fun x2 ex2 => ?_)
  obtain rfl : 26 = x2 := (ex2.trans (by decide)).symm
  refine lv_iload hx hb dX12_addFour_23 (lv_at hl 4 rfl) ?_
  refine va_iast hx hb hK hP hD hS 1 0 rfl rfl (vp_in_iff.mpr (by decide)) dX12_addFour_25 (fun H locs => setW (ws' := [(h0, .inr (12, [.int 0, .int 0, .ref h0_2, .ref h0_3, .ref h0_4, .ref h0_5, .int 0, .int 0, .int 0, .ref h0_9, .ref h0_10, .ref h0_11, .int 0, .int 0, .int 0, .int 0, .long 0, .int (-1), .int 0, .int 0, .ref h0_20, .int 0, .ref h0_22, .ref h0_23, .int 0, .ref h0_25, .ref h0_26, .int 0, .int 0, .ref h0_29, .ref h0_30, .ref h0_31, .ref h0_32, .int 0, .long 0, .long 0, .long 0, .long 0, .int 0, .ref h0_39, .ref h0_40, .int 0, .ref h0_42, .int 0, .ref h0_44, .ref h0_45, .int 0, .int 0, .int 0, .int 0, .int 0, .int 0])), (h0_2, .inl (cI, 35942, .inl (upd (upd (upd fr 24 v1) 25 v2) 26 v3)))]) rfl (fun hP hD hS => ?_))
  refine lv_aload_n hx hb dX12_addFour_26 rfl (lv_at hl 0 rfl) ?_
  refine va_get (D := G) (ci := 12) (v := .ref h0_2) (C := RX12) (T := TX12) (N := 52) hx hb hts cm_X12_addFour_24_0 hown hK hP 0 rfl rfl 2 (by decide) (hts _ (dmem (j := 0) rfl)) (fun _ h9 => h9) rfl dX12_addFour_27 ?_
  refine lv_iload_n hx hb dX12_addFour_30 rfl (lv_at hl 1 rfl) ?_
  refine lv_iconst (v := 3) hx hb dX12_addFour_31 (by decide) ?_
  refine lv_iadd hx hb dX12_addFour_32 ?_
  refine lv_topi (fun x3 ex3 => ?_)
  obtain rfl : 27 = x3 := (ex3.trans (by decide)).symm
  refine lv_iload hx hb dX12_addFour_33 (lv_at hl 5 rfl) ?_
  refine va_iast hx hb hK hP hD hS 1 0 rfl rfl (vp_in_iff.mpr (by decide)) dX12_addFour_35 (fun H locs => setW (ws' := [(h0, .inr (12, [.int 0, .int 0, .ref h0_2, .ref h0_3, .ref h0_4, .ref h0_5, .int 0, .int 0, .int 0, .ref h0_9, .ref h0_10, .ref h0_11, .int 0, .int 0, .int 0, .int 0, .long 0, .int (-1), .int 0, .int 0, .ref h0_20, .int 0, .ref h0_22, .ref h0_23, .int 0, .ref h0_25, .ref h0_26, .int 0, .int 0, .ref h0_29, .ref h0_30, .ref h0_31, .ref h0_32, .int 0, .long 0, .long 0, .long 0, .long 0, .int 0, .ref h0_39, .ref h0_40, .int 0, .ref h0_42, .int 0, .ref h0_44, .ref h0_45, .int 0, .int 0, .int 0, .int 0, .int 0, .int 0])), (h0_2, .inl (cI, 35942, .inl (upd (upd (upd (upd fr 24 v1) 25 v2) 26 v3) 27 v4)))]) rfl (fun hP hD hS => ?_))
  exact retV hx hb hr hlocks rfl hP hD hS (fun _ => 0) (fun _ _ => 0) [0, 1] (by decide +kernel) rfl dX12_addFour_36
