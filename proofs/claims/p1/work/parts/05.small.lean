theorem dX11_within_0 : decode cX11_within 0 = .ok (.iload_n 0, 1) := by decide +kernel
theorem dX11_within_1 : decode cX11_within 1 = .ok (.iload_n 1, 1) := by decide +kernel
theorem dX11_within_2 : decode cX11_within 2 = .ok (.if_icmp .lt 12, 3) := by decide +kernel
theorem dX11_within_14 : decode cX11_within 14 = .ok (.iconst 0, 1) := by decide +kernel
theorem dX11_within_15 : decode cX11_within 15 = .ok (.ireturn, 1) := by decide +kernel
theorem dX11_within_5 : decode cX11_within 5 = .ok (.iload_n 0, 1) := by decide +kernel
theorem dX11_within_6 : decode cX11_within 6 = .ok (.iload_n 2, 1) := by decide +kernel
theorem dX11_within_7 : decode cX11_within 7 = .ok (.if_icmp .gt 7, 3) := by decide +kernel
theorem dX11_within_10 : decode cX11_within 10 = .ok (.iconst 1, 1) := by decide +kernel
theorem dX11_within_11 : decode cX11_within 11 = .ok (.goto 4, 3) := by decide +kernel
theorem dX11_isWeek_0 : decode cX11_isWeek 0 = .ok (.iload_n 0, 1) := by decide +kernel
theorem dX11_isWeek_1 : decode cX11_isWeek 1 = .ok (.ifCond .lt 14, 3) := by decide +kernel
theorem dX11_isWeek_15 : decode cX11_isWeek 15 = .ok (.iconst 0, 1) := by decide +kernel
theorem dX11_isWeek_16 : decode cX11_isWeek 16 = .ok (.ireturn, 1) := by decide +kernel
theorem dX11_isWeek_4 : decode cX11_isWeek 4 = .ok (.iload_n 0, 1) := by decide +kernel
theorem dX11_isWeek_5 : decode cX11_isWeek 5 = .ok (.sipush 399, 3) := by decide +kernel
theorem dX11_isWeek_8 : decode cX11_isWeek 8 = .ok (.if_icmp .gt 7, 3) := by decide +kernel
theorem dX11_isWeek_11 : decode cX11_isWeek 11 = .ok (.iconst 1, 1) := by decide +kernel
theorem dX11_isWeek_12 : decode cX11_isWeek 12 = .ok (.goto 4, 3) := by decide +kernel
theorem dX11_refuse_0 : decode cX11_refuse 0 = .ok (.aload_n 0, 1) := by decide +kernel
theorem dX11_refuse_1 : decode cX11_refuse 1 = .ok (.iload_n 1, 1) := by decide +kernel
theorem dX11_refuse_2 : decode cX11_refuse 2 = .ok (.putfield 356, 3) := by decide +kernel
theorem dX11_refuse_5 : decode cX11_refuse 5 = .ok (.iload_n 1, 1) := by decide +kernel
theorem dX11_refuse_6 : decode cX11_refuse 6 = .ok (.ireturn, 1) := by decide +kernel
theorem dX11_accept_0 : decode cX11_accept 0 = .ok (.aload_n 0, 1) := by decide +kernel
theorem dX11_accept_1 : decode cX11_accept 1 = .ok (.iconst 0, 1) := by decide +kernel
theorem dX11_accept_2 : decode cX11_accept 2 = .ok (.putfield 356, 3) := by decide +kernel
theorem dX11_accept_5 : decode cX11_accept 5 = .ok (.iload_n 1, 1) := by decide +kernel
theorem dX11_accept_6 : decode cX11_accept 6 = .ok (.ireturn, 1) := by decide +kernel
theorem dX4_has_0 : decode cX4_has 0 = .ok (.iload_n 1, 1) := by decide +kernel
theorem dX4_has_1 : decode cX4_has 1 = .ok (.ifCond .lt 15, 3) := by decide +kernel
theorem dX4_has_16 : decode cX4_has 16 = .ok (.iconst 0, 1) := by decide +kernel
theorem dX4_has_17 : decode cX4_has 17 = .ok (.ireturn, 1) := by decide +kernel
theorem dX4_has_4 : decode cX4_has 4 = .ok (.iload_n 1, 1) := by decide +kernel
theorem dX4_has_5 : decode cX4_has 5 = .ok (.aload_n 0, 1) := by decide +kernel
theorem dX4_has_6 : decode cX4_has 6 = .ok (.getfield 39, 3) := by decide +kernel
theorem dX4_has_9 : decode cX4_has 9 = .ok (.if_icmp .ge 7, 3) := by decide +kernel
theorem dX4_add_0 : decode cX4_add 0 = .ok (.aload_n 0, 1) := by decide +kernel
theorem dX4_add_1 : decode cX4_add 1 = .ok (.getfield 39, 3) := by decide +kernel
theorem dX4_add_4 : decode cX4_add 4 = .ok (.bipush 40, 2) := by decide +kernel
theorem dX4_add_6 : decode cX4_add 6 = .ok (.if_icmp .lt 5, 3) := by decide +kernel
theorem dX4_add_11 : decode cX4_add 11 = .ok (.aload_n 0, 1) := by decide +kernel
theorem dX4_add_12 : decode cX4_add 12 = .ok (.getfield 39, 3) := by decide +kernel
theorem dX4_add_15 : decode cX4_add 15 = .ok (.istore 4, 2) := by decide +kernel
theorem dX4_add_17 : decode cX4_add 17 = .ok (.aload_n 0, 1) := by decide +kernel
theorem dX4_add_18 : decode cX4_add 18 = .ok (.getfield 9, 3) := by decide +kernel
theorem dX4_add_21 : decode cX4_add 21 = .ok (.iload 4, 2) := by decide +kernel
theorem dX4_add_23 : decode cX4_add 23 = .ok (.iload_n 1, 1) := by decide +kernel
theorem dX4_add_24 : decode cX4_add 24 = .ok (.iastore, 1) := by decide +kernel
theorem dX4_add_25 : decode cX4_add 25 = .ok (.aload_n 0, 1) := by decide +kernel
theorem dX4_add_26 : decode cX4_add 26 = .ok (.getfield 15, 3) := by decide +kernel
theorem dX4_add_29 : decode cX4_add 29 = .ok (.iload 4, 2) := by decide +kernel
theorem dX4_add_31 : decode cX4_add 31 = .ok (.iload_n 2, 1) := by decide +kernel
theorem dX4_add_32 : decode cX4_add 32 = .ok (.iastore, 1) := by decide +kernel
theorem dX4_add_33 : decode cX4_add 33 = .ok (.aload_n 0, 1) := by decide +kernel
theorem dX4_add_34 : decode cX4_add 34 = .ok (.getfield 18, 3) := by decide +kernel
theorem dX4_add_37 : decode cX4_add 37 = .ok (.iload 4, 2) := by decide +kernel
theorem dX4_add_39 : decode cX4_add 39 = .ok (.iload_n 3, 1) := by decide +kernel
theorem dX4_add_40 : decode cX4_add 40 = .ok (.iastore, 1) := by decide +kernel
theorem dX4_add_41 : decode cX4_add 41 = .ok (.aload_n 0, 1) := by decide +kernel
theorem dX4_add_42 : decode cX4_add 42 = .ok (.getfield 21, 3) := by decide +kernel
theorem dX4_add_45 : decode cX4_add 45 = .ok (.iload 4, 2) := by decide +kernel
theorem dX4_add_47 : decode cX4_add 47 = .ok (.iconst (-1), 1) := by decide +kernel
theorem dX4_add_48 : decode cX4_add 48 = .ok (.iastore, 1) := by decide +kernel
theorem dX4_add_49 : decode cX4_add 49 = .ok (.aload_n 0, 1) := by decide +kernel
theorem dX4_add_50 : decode cX4_add 50 = .ok (.getfield 24, 3) := by decide +kernel
theorem dX4_add_53 : decode cX4_add 53 = .ok (.iload 4, 2) := by decide +kernel
theorem dX4_add_55 : decode cX4_add 55 = .ok (.iconst 0, 1) := by decide +kernel
theorem dX4_add_56 : decode cX4_add 56 = .ok (.iastore, 1) := by decide +kernel
theorem dX4_add_57 : decode cX4_add 57 = .ok (.aload_n 0, 1) := by decide +kernel
theorem dX4_add_58 : decode cX4_add 58 = .ok (.getfield 27, 3) := by decide +kernel
theorem dX4_add_61 : decode cX4_add 61 = .ok (.iload 4, 2) := by decide +kernel
theorem dX4_add_63 : decode cX4_add 63 = .ok (.iconst 0, 1) := by decide +kernel
theorem dX4_add_64 : decode cX4_add 64 = .ok (.iastore, 1) := by decide +kernel
theorem dX4_add_65 : decode cX4_add 65 = .ok (.aload_n 0, 1) := by decide +kernel
theorem dX4_add_66 : decode cX4_add 66 = .ok (.getfield 30, 3) := by decide +kernel
theorem dX4_add_69 : decode cX4_add 69 = .ok (.iload 4, 2) := by decide +kernel
theorem dX4_add_71 : decode cX4_add 71 = .ok (.iconst (-1), 1) := by decide +kernel
theorem dX4_add_72 : decode cX4_add 72 = .ok (.iastore, 1) := by decide +kernel
theorem dX4_add_73 : decode cX4_add 73 = .ok (.aload_n 0, 1) := by decide +kernel
theorem dX4_add_74 : decode cX4_add 74 = .ok (.getfield 33, 3) := by decide +kernel
theorem dX4_add_77 : decode cX4_add 77 = .ok (.iload 4, 2) := by decide +kernel
theorem dX4_add_79 : decode cX4_add 79 = .ok (.iconst 0, 1) := by decide +kernel
theorem dX4_add_80 : decode cX4_add 80 = .ok (.iastore, 1) := by decide +kernel
theorem dX4_add_81 : decode cX4_add 81 = .ok (.aload_n 0, 1) := by decide +kernel
theorem dX4_add_82 : decode cX4_add 82 = .ok (.dup, 1) := by decide +kernel
theorem dX4_add_83 : decode cX4_add 83 = .ok (.getfield 39, 3) := by decide +kernel
theorem dX4_add_86 : decode cX4_add 86 = .ok (.iconst 1, 1) := by decide +kernel
theorem dX4_add_87 : decode cX4_add 87 = .ok (.iadd, 1) := by decide +kernel
theorem dX4_add_88 : decode cX4_add 88 = .ok (.putfield 39, 3) := by decide +kernel
theorem dX4_add_91 : decode cX4_add 91 = .ok (.iload 4, 2) := by decide +kernel
theorem dX4_add_93 : decode cX4_add 93 = .ok (.ireturn, 1) := by decide +kernel
theorem dX11_person_0 : decode cX11_person 0 = .ok (.iload_n 1, 1) := by decide +kernel
theorem dX11_person_1 : decode cX11_person 1 = .ok (.iconst 0, 1) := by decide +kernel
theorem dX11_person_2 : decode cX11_person 2 = .ok (.bipush 19, 2) := by decide +kernel
theorem dX11_person_4 : decode cX11_person 4 = .ok (.invokestatic 54, 3) := by decide +kernel
theorem dX11_person_7 : decode cX11_person 7 = .ok (.ifCond .eq 23, 3) := by decide +kernel
theorem dX11_person_10 : decode cX11_person 10 = .ok (.iload_n 2, 1) := by decide +kernel
theorem dX11_person_11 : decode cX11_person 11 = .ok (.iconst 0, 1) := by decide +kernel
theorem dX11_person_12 : decode cX11_person 12 = .ok (.ldc 58, 2) := by decide +kernel
theorem dX11_person_14 : decode cX11_person 14 = .ok (.invokestatic 54, 3) := by decide +kernel
theorem dX11_person_17 : decode cX11_person 17 = .ok (.ifCond .eq 13, 3) := by decide +kernel
theorem dX11_person_20 : decode cX11_person 20 = .ok (.iload_n 3, 1) := by decide +kernel
theorem dX11_person_21 : decode cX11_person 21 = .ok (.iconst 0, 1) := by decide +kernel
theorem dX11_person_22 : decode cX11_person 22 = .ok (.bipush 100, 2) := by decide +kernel
theorem dX11_person_24 : decode cX11_person 24 = .ok (.invokestatic 54, 3) := by decide +kernel
theorem dX11_person_27 : decode cX11_person 27 = .ok (.ifCond .ne 9, 3) := by decide +kernel
theorem dX11_person_36 : decode cX11_person 36 = .ok (.aload_n 0, 1) := by decide +kernel
theorem dX11_person_37 : decode cX11_person 37 = .ok (.getfield 12, 3) := by decide +kernel
theorem dX11_person_40 : decode cX11_person 40 = .ok (.getfield 63, 3) := by decide +kernel
theorem dX11_person_43 : decode cX11_person 43 = .ok (.getfield 67, 3) := by decide +kernel
theorem dX11_person_46 : decode cX11_person 46 = .ok (.bipush 40, 2) := by decide +kernel
theorem dX11_person_48 : decode cX11_person 48 = .ok (.if_icmp .lt 10, 3) := by decide +kernel
theorem dX11_person_58 : decode cX11_person 58 = .ok (.aload_n 0, 1) := by decide +kernel
theorem dX11_person_59 : decode cX11_person 59 = .ok (.aload_n 0, 1) := by decide +kernel
theorem dX11_person_60 : decode cX11_person 60 = .ok (.getfield 12, 3) := by decide +kernel
theorem dX11_person_63 : decode cX11_person 63 = .ok (.getfield 63, 3) := by decide +kernel
theorem dX11_person_66 : decode cX11_person 66 = .ok (.iload_n 1, 1) := by decide +kernel
theorem dX11_person_67 : decode cX11_person 67 = .ok (.iload_n 2, 1) := by decide +kernel
theorem dX11_person_68 : decode cX11_person 68 = .ok (.iload_n 3, 1) := by decide +kernel
theorem dX11_person_69 : decode cX11_person 69 = .ok (.invokevirtual 73, 3) := by decide +kernel
theorem dX11_person_72 : decode cX11_person 72 = .ok (.invokevirtual 77, 3) := by decide +kernel
theorem dX11_person_75 : decode cX11_person 75 = .ok (.ireturn, 1) := by decide +kernel
theorem dX11_person_30 : decode cX11_person 30 = .ok (.aload_n 0, 1) := by decide +kernel
theorem dX11_person_31 : decode cX11_person 31 = .ok (.iconst (-1), 1) := by decide +kernel
theorem dX11_person_32 : decode cX11_person 32 = .ok (.invokevirtual 59, 3) := by decide +kernel
theorem dX11_person_35 : decode cX11_person 35 = .ok (.ireturn, 1) := by decide +kernel
theorem inX11_refuse_11 : ∀ w ∈ wsX110, w ∈ wsX11_refuse := fun _ h => List.mem_cons_of_mem _ (List.mem_append_right _ h)
theorem inX11_accept_11 : ∀ w ∈ wsX110, w ∈ wsX11_accept := fun _ h => List.mem_cons_of_mem _ (List.mem_append_right _ h)
theorem inX4_has_4 : ∀ w ∈ wsX40, w ∈ wsX4_has := fun _ h => List.mem_cons_of_mem _ (List.mem_append_right _ h)
theorem inX4_add_4 : ∀ w ∈ wsX40, w ∈ wsX4_add := fun _ h => List.mem_cons_of_mem _ (List.mem_append_right _ h)
theorem inX11_person_11 : ∀ w ∈ wsX110, w ∈ wsX11_person := fun _ h => List.mem_cons_of_mem _ (List.mem_append_left _ (List.mem_append_left _ (List.mem_append_right _ h)))
theorem inX11_person_0 : ∀ w ∈ wsX00, w ∈ wsX11_person := fun _ h => List.mem_cons_of_mem _ (List.mem_append_left _ (List.mem_append_right _ h))
theorem inX11_person_4 : ∀ w ∈ wsX40, w ∈ wsX11_person := fun _ h => List.mem_cons_of_mem _ (List.mem_append_right _ h)
set_option maxRecDepth 20000 in
theorem wdX11_refuse_f356 : (Cond.fieldLink RX11 356 "NoRent" "refusal" "I" : Cond) ∈ wsX11_refuse := by decide +kernel
set_option maxRecDepth 20000 in
theorem wdX11_accept_f356 : (Cond.fieldLink RX11 356 "NoRent" "refusal" "I" : Cond) ∈ wsX11_accept := by decide +kernel
set_option maxRecDepth 20000 in
theorem wdX4_has_f39 : (Cond.fieldLink RX4 39 "NoRent$People" "count" "I" : Cond) ∈ wsX4_has := by decide +kernel
set_option maxRecDepth 20000 in
theorem wdX4_add_f39 : (Cond.fieldLink RX4 39 "NoRent$People" "count" "I" : Cond) ∈ wsX4_add := by decide +kernel
set_option maxRecDepth 20000 in
theorem wdX4_add_f9 : (Cond.fieldLink RX4 9 "NoRent$People" "house" "[I" : Cond) ∈ wsX4_add := by decide +kernel
set_option maxRecDepth 20000 in
theorem wdX4_add_f15 : (Cond.fieldLink RX4 15 "NoRent$People" "coin" "[I" : Cond) ∈ wsX4_add := by decide +kernel
set_option maxRecDepth 20000 in
theorem wdX4_add_f18 : (Cond.fieldLink RX4 18 "NoRent$People" "fear" "[I" : Cond) ∈ wsX4_add := by decide +kernel
set_option maxRecDepth 20000 in
theorem wdX4_add_f21 : (Cond.fieldLink RX4 21 "NoRent$People" "heeds" "[I" : Cond) ∈ wsX4_add := by decide +kernel
set_option maxRecDepth 20000 in
theorem wdX4_add_f24 : (Cond.fieldLink RX4 24 "NoRent$People" "sacks" "[I" : Cond) ∈ wsX4_add := by decide +kernel
set_option maxRecDepth 20000 in
theorem wdX4_add_f27 : (Cond.fieldLink RX4 27 "NoRent$People" "state" "[I" : Cond) ∈ wsX4_add := by decide +kernel
set_option maxRecDepth 20000 in
theorem wdX4_add_f30 : (Cond.fieldLink RX4 30 "NoRent$People" "outSince" "[I" : Cond) ∈ wsX4_add := by decide +kernel
set_option maxRecDepth 20000 in
theorem wdX4_add_f33 : (Cond.fieldLink RX4 33 "NoRent$People" "banned" "[I" : Cond) ∈ wsX4_add := by decide +kernel
set_option maxRecDepth 20000 in
theorem wdX11_person_c58 : (Cond.constant RX11 58 (1000000) : Cond) ∈ wsX11_person := by decide +kernel
set_option maxRecDepth 20000 in
theorem wdX11_person_f12 : (Cond.fieldLink RX11 12 "NoRent" "county" "LNoRent$County;" : Cond) ∈ wsX11_person := by decide +kernel
set_option maxRecDepth 20000 in
theorem wdX11_person_f63 : (Cond.fieldLink RX11 63 "NoRent$County" "people" "LNoRent$People;" : Cond) ∈ wsX11_person := by decide +kernel
set_option maxRecDepth 20000 in
theorem wdX11_person_f67 : (Cond.fieldLink RX11 67 "NoRent$People" "count" "I" : Cond) ∈ wsX11_person := by decide +kernel
set_option maxRecDepth 20000 in
theorem ggX11_person_X11_within : GoodIn wsX11_person wsX11_within := goodIn_r _ [8] (by decide +kernel) (by decide +kernel)
set_option maxRecDepth 20000 in
theorem gX11_person_X11_within : GoodIn wsX11_person (va_wsS RX11 54 yX11_within wsX11_within) := goodIn_app (goodIn_of _ (by decide +kernel)) ggX11_person_X11_within
set_option maxRecDepth 20000 in
theorem ggX11_person_X4_add : GoodIn wsX11_person wsX4_add := goodIn_r _ [18, 19, 20, 21, 22, 23, 24, 25, 26, 27, 65, 66, 67, 68, 69, 70, 71, 72, 73, 74] (by decide +kernel) (by decide +kernel)
set_option maxRecDepth 20000 in
theorem gX11_person_X4_add : GoodIn wsX11_person (wsV RX11 73 RX4 yX4_add wsX4_add) := goodIn_app (goodIn_of _ (by decide +kernel)) ggX11_person_X4_add
set_option maxRecDepth 20000 in
theorem ggX11_person_X11_accept : GoodIn wsX11_person wsX11_accept := goodIn_r _ [31, 13, 32, 33, 34, 35, 36, 37, 38, 39, 40, 41, 42, 43, 44, 45, 46, 47] (by decide +kernel) (by decide +kernel)
set_option maxRecDepth 20000 in
theorem gX11_person_X11_accept : GoodIn wsX11_person (wsV RX11 77 RX11 yX11_accept wsX11_accept) := goodIn_app (goodIn_of _ (by decide +kernel)) ggX11_person_X11_accept
set_option maxRecDepth 20000 in
theorem ggX11_person_X11_refuse : GoodIn wsX11_person wsX11_refuse := goodIn_r _ [12, 13, 32, 33, 34, 35, 36, 37, 38, 39, 40, 41, 42, 43, 44, 45, 46, 47] (by decide +kernel) (by decide +kernel)
set_option maxRecDepth 20000 in
theorem gX11_person_X11_refuse : GoodIn wsX11_person (wsV RX11 59 RX11 yX11_refuse wsX11_refuse) := goodIn_app (goodIn_of _ (by decide +kernel)) ggX11_person_X11_refuse
set_option maxHeartbeats 4000000 in
set_option maxRecDepth 100000 in
theorem c_X11_within (l : Launch) (G : va_G) (cI cJ cZ cD cR cT : ClassId) (x : Int32) (lo : Int32) (hi : Int32) (X : Int) (L : Int) (U : Int) (sz : Nat) (hX : x.toInt = X) (hL : lo.toInt = L) (hU : hi.toInt = U) : Met l yX11_within wsX11_within ({ frames := 1, cells := 0, slots := 0, locals := 40 }) (va_Pc [.int x, .int lo, .int hi] (PreW G (tys6 cI cJ cZ cD cR cT) [] sz)) (QW (RI (fun r => (r = 1 ∧ (L ≤ X ∧ X ≤ U)) ∨ (r = 0 ∧ (X < L ∨ U < X)))) G (va_A [] sz) (fun q g => [])) 0 0 (va_A [] sz) := by
  refine metW (cc := cX11_within) (maxL := 3) (ret := (some .boolean)) (by decide) rfl (Nat.le_of_ble_eq_true rfl) ?_
  intro p e s m below meth c A ls hx hb hr hml hown hts hlocks hin hKK hP hD hA hS hl
  have hK := hKK.1
  have hown : s.vm.findClass RX11 = some m.cls := hown
  have hl : lv_has ls 3 [(0, .int x), (1, .int lo), (2, .int hi)] := hl
  have hP : va_P G vwCl [] s.heap := hP
  have hD : va_D A [] := hD
  refine lv_iload_n hx hb dX11_within_0 rfl (lv_at hl 0 rfl) ?_
  refine lv_iload_n hx hb dX11_within_1 rfl (lv_at hl 1 rfl) ?_
  refine lv_icmp_lt (tgt := 14) hx hb dX11_within_2 (by decide) (fun c1 => ?_) (fun c1 => ?_)
  · have f2 : (x.toInt : Int) < lo.toInt := Int32.lt_iff_toInt_lt.mp c1
    refine lv_iconst (v := 0) hx hb dX11_within_14 (by decide) ?_
    exact retZ hx hb hr hlocks (by decide) ⟨_, rfl, Or.inr (⟨rfl, by omega⟩)⟩ hP hD hS (fun _ => 0) (fun _ _ => 0) [] (by decide +kernel) rfl dX11_within_15
  · have f3 : ¬ ((x.toInt : Int) < lo.toInt) := fun h => c1 (Int32.lt_iff_toInt_lt.mpr h)
    refine lv_iload_n hx hb dX11_within_5 rfl (lv_at hl 0 rfl) ?_
    refine lv_iload_n hx hb dX11_within_6 rfl (lv_at hl 2 rfl) ?_
    refine lv_icmp_gt (tgt := 14) hx hb dX11_within_7 (by decide) (fun c4 => ?_) (fun c4 => ?_)
    · have f5 : (hi.toInt : Int) < x.toInt := Int32.lt_iff_toInt_lt.mp c4
      refine lv_iconst (v := 0) hx hb dX11_within_14 (by decide) ?_
      exact retZ hx hb hr hlocks (by decide) ⟨_, rfl, Or.inr (⟨rfl, by omega⟩)⟩ hP hD hS (fun _ => 0) (fun _ _ => 0) [] (by decide +kernel) rfl dX11_within_15
    · have f6 : ¬ ((hi.toInt : Int) < x.toInt) := fun h => c4 (Int32.lt_iff_toInt_lt.mpr h)
      refine lv_iconst (v := 1) hx hb dX11_within_10 (by decide) ?_
      refine lv_goto (tgt := 15) hx hb dX11_within_11 (by decide) ?_
      exact retZ hx hb hr hlocks (by decide) ⟨_, rfl, Or.inl ⟨rfl, by omega⟩⟩ hP hD hS (fun _ => 0) (fun _ _ => 0) [] (by decide +kernel) rfl dX11_within_15
set_option maxHeartbeats 4000000 in
set_option maxRecDepth 100000 in
theorem c_X11_isWeek (l : Launch) (G : va_G) (cI cJ cZ cD cR cT : ClassId) (x : Int32) (X : Int) (sz : Nat) (hX : x.toInt = X) : Met l yX11_isWeek wsX11_isWeek ({ frames := 1, cells := 0, slots := 0, locals := 40 }) (va_Pc [.int x] (PreW G (tys6 cI cJ cZ cD cR cT) [] sz)) (QW (RI (fun r => (r = 1 ∧ (0 ≤ X ∧ X ≤ 399)) ∨ (r = 0 ∧ (X < 0 ∨ 399 < X)))) G (va_A [] sz) (fun q g => [])) 0 0 (va_A [] sz) := by
  refine metW (cc := cX11_isWeek) (maxL := 1) (ret := (some .boolean)) (by decide) rfl (Nat.le_of_ble_eq_true rfl) ?_
  intro p e s m below meth c A ls hx hb hr hml hown hts hlocks hin hKK hP hD hA hS hl
  have hK := hKK.1
  have hown : s.vm.findClass RX11 = some m.cls := hown
  have hl : lv_has ls 1 [(0, .int x)] := hl
  have hP : va_P G vwCl [] s.heap := hP
  have hD : va_D A [] := hD
  refine lv_iload_n hx hb dX11_isWeek_0 rfl (lv_at hl 0 rfl) ?_
  refine lv_if_lt (tgt := 15) hx hb dX11_isWeek_1 (by decide) (fun c1 => ?_) (fun c1 => ?_)
  · have f2 : (x.toInt : Int) < 0 := Int32.lt_iff_toInt_lt.mp c1
    refine lv_iconst (v := 0) hx hb dX11_isWeek_15 (by decide) ?_
    exact retZ hx hb hr hlocks (by decide) ⟨_, rfl, Or.inr (⟨rfl, by omega⟩)⟩ hP hD hS (fun _ => 0) (fun _ _ => 0) [] (by decide +kernel) rfl dX11_isWeek_16
  · have f3 : ¬ ((x.toInt : Int) < 0) := fun h => c1 (Int32.lt_iff_toInt_lt.mpr h)
    refine lv_iload_n hx hb dX11_isWeek_4 rfl (lv_at hl 0 rfl) ?_
    refine lv_sipush (v := 399) hx hb dX11_isWeek_5 (by decide) ?_
    refine lv_icmp_gt (tgt := 15) hx hb dX11_isWeek_8 (by decide) (fun c4 => ?_) (fun c4 => ?_)
    · have f5 : (399 : Int) < x.toInt := Int32.lt_iff_toInt_lt.mp c4
      refine lv_iconst (v := 0) hx hb dX11_isWeek_15 (by decide) ?_
      exact retZ hx hb hr hlocks (by decide) ⟨_, rfl, Or.inr (⟨rfl, by omega⟩)⟩ hP hD hS (fun _ => 0) (fun _ _ => 0) [] (by decide +kernel) rfl dX11_isWeek_16
    · have f6 : ¬ ((399 : Int) < x.toInt) := fun h => c4 (Int32.lt_iff_toInt_lt.mpr h)
      refine lv_iconst (v := 1) hx hb dX11_isWeek_11 (by decide) ?_
      refine lv_goto (tgt := 16) hx hb dX11_isWeek_12 (by decide) ?_
      exact retZ hx hb hr hlocks (by decide) ⟨_, rfl, Or.inl ⟨rfl, by omega⟩⟩ hP hD hS (fun _ => 0) (fun _ _ => 0) [] (by decide +kernel) rfl dX11_isWeek_16
set_option maxHeartbeats 4000000 in
set_option maxRecDepth 100000 in
theorem c_X11_refuse (l : Launch) (G : va_G) (cI cJ cZ cD cR cT : ClassId) (h0 : Nat) (why : Int32) (h0_0 : Nat) (h0_1 : Nat) (h0_2 : Nat) (h0_3 : Nat) (v4 : Int32) (v5 : Int32) (h0_6 : Nat) (h0_7 : Nat) (h0_8 : Nat) (v9 : Int32) (h0_10 : Nat) (h0_11 : Nat) (v12 : Int32) (h0_13 : Nat) (v14 : Int32) (v15 : Int32) (sz : Nat) : Met l yX11_refuse wsX11_refuse ({ frames := 1, cells := 0, slots := 0, locals := 40 }) (va_Pc [.ref h0, .int why] (PreW G (tys6 cI cJ cZ cD cR cT) [(h0, .inr (11, [.ref h0_0, .ref h0_1, .ref h0_2, .ref h0_3, .int v4, .int v5, .ref h0_6, .ref h0_7, .ref h0_8, .int v9, .ref h0_10, .ref h0_11, .int v12, .ref h0_13, .int v14, .int v15]))] sz)) (QW (RI (fun r => r = why)) G (va_A [(h0, .inr (11, [.ref h0_0, .ref h0_1, .ref h0_2, .ref h0_3, .int v4, .int v5, .ref h0_6, .ref h0_7, .ref h0_8, .int v9, .ref h0_10, .ref h0_11, .int v12, .ref h0_13, .int v14, .int v15]))] sz) (fun q g => [(h0, .inr (11, [.ref h0_0, .ref h0_1, .ref h0_2, .ref h0_3, .int v4, .int v5, .ref h0_6, .ref h0_7, .ref h0_8, .int v9, .ref h0_10, .ref h0_11, .int v12, .ref h0_13, .int v14, .int why]))])) 0 0 (va_A [(h0, .inr (11, [.ref h0_0, .ref h0_1, .ref h0_2, .ref h0_3, .int v4, .int v5, .ref h0_6, .ref h0_7, .ref h0_8, .int v9, .ref h0_10, .ref h0_11, .int v12, .ref h0_13, .int v14, .int v15]))] sz) := by
  refine metW (cc := cX11_refuse) (maxL := 2) (ret := (some .int)) (by decide) rfl (Nat.le_of_ble_eq_true rfl) ?_
  intro p e s m below meth c A ls hx hb hr hml hown hts hlocks hin hKK hP hD hA hS hl
  have hK := hKK.1
  have hown : s.vm.findClass RX11 = some m.cls := hown
  have hl : lv_has ls 2 [(0, .ref h0), (1, .int why)] := hl
  have hP : va_P G vwCl [(h0, .inr (11, [.ref h0_0, .ref h0_1, .ref h0_2, .ref h0_3, .int v4, .int v5, .ref h0_6, .ref h0_7, .ref h0_8, .int v9, .ref h0_10, .ref h0_11, .int v12, .ref h0_13, .int v14, .int v15]))] s.heap := hP
  have hD : va_D A [(h0, .inr (11, [.ref h0_0, .ref h0_1, .ref h0_2, .ref h0_3, .int v4, .int v5, .ref h0_6, .ref h0_7, .ref h0_8, .int v9, .ref h0_10, .ref h0_11, .int v12, .ref h0_13, .int v14, .int v15]))] := hD
  refine lv_aload_n hx hb dX11_refuse_0 rfl (lv_at hl 0 rfl) ?_
  refine lv_iload_n hx hb dX11_refuse_1 rfl (lv_at hl 1 rfl) ?_
  refine va_put (D := G) (ci := 11) (v := .int why) (ty := .int) (C := RX11) (T := TX11) (N := 16) hx hb hts inX11_refuse_11 tyX11 tyX11_ok nmX11 hown hK hP hD hS 0 rfl rfl 15 (by decide) (hts _ wdX11_refuse_f356) (fun _ h9 => h9) rfl (by decide +kernel) rfl rfl (Nat.le_of_ble_eq_true rfl) dX11_refuse_2 (fun H locs => setW (ws' := [(h0, .inr (11, [.ref h0_0, .ref h0_1, .ref h0_2, .ref h0_3, .int v4, .int v5, .ref h0_6, .ref h0_7, .ref h0_8, .int v9, .ref h0_10, .ref h0_11, .int v12, .ref h0_13, .int v14, .int why]))]) rfl (fun hP hD hS => ?_))
  refine lv_iload_n hx hb dX11_refuse_5 rfl (lv_at hl 1 rfl) ?_
  exact retI hx hb hr hlocks ⟨_, rfl, rfl⟩ hP hD hS (fun _ => 0) (fun _ _ => 0) [0] (by decide +kernel) rfl dX11_refuse_6
set_option maxHeartbeats 4000000 in
set_option maxRecDepth 100000 in
theorem c_X11_accept (l : Launch) (G : va_G) (cI cJ cZ cD cR cT : ClassId) (h0 : Nat) (ans : Int32) (h0_0 : Nat) (h0_1 : Nat) (h0_2 : Nat) (h0_3 : Nat) (v4 : Int32) (v5 : Int32) (h0_6 : Nat) (h0_7 : Nat) (h0_8 : Nat) (v9 : Int32) (h0_10 : Nat) (h0_11 : Nat) (v12 : Int32) (h0_13 : Nat) (v14 : Int32) (v15 : Int32) (sz : Nat) : Met l yX11_accept wsX11_accept ({ frames := 1, cells := 0, slots := 0, locals := 40 }) (va_Pc [.ref h0, .int ans] (PreW G (tys6 cI cJ cZ cD cR cT) [(h0, .inr (11, [.ref h0_0, .ref h0_1, .ref h0_2, .ref h0_3, .int v4, .int v5, .ref h0_6, .ref h0_7, .ref h0_8, .int v9, .ref h0_10, .ref h0_11, .int v12, .ref h0_13, .int v14, .int v15]))] sz)) (QW (RI (fun r => r = ans)) G (va_A [(h0, .inr (11, [.ref h0_0, .ref h0_1, .ref h0_2, .ref h0_3, .int v4, .int v5, .ref h0_6, .ref h0_7, .ref h0_8, .int v9, .ref h0_10, .ref h0_11, .int v12, .ref h0_13, .int v14, .int v15]))] sz) (fun q g => [(h0, .inr (11, [.ref h0_0, .ref h0_1, .ref h0_2, .ref h0_3, .int v4, .int v5, .ref h0_6, .ref h0_7, .ref h0_8, .int v9, .ref h0_10, .ref h0_11, .int v12, .ref h0_13, .int v14, .int 0]))])) 0 0 (va_A [(h0, .inr (11, [.ref h0_0, .ref h0_1, .ref h0_2, .ref h0_3, .int v4, .int v5, .ref h0_6, .ref h0_7, .ref h0_8, .int v9, .ref h0_10, .ref h0_11, .int v12, .ref h0_13, .int v14, .int v15]))] sz) := by
  refine metW (cc := cX11_accept) (maxL := 2) (ret := (some .int)) (by decide) rfl (Nat.le_of_ble_eq_true rfl) ?_
  intro p e s m below meth c A ls hx hb hr hml hown hts hlocks hin hKK hP hD hA hS hl
  have hK := hKK.1
  have hown : s.vm.findClass RX11 = some m.cls := hown
  have hl : lv_has ls 2 [(0, .ref h0), (1, .int ans)] := hl
  have hP : va_P G vwCl [(h0, .inr (11, [.ref h0_0, .ref h0_1, .ref h0_2, .ref h0_3, .int v4, .int v5, .ref h0_6, .ref h0_7, .ref h0_8, .int v9, .ref h0_10, .ref h0_11, .int v12, .ref h0_13, .int v14, .int v15]))] s.heap := hP
  have hD : va_D A [(h0, .inr (11, [.ref h0_0, .ref h0_1, .ref h0_2, .ref h0_3, .int v4, .int v5, .ref h0_6, .ref h0_7, .ref h0_8, .int v9, .ref h0_10, .ref h0_11, .int v12, .ref h0_13, .int v14, .int v15]))] := hD
  refine lv_aload_n hx hb dX11_accept_0 rfl (lv_at hl 0 rfl) ?_
  refine lv_iconst (v := 0) hx hb dX11_accept_1 (by decide) ?_
  refine va_put (D := G) (ci := 11) (v := .int 0) (ty := .int) (C := RX11) (T := TX11) (N := 16) hx hb hts inX11_accept_11 tyX11 tyX11_ok nmX11 hown hK hP hD hS 0 rfl rfl 15 (by decide) (hts _ wdX11_accept_f356) (fun _ h9 => h9) rfl (by decide +kernel) rfl rfl (Nat.le_of_ble_eq_true rfl) dX11_accept_2 (fun H locs => setW (ws' := [(h0, .inr (11, [.ref h0_0, .ref h0_1, .ref h0_2, .ref h0_3, .int v4, .int v5, .ref h0_6, .ref h0_7, .ref h0_8, .int v9, .ref h0_10, .ref h0_11, .int v12, .ref h0_13, .int v14, .int 0]))]) rfl (fun hP hD hS => ?_))
  refine lv_iload_n hx hb dX11_accept_5 rfl (lv_at hl 1 rfl) ?_
  exact retI hx hb hr hlocks ⟨_, rfl, rfl⟩ hP hD hS (fun _ => 0) (fun _ _ => 0) [0] (by decide +kernel) rfl dX11_accept_6
set_option maxHeartbeats 4000000 in
set_option maxRecDepth 100000 in
theorem c_X4_has (l : Launch) (G : va_G) (cI cJ cZ cD cR cT : ClassId) (h0 : Nat) (x : Int32) (h0_1 : Nat) (h0_2 : Nat) (h0_3 : Nat) (h0_4 : Nat) (h0_5 : Nat) (h0_6 : Nat) (h0_7 : Nat) (h0_8 : Nat) (h0_9 : Nat) (sz : Nat) : Met l yX4_has wsX4_has ({ frames := 1, cells := 0, slots := 0, locals := 40 }) (va_Pc [.ref h0, .int x] (PreW G (tys6 cI cJ cZ cD cR cT) [(h0, .inr (4, [.int 0, .ref h0_1, .ref h0_2, .ref h0_3, .ref h0_4, .ref h0_5, .ref h0_6, .ref h0_7, .ref h0_8, .ref h0_9])), (h0_1, .inl (cI, 40, .inl (fun _ => 0))), (h0_2, .inl (cI, 40, .inl (fun _ => 0))), (h0_3, .inl (cI, 40, .inl (fun _ => 0))), (h0_4, .inl (cI, 40, .inl (fun _ => 0))), (h0_5, .inl (cI, 40, .inl (fun _ => 0))), (h0_6, .inl (cI, 40, .inl (fun _ => 0))), (h0_7, .inl (cI, 40, .inl (fun _ => 0))), (h0_8, .inl (cI, 40, .inl (fun _ => 0))), (h0_9, .inl (cI, 40, .inl (fun _ => 0)))] sz)) (QW (RI (fun r => r = 0)) G (va_A [(h0, .inr (4, [.int 0, .ref h0_1, .ref h0_2, .ref h0_3, .ref h0_4, .ref h0_5, .ref h0_6, .ref h0_7, .ref h0_8, .ref h0_9])), (h0_1, .inl (cI, 40, .inl (fun _ => 0))), (h0_2, .inl (cI, 40, .inl (fun _ => 0))), (h0_3, .inl (cI, 40, .inl (fun _ => 0))), (h0_4, .inl (cI, 40, .inl (fun _ => 0))), (h0_5, .inl (cI, 40, .inl (fun _ => 0))), (h0_6, .inl (cI, 40, .inl (fun _ => 0))), (h0_7, .inl (cI, 40, .inl (fun _ => 0))), (h0_8, .inl (cI, 40, .inl (fun _ => 0))), (h0_9, .inl (cI, 40, .inl (fun _ => 0)))] sz) (fun q g => [(h0, .inr (4, [.int 0, .ref h0_1, .ref h0_2, .ref h0_3, .ref h0_4, .ref h0_5, .ref h0_6, .ref h0_7, .ref h0_8, .ref h0_9])), (h0_1, .inl (cI, 40, .inl (fun _ => 0))), (h0_2, .inl (cI, 40, .inl (fun _ => 0))), (h0_3, .inl (cI, 40, .inl (fun _ => 0))), (h0_4, .inl (cI, 40, .inl (fun _ => 0))), (h0_5, .inl (cI, 40, .inl (fun _ => 0))), (h0_6, .inl (cI, 40, .inl (fun _ => 0))), (h0_7, .inl (cI, 40, .inl (fun _ => 0))), (h0_8, .inl (cI, 40, .inl (fun _ => 0))), (h0_9, .inl (cI, 40, .inl (fun _ => 0)))])) 0 0 (va_A [(h0, .inr (4, [.int 0, .ref h0_1, .ref h0_2, .ref h0_3, .ref h0_4, .ref h0_5, .ref h0_6, .ref h0_7, .ref h0_8, .ref h0_9])), (h0_1, .inl (cI, 40, .inl (fun _ => 0))), (h0_2, .inl (cI, 40, .inl (fun _ => 0))), (h0_3, .inl (cI, 40, .inl (fun _ => 0))), (h0_4, .inl (cI, 40, .inl (fun _ => 0))), (h0_5, .inl (cI, 40, .inl (fun _ => 0))), (h0_6, .inl (cI, 40, .inl (fun _ => 0))), (h0_7, .inl (cI, 40, .inl (fun _ => 0))), (h0_8, .inl (cI, 40, .inl (fun _ => 0))), (h0_9, .inl (cI, 40, .inl (fun _ => 0)))] sz) := by
  refine metW (cc := cX4_has) (maxL := 2) (ret := (some .boolean)) (by decide) rfl (Nat.le_of_ble_eq_true rfl) ?_
  intro p e s m below meth c A ls hx hb hr hml hown hts hlocks hin hKK hP hD hA hS hl
  have hK := hKK.1
  have hown : s.vm.findClass RX4 = some m.cls := hown
  have hl : lv_has ls 2 [(0, .ref h0), (1, .int x)] := hl
  have hP : va_P G vwCl [(h0, .inr (4, [.int 0, .ref h0_1, .ref h0_2, .ref h0_3, .ref h0_4, .ref h0_5, .ref h0_6, .ref h0_7, .ref h0_8, .ref h0_9])), (h0_1, .inl (cI, 40, .inl (fun _ => 0))), (h0_2, .inl (cI, 40, .inl (fun _ => 0))), (h0_3, .inl (cI, 40, .inl (fun _ => 0))), (h0_4, .inl (cI, 40, .inl (fun _ => 0))), (h0_5, .inl (cI, 40, .inl (fun _ => 0))), (h0_6, .inl (cI, 40, .inl (fun _ => 0))), (h0_7, .inl (cI, 40, .inl (fun _ => 0))), (h0_8, .inl (cI, 40, .inl (fun _ => 0))), (h0_9, .inl (cI, 40, .inl (fun _ => 0)))] s.heap := hP
  have hD : va_D A [(h0, .inr (4, [.int 0, .ref h0_1, .ref h0_2, .ref h0_3, .ref h0_4, .ref h0_5, .ref h0_6, .ref h0_7, .ref h0_8, .ref h0_9])), (h0_1, .inl (cI, 40, .inl (fun _ => 0))), (h0_2, .inl (cI, 40, .inl (fun _ => 0))), (h0_3, .inl (cI, 40, .inl (fun _ => 0))), (h0_4, .inl (cI, 40, .inl (fun _ => 0))), (h0_5, .inl (cI, 40, .inl (fun _ => 0))), (h0_6, .inl (cI, 40, .inl (fun _ => 0))), (h0_7, .inl (cI, 40, .inl (fun _ => 0))), (h0_8, .inl (cI, 40, .inl (fun _ => 0))), (h0_9, .inl (cI, 40, .inl (fun _ => 0)))] := hD
  refine lv_iload_n hx hb dX4_has_0 rfl (lv_at hl 1 rfl) ?_
  refine lv_if_lt (tgt := 16) hx hb dX4_has_1 (by decide) (fun c1 => ?_) (fun c1 => ?_)
  · have f2 : (x.toInt : Int) < 0 := Int32.lt_iff_toInt_lt.mp c1
    refine lv_iconst (v := 0) hx hb dX4_has_16 (by decide) ?_
    exact retZ hx hb hr hlocks (by decide) ⟨_, rfl, rfl⟩ hP hD hS (fun _ => 0) (fun _ _ => 0) [0, 1, 2, 3, 4, 5, 6, 7, 8, 9] (by decide +kernel) rfl dX4_has_17
  · have f3 : ¬ ((x.toInt : Int) < 0) := fun h => c1 (Int32.lt_iff_toInt_lt.mpr h)
    refine lv_iload_n hx hb dX4_has_4 rfl (lv_at hl 1 rfl) ?_
    refine lv_aload_n hx hb dX4_has_5 rfl (lv_at hl 0 rfl) ?_
    refine va_get (D := G) (ci := 4) (v := .int 0) (C := RX4) (T := TX4) (N := 10) hx hb hts inX4_has_4 hown hK hP 0 rfl rfl 0 (by decide) (hts _ wdX4_has_f39) (fun _ h9 => h9) rfl dX4_has_6 ?_
    refine lv_icmp_ge (tgt := 16) hx hb dX4_has_9 (by decide) (fun c4 => ?_) (fun c4 => ?_)
    · have f5 : (0 : Int) ≤ x.toInt := Int32.le_iff_toInt_le.mp c4
      refine lv_iconst (v := 0) hx hb dX4_has_16 (by decide) ?_
      exact retZ hx hb hr hlocks (by decide) ⟨_, rfl, rfl⟩ hP hD hS (fun _ => 0) (fun _ _ => 0) [0, 1, 2, 3, 4, 5, 6, 7, 8, 9] (by decide +kernel) rfl dX4_has_17
    · have f6 : ¬ ((0 : Int) ≤ x.toInt) := fun h => c4 (Int32.le_iff_toInt_le.mpr h)
      exfalso; omega
set_option maxHeartbeats 4000000 in
set_option maxRecDepth 100000 in
theorem c_X4_add (l : Launch) (G : va_G) (cI cJ cZ cD cR cT : ClassId) (h0 : Nat) (u1 : Int32) (u2 : Int32) (u3 : Int32) (h0_1 : Nat) (h0_2 : Nat) (h0_3 : Nat) (h0_4 : Nat) (h0_5 : Nat) (h0_6 : Nat) (h0_7 : Nat) (h0_8 : Nat) (h0_9 : Nat) (sz : Nat) : Met l yX4_add wsX4_add ({ frames := 1, cells := 0, slots := 0, locals := 40 }) (va_Pc [.ref h0, .int u1, .int u2, .int u3] (PreW G (tys6 cI cJ cZ cD cR cT) [(h0, .inr (4, [.int 0, .ref h0_1, .ref h0_2, .ref h0_3, .ref h0_4, .ref h0_5, .ref h0_6, .ref h0_7, .ref h0_8, .ref h0_9])), (h0_1, .inl (cI, 40, .inl (fun _ => 0))), (h0_2, .inl (cI, 40, .inl (fun _ => 0))), (h0_3, .inl (cI, 40, .inl (fun _ => 0))), (h0_4, .inl (cI, 40, .inl (fun _ => 0))), (h0_5, .inl (cI, 40, .inl (fun _ => 0))), (h0_6, .inl (cI, 40, .inl (fun _ => 0))), (h0_7, .inl (cI, 40, .inl (fun _ => 0))), (h0_8, .inl (cI, 40, .inl (fun _ => 0)))] sz)) (QW (RI (fun r => r = 0)) G (va_A [(h0, .inr (4, [.int 0, .ref h0_1, .ref h0_2, .ref h0_3, .ref h0_4, .ref h0_5, .ref h0_6, .ref h0_7, .ref h0_8, .ref h0_9])), (h0_1, .inl (cI, 40, .inl (fun _ => 0))), (h0_2, .inl (cI, 40, .inl (fun _ => 0))), (h0_3, .inl (cI, 40, .inl (fun _ => 0))), (h0_4, .inl (cI, 40, .inl (fun _ => 0))), (h0_5, .inl (cI, 40, .inl (fun _ => 0))), (h0_6, .inl (cI, 40, .inl (fun _ => 0))), (h0_7, .inl (cI, 40, .inl (fun _ => 0))), (h0_8, .inl (cI, 40, .inl (fun _ => 0)))] sz) (fun q g => [])) 0 0 (va_A [(h0, .inr (4, [.int 0, .ref h0_1, .ref h0_2, .ref h0_3, .ref h0_4, .ref h0_5, .ref h0_6, .ref h0_7, .ref h0_8, .ref h0_9])), (h0_1, .inl (cI, 40, .inl (fun _ => 0))), (h0_2, .inl (cI, 40, .inl (fun _ => 0))), (h0_3, .inl (cI, 40, .inl (fun _ => 0))), (h0_4, .inl (cI, 40, .inl (fun _ => 0))), (h0_5, .inl (cI, 40, .inl (fun _ => 0))), (h0_6, .inl (cI, 40, .inl (fun _ => 0))), (h0_7, .inl (cI, 40, .inl (fun _ => 0))), (h0_8, .inl (cI, 40, .inl (fun _ => 0)))] sz) := by
  refine metW (cc := cX4_add) (maxL := 5) (ret := (some .int)) (by decide) rfl (Nat.le_of_ble_eq_true rfl) ?_
  intro p e s m below meth c A ls hx hb hr hml hown hts hlocks hin hKK hP hD hA hS hl
  have hK := hKK.1
  have hown : s.vm.findClass RX4 = some m.cls := hown
  have hl : lv_has ls 5 [(0, .ref h0), (1, .int u1), (2, .int u2), (3, .int u3)] := hl
  have hP : va_P G vwCl [(h0, .inr (4, [.int 0, .ref h0_1, .ref h0_2, .ref h0_3, .ref h0_4, .ref h0_5, .ref h0_6, .ref h0_7, .ref h0_8, .ref h0_9])), (h0_1, .inl (cI, 40, .inl (fun _ => 0))), (h0_2, .inl (cI, 40, .inl (fun _ => 0))), (h0_3, .inl (cI, 40, .inl (fun _ => 0))), (h0_4, .inl (cI, 40, .inl (fun _ => 0))), (h0_5, .inl (cI, 40, .inl (fun _ => 0))), (h0_6, .inl (cI, 40, .inl (fun _ => 0))), (h0_7, .inl (cI, 40, .inl (fun _ => 0))), (h0_8, .inl (cI, 40, .inl (fun _ => 0)))] s.heap := hP
  have hD : va_D A [(h0, .inr (4, [.int 0, .ref h0_1, .ref h0_2, .ref h0_3, .ref h0_4, .ref h0_5, .ref h0_6, .ref h0_7, .ref h0_8, .ref h0_9])), (h0_1, .inl (cI, 40, .inl (fun _ => 0))), (h0_2, .inl (cI, 40, .inl (fun _ => 0))), (h0_3, .inl (cI, 40, .inl (fun _ => 0))), (h0_4, .inl (cI, 40, .inl (fun _ => 0))), (h0_5, .inl (cI, 40, .inl (fun _ => 0))), (h0_6, .inl (cI, 40, .inl (fun _ => 0))), (h0_7, .inl (cI, 40, .inl (fun _ => 0))), (h0_8, .inl (cI, 40, .inl (fun _ => 0)))] := hD
  refine lv_aload_n hx hb dX4_add_0 rfl (lv_at hl 0 rfl) ?_
  refine va_get (D := G) (ci := 4) (v := .int 0) (C := RX4) (T := TX4) (N := 10) hx hb hts inX4_add_4 hown hK hP 0 rfl rfl 0 (by decide) (hts _ wdX4_add_f39) (fun _ h9 => h9) rfl dX4_add_1 ?_
  refine lv_bipush (v := 40) hx hb dX4_add_4 (by decide) ?_
  refine lv_icmp_lt (tgt := 11) hx hb dX4_add_6 (by decide) (fun _ => ?_) (fun c => absurd c (by decide))
  refine lv_aload_n hx hb dX4_add_11 rfl (lv_at hl 0 rfl) ?_
  refine va_get (D := G) (ci := 4) (v := .int 0) (C := RX4) (T := TX4) (N := 10) hx hb hts inX4_add_4 hown hK hP 0 rfl rfl 0 (by decide) (hts _ wdX4_add_f39) (fun _ h9 => h9) rfl dX4_add_12 ?_
  refine lv_istore (lv' := [(4, .int 0), (0, .ref h0), (1, .int u1), (2, .int u2), (3, .int u3)]) hx hb dX4_add_15 hl (by decide) rfl (fun ls hl => ?_)
  refine lv_aload_n hx hb dX4_add_17 rfl (lv_at hl 1 rfl) ?_
  refine va_get (D := G) (ci := 4) (v := .ref h0_1) (C := RX4) (T := TX4) (N := 10) hx hb hts inX4_add_4 hown hK hP 0 rfl rfl 1 (by decide) (hts _ wdX4_add_f9) (fun _ h9 => h9) rfl dX4_add_18 ?_
  refine lv_iload hx hb dX4_add_21 (lv_at hl 0 rfl) ?_
  refine lv_iload_n hx hb dX4_add_23 rfl (lv_at hl 2 rfl) ?_
  refine va_iast hx hb hK hP hD hS 1 0 rfl rfl (vp_in_iff.mpr (by decide)) dX4_add_24 (fun H locs => setW (ws' := [(h0, .inr (4, [.int 0, .ref h0_1, .ref h0_2, .ref h0_3, .ref h0_4, .ref h0_5, .ref h0_6, .ref h0_7, .ref h0_8, .ref h0_9])), (h0_1, .inl (cI, 40, .inl (upd (fun _ => 0) 0 u1))), (h0_2, .inl (cI, 40, .inl (fun _ => 0))), (h0_3, .inl (cI, 40, .inl (fun _ => 0))), (h0_4, .inl (cI, 40, .inl (fun _ => 0))), (h0_5, .inl (cI, 40, .inl (fun _ => 0))), (h0_6, .inl (cI, 40, .inl (fun _ => 0))), (h0_7, .inl (cI, 40, .inl (fun _ => 0))), (h0_8, .inl (cI, 40, .inl (fun _ => 0)))]) rfl (fun hP hD hS => ?_))
  refine lv_aload_n hx hb dX4_add_25 rfl (lv_at hl 1 rfl) ?_
  refine va_get (D := G) (ci := 4) (v := .ref h0_2) (C := RX4) (T := TX4) (N := 10) hx hb hts inX4_add_4 hown hK hP 0 rfl rfl 2 (by decide) (hts _ wdX4_add_f15) (fun _ h9 => h9) rfl dX4_add_26 ?_
  refine lv_iload hx hb dX4_add_29 (lv_at hl 0 rfl) ?_
  refine lv_iload_n hx hb dX4_add_31 rfl (lv_at hl 3 rfl) ?_
  refine va_iast hx hb hK hP hD hS 2 0 rfl rfl (vp_in_iff.mpr (by decide)) dX4_add_32 (fun H locs => setW (ws' := [(h0, .inr (4, [.int 0, .ref h0_1, .ref h0_2, .ref h0_3, .ref h0_4, .ref h0_5, .ref h0_6, .ref h0_7, .ref h0_8, .ref h0_9])), (h0_1, .inl (cI, 40, .inl (upd (fun _ => 0) 0 u1))), (h0_2, .inl (cI, 40, .inl (upd (fun _ => 0) 0 u2))), (h0_3, .inl (cI, 40, .inl (fun _ => 0))), (h0_4, .inl (cI, 40, .inl (fun _ => 0))), (h0_5, .inl (cI, 40, .inl (fun _ => 0))), (h0_6, .inl (cI, 40, .inl (fun _ => 0))), (h0_7, .inl (cI, 40, .inl (fun _ => 0))), (h0_8, .inl (cI, 40, .inl (fun _ => 0)))]) rfl (fun hP hD hS => ?_))
  refine lv_aload_n hx hb dX4_add_33 rfl (lv_at hl 1 rfl) ?_
  refine va_get (D := G) (ci := 4) (v := .ref h0_3) (C := RX4) (T := TX4) (N := 10) hx hb hts inX4_add_4 hown hK hP 0 rfl rfl 3 (by decide) (hts _ wdX4_add_f18) (fun _ h9 => h9) rfl dX4_add_34 ?_
  refine lv_iload hx hb dX4_add_37 (lv_at hl 0 rfl) ?_
  refine lv_iload_n hx hb dX4_add_39 rfl (lv_at hl 4 rfl) ?_
  refine va_iast hx hb hK hP hD hS 3 0 rfl rfl (vp_in_iff.mpr (by decide)) dX4_add_40 (fun H locs => setW (ws' := [(h0, .inr (4, [.int 0, .ref h0_1, .ref h0_2, .ref h0_3, .ref h0_4, .ref h0_5, .ref h0_6, .ref h0_7, .ref h0_8, .ref h0_9])), (h0_1, .inl (cI, 40, .inl (upd (fun _ => 0) 0 u1))), (h0_2, .inl (cI, 40, .inl (upd (fun _ => 0) 0 u2))), (h0_3, .inl (cI, 40, .inl (upd (fun _ => 0) 0 u3))), (h0_4, .inl (cI, 40, .inl (fun _ => 0))), (h0_5, .inl (cI, 40, .inl (fun _ => 0))), (h0_6, .inl (cI, 40, .inl (fun _ => 0))), (h0_7, .inl (cI, 40, .inl (fun _ => 0))), (h0_8, .inl (cI, 40, .inl (fun _ => 0)))]) rfl (fun hP hD hS => ?_))
  refine lv_aload_n hx hb dX4_add_41 rfl (lv_at hl 1 rfl) ?_
  refine va_get (D := G) (ci := 4) (v := .ref h0_4) (C := RX4) (T := TX4) (N := 10) hx hb hts inX4_add_4 hown hK hP 0 rfl rfl 4 (by decide) (hts _ wdX4_add_f21) (fun _ h9 => h9) rfl dX4_add_42 ?_
  refine lv_iload hx hb dX4_add_45 (lv_at hl 0 rfl) ?_
  refine lv_iconst (v := (-1)) hx hb dX4_add_47 (by decide) ?_
  refine va_iast hx hb hK hP hD hS 4 0 rfl rfl (vp_in_iff.mpr (by decide)) dX4_add_48 (fun H locs => setW (ws' := [(h0, .inr (4, [.int 0, .ref h0_1, .ref h0_2, .ref h0_3, .ref h0_4, .ref h0_5, .ref h0_6, .ref h0_7, .ref h0_8, .ref h0_9])), (h0_1, .inl (cI, 40, .inl (upd (fun _ => 0) 0 u1))), (h0_2, .inl (cI, 40, .inl (upd (fun _ => 0) 0 u2))), (h0_3, .inl (cI, 40, .inl (upd (fun _ => 0) 0 u3))), (h0_4, .inl (cI, 40, .inl (upd (fun _ => 0) 0 (-1)))), (h0_5, .inl (cI, 40, .inl (fun _ => 0))), (h0_6, .inl (cI, 40, .inl (fun _ => 0))), (h0_7, .inl (cI, 40, .inl (fun _ => 0))), (h0_8, .inl (cI, 40, .inl (fun _ => 0)))]) rfl (fun hP hD hS => ?_))
  refine lv_aload_n hx hb dX4_add_49 rfl (lv_at hl 1 rfl) ?_
  refine va_get (D := G) (ci := 4) (v := .ref h0_5) (C := RX4) (T := TX4) (N := 10) hx hb hts inX4_add_4 hown hK hP 0 rfl rfl 5 (by decide) (hts _ wdX4_add_f24) (fun _ h9 => h9) rfl dX4_add_50 ?_
  refine lv_iload hx hb dX4_add_53 (lv_at hl 0 rfl) ?_
  refine lv_iconst (v := 0) hx hb dX4_add_55 (by decide) ?_
  refine va_iast hx hb hK hP hD hS 5 0 rfl rfl (vp_in_iff.mpr (by decide)) dX4_add_56 (fun H locs => setW (ws' := [(h0, .inr (4, [.int 0, .ref h0_1, .ref h0_2, .ref h0_3, .ref h0_4, .ref h0_5, .ref h0_6, .ref h0_7, .ref h0_8, .ref h0_9])), (h0_1, .inl (cI, 40, .inl (upd (fun _ => 0) 0 u1))), (h0_2, .inl (cI, 40, .inl (upd (fun _ => 0) 0 u2))), (h0_3, .inl (cI, 40, .inl (upd (fun _ => 0) 0 u3))), (h0_4, .inl (cI, 40, .inl (upd (fun _ => 0) 0 (-1)))), (h0_5, .inl (cI, 40, .inl (upd (fun _ => 0) 0 0))), (h0_6, .inl (cI, 40, .inl (fun _ => 0))), (h0_7, .inl (cI, 40, .inl (fun _ => 0))), (h0_8, .inl (cI, 40, .inl (fun _ => 0)))]) rfl (fun hP hD hS => ?_))
  refine lv_aload_n hx hb dX4_add_57 rfl (lv_at hl 1 rfl) ?_
  refine va_get (D := G) (ci := 4) (v := .ref h0_6) (C := RX4) (T := TX4) (N := 10) hx hb hts inX4_add_4 hown hK hP 0 rfl rfl 6 (by decide) (hts _ wdX4_add_f27) (fun _ h9 => h9) rfl dX4_add_58 ?_
  refine lv_iload hx hb dX4_add_61 (lv_at hl 0 rfl) ?_
  refine lv_iconst (v := 0) hx hb dX4_add_63 (by decide) ?_
  refine va_iast hx hb hK hP hD hS 6 0 rfl rfl (vp_in_iff.mpr (by decide)) dX4_add_64 (fun H locs => setW (ws' := [(h0, .inr (4, [.int 0, .ref h0_1, .ref h0_2, .ref h0_3, .ref h0_4, .ref h0_5, .ref h0_6, .ref h0_7, .ref h0_8, .ref h0_9])), (h0_1, .inl (cI, 40, .inl (upd (fun _ => 0) 0 u1))), (h0_2, .inl (cI, 40, .inl (upd (fun _ => 0) 0 u2))), (h0_3, .inl (cI, 40, .inl (upd (fun _ => 0) 0 u3))), (h0_4, .inl (cI, 40, .inl (upd (fun _ => 0) 0 (-1)))), (h0_5, .inl (cI, 40, .inl (upd (fun _ => 0) 0 0))), (h0_6, .inl (cI, 40, .inl (upd (fun _ => 0) 0 0))), (h0_7, .inl (cI, 40, .inl (fun _ => 0))), (h0_8, .inl (cI, 40, .inl (fun _ => 0)))]) rfl (fun hP hD hS => ?_))
  refine lv_aload_n hx hb dX4_add_65 rfl (lv_at hl 1 rfl) ?_
  refine va_get (D := G) (ci := 4) (v := .ref h0_7) (C := RX4) (T := TX4) (N := 10) hx hb hts inX4_add_4 hown hK hP 0 rfl rfl 7 (by decide) (hts _ wdX4_add_f30) (fun _ h9 => h9) rfl dX4_add_66 ?_
  refine lv_iload hx hb dX4_add_69 (lv_at hl 0 rfl) ?_
  refine lv_iconst (v := (-1)) hx hb dX4_add_71 (by decide) ?_
  refine va_iast hx hb hK hP hD hS 7 0 rfl rfl (vp_in_iff.mpr (by decide)) dX4_add_72 (fun H locs => setW (ws' := [(h0, .inr (4, [.int 0, .ref h0_1, .ref h0_2, .ref h0_3, .ref h0_4, .ref h0_5, .ref h0_6, .ref h0_7, .ref h0_8, .ref h0_9])), (h0_1, .inl (cI, 40, .inl (upd (fun _ => 0) 0 u1))), (h0_2, .inl (cI, 40, .inl (upd (fun _ => 0) 0 u2))), (h0_3, .inl (cI, 40, .inl (upd (fun _ => 0) 0 u3))), (h0_4, .inl (cI, 40, .inl (upd (fun _ => 0) 0 (-1)))), (h0_5, .inl (cI, 40, .inl (upd (fun _ => 0) 0 0))), (h0_6, .inl (cI, 40, .inl (upd (fun _ => 0) 0 0))), (h0_7, .inl (cI, 40, .inl (upd (fun _ => 0) 0 (-1)))), (h0_8, .inl (cI, 40, .inl (fun _ => 0)))]) rfl (fun hP hD hS => ?_))
  refine lv_aload_n hx hb dX4_add_73 rfl (lv_at hl 1 rfl) ?_
  refine va_get (D := G) (ci := 4) (v := .ref h0_8) (C := RX4) (T := TX4) (N := 10) hx hb hts inX4_add_4 hown hK hP 0 rfl rfl 8 (by decide) (hts _ wdX4_add_f33) (fun _ h9 => h9) rfl dX4_add_74 ?_
  refine lv_iload hx hb dX4_add_77 (lv_at hl 0 rfl) ?_
  refine lv_iconst (v := 0) hx hb dX4_add_79 (by decide) ?_
  refine va_iast hx hb hK hP hD hS 8 0 rfl rfl (vp_in_iff.mpr (by decide)) dX4_add_80 (fun H locs => setW (ws' := [(h0, .inr (4, [.int 0, .ref h0_1, .ref h0_2, .ref h0_3, .ref h0_4, .ref h0_5, .ref h0_6, .ref h0_7, .ref h0_8, .ref h0_9])), (h0_1, .inl (cI, 40, .inl (upd (fun _ => 0) 0 u1))), (h0_2, .inl (cI, 40, .inl (upd (fun _ => 0) 0 u2))), (h0_3, .inl (cI, 40, .inl (upd (fun _ => 0) 0 u3))), (h0_4, .inl (cI, 40, .inl (upd (fun _ => 0) 0 (-1)))), (h0_5, .inl (cI, 40, .inl (upd (fun _ => 0) 0 0))), (h0_6, .inl (cI, 40, .inl (upd (fun _ => 0) 0 0))), (h0_7, .inl (cI, 40, .inl (upd (fun _ => 0) 0 (-1)))), (h0_8, .inl (cI, 40, .inl (upd (fun _ => 0) 0 0)))]) rfl (fun hP hD hS => ?_))
  refine lv_aload_n hx hb dX4_add_81 rfl (lv_at hl 1 rfl) ?_
  refine lv_dup hx hb dX4_add_82 rfl ?_
  refine va_get (D := G) (ci := 4) (v := .int 0) (C := RX4) (T := TX4) (N := 10) hx hb hts inX4_add_4 hown hK hP 0 rfl rfl 0 (by decide) (hts _ wdX4_add_f39) (fun _ h9 => h9) rfl dX4_add_83 ?_
  refine lv_iconst (v := 1) hx hb dX4_add_86 (by decide) ?_
  refine lv_iadd hx hb dX4_add_87 ?_
  refine lv_topi (fun x1 ex1 => ?_)
  obtain rfl : x1 = 1 := ex1.trans (by decide)
  refine va_put (D := G) (ci := 4) (v := .int 1) (ty := .int) (C := RX4) (T := TX4) (N := 10) hx hb hts inX4_add_4 tyX4 tyX4_ok nmX4 hown hK hP hD hS 0 rfl rfl 0 (by decide) (hts _ wdX4_add_f39) (fun _ h9 => h9) rfl (by decide +kernel) rfl rfl (Nat.le_of_ble_eq_true rfl) dX4_add_88 (fun H locs => setW (ws' := [(h0, .inr (4, [.int 1, .ref h0_1, .ref h0_2, .ref h0_3, .ref h0_4, .ref h0_5, .ref h0_6, .ref h0_7, .ref h0_8, .ref h0_9])), (h0_1, .inl (cI, 40, .inl (upd (fun _ => 0) 0 u1))), (h0_2, .inl (cI, 40, .inl (upd (fun _ => 0) 0 u2))), (h0_3, .inl (cI, 40, .inl (upd (fun _ => 0) 0 u3))), (h0_4, .inl (cI, 40, .inl (upd (fun _ => 0) 0 (-1)))), (h0_5, .inl (cI, 40, .inl (upd (fun _ => 0) 0 0))), (h0_6, .inl (cI, 40, .inl (upd (fun _ => 0) 0 0))), (h0_7, .inl (cI, 40, .inl (upd (fun _ => 0) 0 (-1)))), (h0_8, .inl (cI, 40, .inl (upd (fun _ => 0) 0 0)))]) rfl (fun hP hD hS => ?_))
  refine lv_iload hx hb dX4_add_91 (lv_at hl 0 rfl) ?_
  exact retI hx hb hr hlocks ⟨_, rfl, rfl⟩ hP hD hS (fun _ => 0) (fun _ _ => 0) [] (by decide +kernel) rfl dX4_add_93
set_option maxHeartbeats 4000000 in
set_option maxRecDepth 100000 in
theorem c_X11_person (l : Launch) (G : va_G) (cI cJ cZ cD cR cT : ClassId) (h0 : Nat) (u1 : Int32) (u2 : Int32) (u3 : Int32) (h0_0 : Nat) (h0_1 : Nat) (h0_2 : Nat) (h0_3 : Nat) (h0_6 : Nat) (h0_7 : Nat) (h0_8 : Nat) (h0_10 : Nat) (h0_11 : Nat) (h0_13 : Nat) (h0_0_0 : Nat) (h0_0_1 : Nat) (h0_0_2 : Nat) (h0_0_3 : Nat) (h0_0_4 : Nat) (h0_0_5 : Nat) (h0_0_8 : Nat) (h0_0_15 : Nat) (h0_0_16 : Nat) (h0_0_0_1 : Nat) (h0_0_0_2 : Nat) (h0_0_0_3 : Nat) (h0_0_0_4 : Nat) (h0_0_0_5 : Nat) (h0_0_0_6 : Nat) (h0_0_0_7 : Nat) (h0_0_0_8 : Nat) (h0_0_0_9 : Nat) (sz : Nat) : Met l yX11_person wsX11_person ({ frames := 2, cells := 0, slots := 0, locals := 64 }) (va_Pc [.ref h0, .int u1, .int u2, .int u3] (PreW G (tys6 cI cJ cZ cD cR cT) [(h0, .inr (11, [.ref h0_0, .ref h0_1, .ref h0_2, .ref h0_3, .int 0, .int 0, .ref h0_6, .ref h0_7, .ref h0_8, .int 0, .ref h0_10, .ref h0_11, .int 0, .ref h0_13, .int 0, .int 0])), (h0_0, .inr (0, [.ref h0_0_0, .ref h0_0_1, .ref h0_0_2, .ref h0_0_3, .ref h0_0_4, .ref h0_0_5, .int 0, .int 0, .ref h0_0_8, .int 0, .int 0, .int 0, .int 0, .long 0, .int 0, .ref h0_0_15, .ref h0_0_16])), (h0_0_0, .inr (4, [.int 0, .ref h0_0_0_1, .ref h0_0_0_2, .ref h0_0_0_3, .ref h0_0_0_4, .ref h0_0_0_5, .ref h0_0_0_6, .ref h0_0_0_7, .ref h0_0_0_8, .ref h0_0_0_9])), (h0_0_0_1, .inl (cI, 40, .inl (fun _ => 0))), (h0_0_0_2, .inl (cI, 40, .inl (fun _ => 0))), (h0_0_0_3, .inl (cI, 40, .inl (fun _ => 0))), (h0_0_0_4, .inl (cI, 40, .inl (fun _ => 0))), (h0_0_0_5, .inl (cI, 40, .inl (fun _ => 0))), (h0_0_0_6, .inl (cI, 40, .inl (fun _ => 0))), (h0_0_0_7, .inl (cI, 40, .inl (fun _ => 0))), (h0_0_0_8, .inl (cI, 40, .inl (fun _ => 0)))] sz)) (QW (RI (fun r => r = F_person u1 u2 u3)) G (va_A [(h0, .inr (11, [.ref h0_0, .ref h0_1, .ref h0_2, .ref h0_3, .int 0, .int 0, .ref h0_6, .ref h0_7, .ref h0_8, .int 0, .ref h0_10, .ref h0_11, .int 0, .ref h0_13, .int 0, .int 0])), (h0_0, .inr (0, [.ref h0_0_0, .ref h0_0_1, .ref h0_0_2, .ref h0_0_3, .ref h0_0_4, .ref h0_0_5, .int 0, .int 0, .ref h0_0_8, .int 0, .int 0, .int 0, .int 0, .long 0, .int 0, .ref h0_0_15, .ref h0_0_16])), (h0_0_0, .inr (4, [.int 0, .ref h0_0_0_1, .ref h0_0_0_2, .ref h0_0_0_3, .ref h0_0_0_4, .ref h0_0_0_5, .ref h0_0_0_6, .ref h0_0_0_7, .ref h0_0_0_8, .ref h0_0_0_9])), (h0_0_0_1, .inl (cI, 40, .inl (fun _ => 0))), (h0_0_0_2, .inl (cI, 40, .inl (fun _ => 0))), (h0_0_0_3, .inl (cI, 40, .inl (fun _ => 0))), (h0_0_0_4, .inl (cI, 40, .inl (fun _ => 0))), (h0_0_0_5, .inl (cI, 40, .inl (fun _ => 0))), (h0_0_0_6, .inl (cI, 40, .inl (fun _ => 0))), (h0_0_0_7, .inl (cI, 40, .inl (fun _ => 0))), (h0_0_0_8, .inl (cI, 40, .inl (fun _ => 0)))] sz) (fun q g => [])) 0 0 (va_A [(h0, .inr (11, [.ref h0_0, .ref h0_1, .ref h0_2, .ref h0_3, .int 0, .int 0, .ref h0_6, .ref h0_7, .ref h0_8, .int 0, .ref h0_10, .ref h0_11, .int 0, .ref h0_13, .int 0, .int 0])), (h0_0, .inr (0, [.ref h0_0_0, .ref h0_0_1, .ref h0_0_2, .ref h0_0_3, .ref h0_0_4, .ref h0_0_5, .int 0, .int 0, .ref h0_0_8, .int 0, .int 0, .int 0, .int 0, .long 0, .int 0, .ref h0_0_15, .ref h0_0_16])), (h0_0_0, .inr (4, [.int 0, .ref h0_0_0_1, .ref h0_0_0_2, .ref h0_0_0_3, .ref h0_0_0_4, .ref h0_0_0_5, .ref h0_0_0_6, .ref h0_0_0_7, .ref h0_0_0_8, .ref h0_0_0_9])), (h0_0_0_1, .inl (cI, 40, .inl (fun _ => 0))), (h0_0_0_2, .inl (cI, 40, .inl (fun _ => 0))), (h0_0_0_3, .inl (cI, 40, .inl (fun _ => 0))), (h0_0_0_4, .inl (cI, 40, .inl (fun _ => 0))), (h0_0_0_5, .inl (cI, 40, .inl (fun _ => 0))), (h0_0_0_6, .inl (cI, 40, .inl (fun _ => 0))), (h0_0_0_7, .inl (cI, 40, .inl (fun _ => 0))), (h0_0_0_8, .inl (cI, 40, .inl (fun _ => 0)))] sz) := by
  refine metW (cc := cX11_person) (maxL := 4) (ret := (some .int)) (by decide) rfl (Nat.le_of_ble_eq_true rfl) ?_
  intro p e s m below meth c A ls hx hb hr hml hown hts hlocks hin hKK hP hD hA hS hl
  have hK := hKK.1
  have hown : s.vm.findClass RX11 = some m.cls := hown
  have hl : lv_has ls 4 [(0, .ref h0), (1, .int u1), (2, .int u2), (3, .int u3)] := hl
  have hP : va_P G vwCl [(h0, .inr (11, [.ref h0_0, .ref h0_1, .ref h0_2, .ref h0_3, .int 0, .int 0, .ref h0_6, .ref h0_7, .ref h0_8, .int 0, .ref h0_10, .ref h0_11, .int 0, .ref h0_13, .int 0, .int 0])), (h0_0, .inr (0, [.ref h0_0_0, .ref h0_0_1, .ref h0_0_2, .ref h0_0_3, .ref h0_0_4, .ref h0_0_5, .int 0, .int 0, .ref h0_0_8, .int 0, .int 0, .int 0, .int 0, .long 0, .int 0, .ref h0_0_15, .ref h0_0_16])), (h0_0_0, .inr (4, [.int 0, .ref h0_0_0_1, .ref h0_0_0_2, .ref h0_0_0_3, .ref h0_0_0_4, .ref h0_0_0_5, .ref h0_0_0_6, .ref h0_0_0_7, .ref h0_0_0_8, .ref h0_0_0_9])), (h0_0_0_1, .inl (cI, 40, .inl (fun _ => 0))), (h0_0_0_2, .inl (cI, 40, .inl (fun _ => 0))), (h0_0_0_3, .inl (cI, 40, .inl (fun _ => 0))), (h0_0_0_4, .inl (cI, 40, .inl (fun _ => 0))), (h0_0_0_5, .inl (cI, 40, .inl (fun _ => 0))), (h0_0_0_6, .inl (cI, 40, .inl (fun _ => 0))), (h0_0_0_7, .inl (cI, 40, .inl (fun _ => 0))), (h0_0_0_8, .inl (cI, 40, .inl (fun _ => 0)))] s.heap := hP
  have hD : va_D A [(h0, .inr (11, [.ref h0_0, .ref h0_1, .ref h0_2, .ref h0_3, .int 0, .int 0, .ref h0_6, .ref h0_7, .ref h0_8, .int 0, .ref h0_10, .ref h0_11, .int 0, .ref h0_13, .int 0, .int 0])), (h0_0, .inr (0, [.ref h0_0_0, .ref h0_0_1, .ref h0_0_2, .ref h0_0_3, .ref h0_0_4, .ref h0_0_5, .int 0, .int 0, .ref h0_0_8, .int 0, .int 0, .int 0, .int 0, .long 0, .int 0, .ref h0_0_15, .ref h0_0_16])), (h0_0_0, .inr (4, [.int 0, .ref h0_0_0_1, .ref h0_0_0_2, .ref h0_0_0_3, .ref h0_0_0_4, .ref h0_0_0_5, .ref h0_0_0_6, .ref h0_0_0_7, .ref h0_0_0_8, .ref h0_0_0_9])), (h0_0_0_1, .inl (cI, 40, .inl (fun _ => 0))), (h0_0_0_2, .inl (cI, 40, .inl (fun _ => 0))), (h0_0_0_3, .inl (cI, 40, .inl (fun _ => 0))), (h0_0_0_4, .inl (cI, 40, .inl (fun _ => 0))), (h0_0_0_5, .inl (cI, 40, .inl (fun _ => 0))), (h0_0_0_6, .inl (cI, 40, .inl (fun _ => 0))), (h0_0_0_7, .inl (cI, 40, .inl (fun _ => 0))), (h0_0_0_8, .inl (cI, 40, .inl (fun _ => 0)))] := hD
  refine lv_iload_n hx hb dX11_person_0 rfl (lv_at hl 1 rfl) ?_
  refine lv_iconst (v := 0) hx hb dX11_person_1 (by decide) ?_
  refine lv_bipush (v := 19) hx hb dX11_person_2 (by decide) ?_
  refine goS (As := [.int u1, .int 0, .int 19]) (rest := []) (wr := [(h0, .inr (11, [.ref h0_0, .ref h0_1, .ref h0_2, .ref h0_3, .int 0, .int 0, .ref h0_6, .ref h0_7, .ref h0_8, .int 0, .ref h0_10, .ref h0_11, .int 0, .ref h0_13, .int 0, .int 0])), (h0_0, .inr (0, [.ref h0_0_0, .ref h0_0_1, .ref h0_0_2, .ref h0_0_3, .ref h0_0_4, .ref h0_0_5, .int 0, .int 0, .ref h0_0_8, .int 0, .int 0, .int 0, .int 0, .long 0, .int 0, .ref h0_0_15, .ref h0_0_16])), (h0_0_0, .inr (4, [.int 0, .ref h0_0_0_1, .ref h0_0_0_2, .ref h0_0_0_3, .ref h0_0_0_4, .ref h0_0_0_5, .ref h0_0_0_6, .ref h0_0_0_7, .ref h0_0_0_8, .ref h0_0_0_9])), (h0_0_0_1, .inl (cI, 40, .inl (fun _ => 0))), (h0_0_0_2, .inl (cI, 40, .inl (fun _ => 0))), (h0_0_0_3, .inl (cI, 40, .inl (fun _ => 0))), (h0_0_0_4, .inl (cI, 40, .inl (fun _ => 0))), (h0_0_0_5, .inl (cI, 40, .inl (fun _ => 0))), (h0_0_0_6, .inl (cI, 40, .inl (fun _ => 0))), (h0_0_0_7, .inl (cI, 40, .inl (fun _ => 0))), (h0_0_0_8, .inl (cI, 40, .inl (fun _ => 0)))]) ⟨hx, hb, hml, hown, hts⟩ (c_X11_within l G cI cJ cZ cD cR cT u1 0 19 u1.toInt 0 19 _ rfl (by decide) (by decide)) (va_cwS 3 hts gX11_person_X11_within rfl rfl rfl (by decide +kernel) ⟨Nat.le_of_ble_eq_true rfl, Nat.le_of_ble_eq_true rfl⟩) hKK hP hD hS hA [] [0, 1, 2, 3, 4, 5, 6, 7, 8, 9, 10] rfl rfl (by decide +kernel) (by decide +kernel) (by decide +kernel) rfl hl.1 rfl (lv_room (Nat.le_of_ble_eq_true rfl)) dX11_person_4 ⟨Nat.le_of_ble_eq_true rfl, Nat.le_of_ble_eq_true rfl⟩ (fun v2 q1 gq1 H locs hv2 => appW (ws' := [(h0, .inr (11, [.ref h0_0, .ref h0_1, .ref h0_2, .ref h0_3, .int 0, .int 0, .ref h0_6, .ref h0_7, .ref h0_8, .int 0, .ref h0_10, .ref h0_11, .int 0, .ref h0_13, .int 0, .int 0])), (h0_0, .inr (0, [.ref h0_0_0, .ref h0_0_1, .ref h0_0_2, .ref h0_0_3, .ref h0_0_4, .ref h0_0_5, .int 0, .int 0, .ref h0_0_8, .int 0, .int 0, .int 0, .int 0, .long 0, .int 0, .ref h0_0_15, .ref h0_0_16])), (h0_0_0, .inr (4, [.int 0, .ref h0_0_0_1, .ref h0_0_0_2, .ref h0_0_0_3, .ref h0_0_0_4, .ref h0_0_0_5, .ref h0_0_0_6, .ref h0_0_0_7, .ref h0_0_0_8, .ref h0_0_0_9])), (h0_0_0_1, .inl (cI, 40, .inl (fun _ => 0))), (h0_0_0_2, .inl (cI, 40, .inl (fun _ => 0))), (h0_0_0_3, .inl (cI, 40, .inl (fun _ => 0))), (h0_0_0_4, .inl (cI, 40, .inl (fun _ => 0))), (h0_0_0_5, .inl (cI, 40, .inl (fun _ => 0))), (h0_0_0_6, .inl (cI, 40, .inl (fun _ => 0))), (h0_0_0_7, .inl (cI, 40, .inl (fun _ => 0))), (h0_0_0_8, .inl (cI, 40, .inl (fun _ => 0)))]) rfl (fun hP hD hS => ?_))
  obtain ⟨_, rfl, h4⟩ := hv2
  rcases h4 with ⟨rfl, h4⟩ | ⟨rfl, h4⟩
  · refine lv_if_eq (tgt := 30) hx hb dX11_person_7 (by decide) (fun c => absurd c (by decide)) (fun _ => ?_)
    refine lv_iload_n hx hb dX11_person_10 rfl (lv_at hl 2 rfl) ?_
    refine lv_iconst (v := 0) hx hb dX11_person_11 (by decide) ?_
    refine lv_ldc (v := 1000000) hx hb hown (hts _ wdX11_person_c58) dX11_person_12 ?_
    refine goS (As := [.int u2, .int 0, .int 1000000]) (rest := []) (wr := [(h0, .inr (11, [.ref h0_0, .ref h0_1, .ref h0_2, .ref h0_3, .int 0, .int 0, .ref h0_6, .ref h0_7, .ref h0_8, .int 0, .ref h0_10, .ref h0_11, .int 0, .ref h0_13, .int 0, .int 0])), (h0_0, .inr (0, [.ref h0_0_0, .ref h0_0_1, .ref h0_0_2, .ref h0_0_3, .ref h0_0_4, .ref h0_0_5, .int 0, .int 0, .ref h0_0_8, .int 0, .int 0, .int 0, .int 0, .long 0, .int 0, .ref h0_0_15, .ref h0_0_16])), (h0_0_0, .inr (4, [.int 0, .ref h0_0_0_1, .ref h0_0_0_2, .ref h0_0_0_3, .ref h0_0_0_4, .ref h0_0_0_5, .ref h0_0_0_6, .ref h0_0_0_7, .ref h0_0_0_8, .ref h0_0_0_9])), (h0_0_0_1, .inl (cI, 40, .inl (fun _ => 0))), (h0_0_0_2, .inl (cI, 40, .inl (fun _ => 0))), (h0_0_0_3, .inl (cI, 40, .inl (fun _ => 0))), (h0_0_0_4, .inl (cI, 40, .inl (fun _ => 0))), (h0_0_0_5, .inl (cI, 40, .inl (fun _ => 0))), (h0_0_0_6, .inl (cI, 40, .inl (fun _ => 0))), (h0_0_0_7, .inl (cI, 40, .inl (fun _ => 0))), (h0_0_0_8, .inl (cI, 40, .inl (fun _ => 0)))]) ⟨hx, hb, hml, hown, hts⟩ (c_X11_within l G cI cJ cZ cD cR cT u2 0 1000000 u2.toInt 0 1000000 _ rfl (by decide) (by decide)) (va_cwS 3 hts gX11_person_X11_within rfl rfl rfl (by decide +kernel) ⟨Nat.le_of_ble_eq_true rfl, Nat.le_of_ble_eq_true rfl⟩) hKK hP hD hS hA [] [0, 1, 2, 3, 4, 5, 6, 7, 8, 9, 10] rfl rfl (by decide +kernel) (by decide +kernel) (by decide +kernel) rfl hl.1 rfl (lv_room (Nat.le_of_ble_eq_true rfl)) dX11_person_14 ⟨Nat.le_of_ble_eq_true rfl, Nat.le_of_ble_eq_true rfl⟩ (fun v6 q5 gq5 H locs hv6 => appW (ws' := [(h0, .inr (11, [.ref h0_0, .ref h0_1, .ref h0_2, .ref h0_3, .int 0, .int 0, .ref h0_6, .ref h0_7, .ref h0_8, .int 0, .ref h0_10, .ref h0_11, .int 0, .ref h0_13, .int 0, .int 0])), (h0_0, .inr (0, [.ref h0_0_0, .ref h0_0_1, .ref h0_0_2, .ref h0_0_3, .ref h0_0_4, .ref h0_0_5, .int 0, .int 0, .ref h0_0_8, .int 0, .int 0, .int 0, .int 0, .long 0, .int 0, .ref h0_0_15, .ref h0_0_16])), (h0_0_0, .inr (4, [.int 0, .ref h0_0_0_1, .ref h0_0_0_2, .ref h0_0_0_3, .ref h0_0_0_4, .ref h0_0_0_5, .ref h0_0_0_6, .ref h0_0_0_7, .ref h0_0_0_8, .ref h0_0_0_9])), (h0_0_0_1, .inl (cI, 40, .inl (fun _ => 0))), (h0_0_0_2, .inl (cI, 40, .inl (fun _ => 0))), (h0_0_0_3, .inl (cI, 40, .inl (fun _ => 0))), (h0_0_0_4, .inl (cI, 40, .inl (fun _ => 0))), (h0_0_0_5, .inl (cI, 40, .inl (fun _ => 0))), (h0_0_0_6, .inl (cI, 40, .inl (fun _ => 0))), (h0_0_0_7, .inl (cI, 40, .inl (fun _ => 0))), (h0_0_0_8, .inl (cI, 40, .inl (fun _ => 0)))]) rfl (fun hP hD hS => ?_))
    obtain ⟨_, rfl, h8⟩ := hv6
    rcases h8 with ⟨rfl, h8⟩ | ⟨rfl, h8⟩
    · refine lv_if_eq (tgt := 30) hx hb dX11_person_17 (by decide) (fun c => absurd c (by decide)) (fun _ => ?_)
      refine lv_iload_n hx hb dX11_person_20 rfl (lv_at hl 3 rfl) ?_
      refine lv_iconst (v := 0) hx hb dX11_person_21 (by decide) ?_
      refine lv_bipush (v := 100) hx hb dX11_person_22 (by decide) ?_
      refine goS (As := [.int u3, .int 0, .int 100]) (rest := []) (wr := [(h0, .inr (11, [.ref h0_0, .ref h0_1, .ref h0_2, .ref h0_3, .int 0, .int 0, .ref h0_6, .ref h0_7, .ref h0_8, .int 0, .ref h0_10, .ref h0_11, .int 0, .ref h0_13, .int 0, .int 0])), (h0_0, .inr (0, [.ref h0_0_0, .ref h0_0_1, .ref h0_0_2, .ref h0_0_3, .ref h0_0_4, .ref h0_0_5, .int 0, .int 0, .ref h0_0_8, .int 0, .int 0, .int 0, .int 0, .long 0, .int 0, .ref h0_0_15, .ref h0_0_16])), (h0_0_0, .inr (4, [.int 0, .ref h0_0_0_1, .ref h0_0_0_2, .ref h0_0_0_3, .ref h0_0_0_4, .ref h0_0_0_5, .ref h0_0_0_6, .ref h0_0_0_7, .ref h0_0_0_8, .ref h0_0_0_9])), (h0_0_0_1, .inl (cI, 40, .inl (fun _ => 0))), (h0_0_0_2, .inl (cI, 40, .inl (fun _ => 0))), (h0_0_0_3, .inl (cI, 40, .inl (fun _ => 0))), (h0_0_0_4, .inl (cI, 40, .inl (fun _ => 0))), (h0_0_0_5, .inl (cI, 40, .inl (fun _ => 0))), (h0_0_0_6, .inl (cI, 40, .inl (fun _ => 0))), (h0_0_0_7, .inl (cI, 40, .inl (fun _ => 0))), (h0_0_0_8, .inl (cI, 40, .inl (fun _ => 0)))]) ⟨hx, hb, hml, hown, hts⟩ (c_X11_within l G cI cJ cZ cD cR cT u3 0 100 u3.toInt 0 100 _ rfl (by decide) (by decide)) (va_cwS 3 hts gX11_person_X11_within rfl rfl rfl (by decide +kernel) ⟨Nat.le_of_ble_eq_true rfl, Nat.le_of_ble_eq_true rfl⟩) hKK hP hD hS hA [] [0, 1, 2, 3, 4, 5, 6, 7, 8, 9, 10] rfl rfl (by decide +kernel) (by decide +kernel) (by decide +kernel) rfl hl.1 rfl (lv_room (Nat.le_of_ble_eq_true rfl)) dX11_person_24 ⟨Nat.le_of_ble_eq_true rfl, Nat.le_of_ble_eq_true rfl⟩ (fun v10 q9 gq9 H locs hv10 => appW (ws' := [(h0, .inr (11, [.ref h0_0, .ref h0_1, .ref h0_2, .ref h0_3, .int 0, .int 0, .ref h0_6, .ref h0_7, .ref h0_8, .int 0, .ref h0_10, .ref h0_11, .int 0, .ref h0_13, .int 0, .int 0])), (h0_0, .inr (0, [.ref h0_0_0, .ref h0_0_1, .ref h0_0_2, .ref h0_0_3, .ref h0_0_4, .ref h0_0_5, .int 0, .int 0, .ref h0_0_8, .int 0, .int 0, .int 0, .int 0, .long 0, .int 0, .ref h0_0_15, .ref h0_0_16])), (h0_0_0, .inr (4, [.int 0, .ref h0_0_0_1, .ref h0_0_0_2, .ref h0_0_0_3, .ref h0_0_0_4, .ref h0_0_0_5, .ref h0_0_0_6, .ref h0_0_0_7, .ref h0_0_0_8, .ref h0_0_0_9])), (h0_0_0_1, .inl (cI, 40, .inl (fun _ => 0))), (h0_0_0_2, .inl (cI, 40, .inl (fun _ => 0))), (h0_0_0_3, .inl (cI, 40, .inl (fun _ => 0))), (h0_0_0_4, .inl (cI, 40, .inl (fun _ => 0))), (h0_0_0_5, .inl (cI, 40, .inl (fun _ => 0))), (h0_0_0_6, .inl (cI, 40, .inl (fun _ => 0))), (h0_0_0_7, .inl (cI, 40, .inl (fun _ => 0))), (h0_0_0_8, .inl (cI, 40, .inl (fun _ => 0)))]) rfl (fun hP hD hS => ?_))
      obtain ⟨_, rfl, h12⟩ := hv10
      rcases h12 with ⟨rfl, h12⟩ | ⟨rfl, h12⟩
      · refine lv_if_ne (tgt := 36) hx hb dX11_person_27 (by decide) (fun _ => ?_) (fun c => absurd c (by decide))
        refine lv_aload_n hx hb dX11_person_36 rfl (lv_at hl 0 rfl) ?_
        refine va_get (D := G) (ci := 11) (v := .ref h0_0) (C := RX11) (T := TX11) (N := 16) hx hb hts inX11_person_11 hown hK hP 0 rfl rfl 0 (by decide) (hts _ wdX11_person_f12) (fun _ h9 => h9) rfl dX11_person_37 ?_
        refine va_get (D := G) (ci := 0) (v := .ref h0_0_0) (C := RX0) (T := TX0) (N := 17) hx hb hts inX11_person_0 hown hK hP 1 rfl rfl 0 (by decide) (hts _ wdX11_person_f63) (fun _ h9 => h9) rfl dX11_person_40 ?_
        refine va_get (D := G) (ci := 4) (v := .int 0) (C := RX4) (T := TX4) (N := 10) hx hb hts inX11_person_4 hown hK hP 2 rfl rfl 0 (by decide) (hts _ wdX11_person_f67) (fun _ h9 => h9) rfl dX11_person_43 ?_
        refine lv_bipush (v := 40) hx hb dX11_person_46 (by decide) ?_
        refine lv_icmp_lt (tgt := 58) hx hb dX11_person_48 (by decide) (fun _ => ?_) (fun c => absurd c (by decide))
        refine lv_aload_n hx hb dX11_person_58 rfl (lv_at hl 0 rfl) ?_
        refine lv_aload_n hx hb dX11_person_59 rfl (lv_at hl 0 rfl) ?_
        refine va_get (D := G) (ci := 11) (v := .ref h0_0) (C := RX11) (T := TX11) (N := 16) hx hb hts inX11_person_11 hown hK hP 0 rfl rfl 0 (by decide) (hts _ wdX11_person_f12) (fun _ h9 => h9) rfl dX11_person_60 ?_
        refine va_get (D := G) (ci := 0) (v := .ref h0_0_0) (C := RX0) (T := TX0) (N := 17) hx hb hts inX11_person_0 hown hK hP 1 rfl rfl 0 (by decide) (hts _ wdX11_person_f63) (fun _ h9 => h9) rfl dX11_person_63 ?_
        refine lv_iload_n hx hb dX11_person_66 rfl (lv_at hl 1 rfl) ?_
        refine lv_iload_n hx hb dX11_person_67 rfl (lv_at hl 2 rfl) ?_
        refine lv_iload_n hx hb dX11_person_68 rfl (lv_at hl 3 rfl) ?_
        refine goV (As := [.int u1, .int u2, .int u3]) (rest := [.ref h0]) (wr := [(h0, .inr (11, [.ref h0_0, .ref h0_1, .ref h0_2, .ref h0_3, .int 0, .int 0, .ref h0_6, .ref h0_7, .ref h0_8, .int 0, .ref h0_10, .ref h0_11, .int 0, .ref h0_13, .int 0, .int 0])), (h0_0, .inr (0, [.ref h0_0_0, .ref h0_0_1, .ref h0_0_2, .ref h0_0_3, .ref h0_0_4, .ref h0_0_5, .int 0, .int 0, .ref h0_0_8, .int 0, .int 0, .int 0, .int 0, .long 0, .int 0, .ref h0_0_15, .ref h0_0_16]))]) ⟨hx, hb, hml, hown, hts⟩ (c_X4_add l G cI cJ cZ cD cR cT h0_0_0 u1 u2 u3 h0_0_0_1 h0_0_0_2 h0_0_0_3 h0_0_0_4 h0_0_0_5 h0_0_0_6 h0_0_0_7 h0_0_0_8 h0_0_0_9 _) (cwV 3 hts gX11_person_X4_add rfl rfl rfl (by decide +kernel) ⟨Nat.le_of_ble_eq_true rfl, Nat.le_of_ble_eq_true rfl⟩) 2 rfl rfl rfl hKK hP hD hS hA [2, 3, 4, 5, 6, 7, 8, 9, 10] [0, 1] rfl rfl (by decide +kernel) (by decide +kernel) (by decide +kernel) rfl hl.1 rfl (lv_room (Nat.le_of_ble_eq_true rfl)) dX11_person_69 ⟨Nat.le_of_ble_eq_true rfl, Nat.le_of_ble_eq_true rfl⟩ (fun v14 q13 gq13 H locs hv14 => appW (ws' := [(h0, .inr (11, [.ref h0_0, .ref h0_1, .ref h0_2, .ref h0_3, .int 0, .int 0, .ref h0_6, .ref h0_7, .ref h0_8, .int 0, .ref h0_10, .ref h0_11, .int 0, .ref h0_13, .int 0, .int 0])), (h0_0, .inr (0, [.ref h0_0_0, .ref h0_0_1, .ref h0_0_2, .ref h0_0_3, .ref h0_0_4, .ref h0_0_5, .int 0, .int 0, .ref h0_0_8, .int 0, .int 0, .int 0, .int 0, .long 0, .int 0, .ref h0_0_15, .ref h0_0_16]))]) rfl (fun hP hD hS => ?_))
        obtain ⟨_, rfl, rfl⟩ := hv14
        refine goV (As := [.int 0]) (rest := []) (wr := [(h0_0, .inr (0, [.ref h0_0_0, .ref h0_0_1, .ref h0_0_2, .ref h0_0_3, .ref h0_0_4, .ref h0_0_5, .int 0, .int 0, .ref h0_0_8, .int 0, .int 0, .int 0, .int 0, .long 0, .int 0, .ref h0_0_15, .ref h0_0_16]))]) ⟨hx, hb, hml, hown, hts⟩ (c_X11_accept l G cI cJ cZ cD cR cT h0 0 h0_0 h0_1 h0_2 h0_3 0 0 h0_6 h0_7 h0_8 0 h0_10 h0_11 0 h0_13 0 0 _) (cwV 1 hts gX11_person_X11_accept rfl rfl rfl (by decide +kernel) ⟨Nat.le_of_ble_eq_true rfl, Nat.le_of_ble_eq_true rfl⟩) 0 rfl rfl rfl hKK hP hD hS hA [0] [1] rfl rfl (by decide +kernel) (by decide +kernel) (by decide +kernel) rfl hl.1 rfl (lv_room (Nat.le_of_ble_eq_true rfl)) dX11_person_72 ⟨Nat.le_of_ble_eq_true rfl, Nat.le_of_ble_eq_true rfl⟩ (fun v17 q16 gq16 H locs hv17 => appW (ws' := [(h0_0, .inr (0, [.ref h0_0_0, .ref h0_0_1, .ref h0_0_2, .ref h0_0_3, .ref h0_0_4, .ref h0_0_5, .int 0, .int 0, .ref h0_0_8, .int 0, .int 0, .int 0, .int 0, .long 0, .int 0, .ref h0_0_15, .ref h0_0_16])), (h0, .inr (11, [.ref h0_0, .ref h0_1, .ref h0_2, .ref h0_3, .int 0, .int 0, .ref h0_6, .ref h0_7, .ref h0_8, .int 0, .ref h0_10, .ref h0_11, .int 0, .ref h0_13, .int 0, .int 0]))]) rfl (fun hP hD hS => ?_))
        obtain ⟨_, rfl, rfl⟩ := hv17
        exact retI hx hb hr hlocks ⟨_, rfl, by unfold F_person; (repeat' split) <;> first | rfl | (exfalso; omega)⟩ hP hD hS (fun _ => 0) (fun _ _ => 0) [] (by decide +kernel) rfl dX11_person_75
      · refine lv_if_ne (tgt := 36) hx hb dX11_person_27 (by decide) (fun c => absurd c (by decide)) (fun _ => ?_)
        refine lv_aload_n hx hb dX11_person_30 rfl (lv_at hl 0 rfl) ?_
        refine lv_iconst (v := (-1)) hx hb dX11_person_31 (by decide) ?_
        refine goV (As := [.int (-1)]) (rest := []) (wr := [(h0_0, .inr (0, [.ref h0_0_0, .ref h0_0_1, .ref h0_0_2, .ref h0_0_3, .ref h0_0_4, .ref h0_0_5, .int 0, .int 0, .ref h0_0_8, .int 0, .int 0, .int 0, .int 0, .long 0, .int 0, .ref h0_0_15, .ref h0_0_16])), (h0_0_0, .inr (4, [.int 0, .ref h0_0_0_1, .ref h0_0_0_2, .ref h0_0_0_3, .ref h0_0_0_4, .ref h0_0_0_5, .ref h0_0_0_6, .ref h0_0_0_7, .ref h0_0_0_8, .ref h0_0_0_9])), (h0_0_0_1, .inl (cI, 40, .inl (fun _ => 0))), (h0_0_0_2, .inl (cI, 40, .inl (fun _ => 0))), (h0_0_0_3, .inl (cI, 40, .inl (fun _ => 0))), (h0_0_0_4, .inl (cI, 40, .inl (fun _ => 0))), (h0_0_0_5, .inl (cI, 40, .inl (fun _ => 0))), (h0_0_0_6, .inl (cI, 40, .inl (fun _ => 0))), (h0_0_0_7, .inl (cI, 40, .inl (fun _ => 0))), (h0_0_0_8, .inl (cI, 40, .inl (fun _ => 0)))]) ⟨hx, hb, hml, hown, hts⟩ (c_X11_refuse l G cI cJ cZ cD cR cT h0 (-1) h0_0 h0_1 h0_2 h0_3 0 0 h0_6 h0_7 h0_8 0 h0_10 h0_11 0 h0_13 0 0 _) (cwV 1 hts gX11_person_X11_refuse rfl rfl rfl (by decide +kernel) ⟨Nat.le_of_ble_eq_true rfl, Nat.le_of_ble_eq_true rfl⟩) 0 rfl rfl rfl hKK hP hD hS hA [0] [1, 2, 3, 4, 5, 6, 7, 8, 9, 10] rfl rfl (by decide +kernel) (by decide +kernel) (by decide +kernel) rfl hl.1 rfl (lv_room (Nat.le_of_ble_eq_true rfl)) dX11_person_32 ⟨Nat.le_of_ble_eq_true rfl, Nat.le_of_ble_eq_true rfl⟩ (fun v20 q19 gq19 H locs hv20 => appW (ws' := [(h0_0, .inr (0, [.ref h0_0_0, .ref h0_0_1, .ref h0_0_2, .ref h0_0_3, .ref h0_0_4, .ref h0_0_5, .int 0, .int 0, .ref h0_0_8, .int 0, .int 0, .int 0, .int 0, .long 0, .int 0, .ref h0_0_15, .ref h0_0_16])), (h0_0_0, .inr (4, [.int 0, .ref h0_0_0_1, .ref h0_0_0_2, .ref h0_0_0_3, .ref h0_0_0_4, .ref h0_0_0_5, .ref h0_0_0_6, .ref h0_0_0_7, .ref h0_0_0_8, .ref h0_0_0_9])), (h0_0_0_1, .inl (cI, 40, .inl (fun _ => 0))), (h0_0_0_2, .inl (cI, 40, .inl (fun _ => 0))), (h0_0_0_3, .inl (cI, 40, .inl (fun _ => 0))), (h0_0_0_4, .inl (cI, 40, .inl (fun _ => 0))), (h0_0_0_5, .inl (cI, 40, .inl (fun _ => 0))), (h0_0_0_6, .inl (cI, 40, .inl (fun _ => 0))), (h0_0_0_7, .inl (cI, 40, .inl (fun _ => 0))), (h0_0_0_8, .inl (cI, 40, .inl (fun _ => 0))), (h0, .inr (11, [.ref h0_0, .ref h0_1, .ref h0_2, .ref h0_3, .int 0, .int 0, .ref h0_6, .ref h0_7, .ref h0_8, .int 0, .ref h0_10, .ref h0_11, .int 0, .ref h0_13, .int 0, .int (-1)]))]) rfl (fun hP hD hS => ?_))
        obtain ⟨_, rfl, rfl⟩ := hv20
        exact retI hx hb hr hlocks ⟨_, rfl, by unfold F_person; (repeat' split) <;> first | rfl | (exfalso; omega)⟩ hP hD hS (fun _ => 0) (fun _ _ => 0) [] (by decide +kernel) rfl dX11_person_35
    · refine lv_if_eq (tgt := 30) hx hb dX11_person_17 (by decide) (fun _ => ?_) (fun c => absurd c (by decide))
      refine lv_aload_n hx hb dX11_person_30 rfl (lv_at hl 0 rfl) ?_
      refine lv_iconst (v := (-1)) hx hb dX11_person_31 (by decide) ?_
      refine goV (As := [.int (-1)]) (rest := []) (wr := [(h0_0, .inr (0, [.ref h0_0_0, .ref h0_0_1, .ref h0_0_2, .ref h0_0_3, .ref h0_0_4, .ref h0_0_5, .int 0, .int 0, .ref h0_0_8, .int 0, .int 0, .int 0, .int 0, .long 0, .int 0, .ref h0_0_15, .ref h0_0_16])), (h0_0_0, .inr (4, [.int 0, .ref h0_0_0_1, .ref h0_0_0_2, .ref h0_0_0_3, .ref h0_0_0_4, .ref h0_0_0_5, .ref h0_0_0_6, .ref h0_0_0_7, .ref h0_0_0_8, .ref h0_0_0_9])), (h0_0_0_1, .inl (cI, 40, .inl (fun _ => 0))), (h0_0_0_2, .inl (cI, 40, .inl (fun _ => 0))), (h0_0_0_3, .inl (cI, 40, .inl (fun _ => 0))), (h0_0_0_4, .inl (cI, 40, .inl (fun _ => 0))), (h0_0_0_5, .inl (cI, 40, .inl (fun _ => 0))), (h0_0_0_6, .inl (cI, 40, .inl (fun _ => 0))), (h0_0_0_7, .inl (cI, 40, .inl (fun _ => 0))), (h0_0_0_8, .inl (cI, 40, .inl (fun _ => 0)))]) ⟨hx, hb, hml, hown, hts⟩ (c_X11_refuse l G cI cJ cZ cD cR cT h0 (-1) h0_0 h0_1 h0_2 h0_3 0 0 h0_6 h0_7 h0_8 0 h0_10 h0_11 0 h0_13 0 0 _) (cwV 1 hts gX11_person_X11_refuse rfl rfl rfl (by decide +kernel) ⟨Nat.le_of_ble_eq_true rfl, Nat.le_of_ble_eq_true rfl⟩) 0 rfl rfl rfl hKK hP hD hS hA [0] [1, 2, 3, 4, 5, 6, 7, 8, 9, 10] rfl rfl (by decide +kernel) (by decide +kernel) (by decide +kernel) rfl hl.1 rfl (lv_room (Nat.le_of_ble_eq_true rfl)) dX11_person_32 ⟨Nat.le_of_ble_eq_true rfl, Nat.le_of_ble_eq_true rfl⟩ (fun v23 q22 gq22 H locs hv23 => appW (ws' := [(h0_0, .inr (0, [.ref h0_0_0, .ref h0_0_1, .ref h0_0_2, .ref h0_0_3, .ref h0_0_4, .ref h0_0_5, .int 0, .int 0, .ref h0_0_8, .int 0, .int 0, .int 0, .int 0, .long 0, .int 0, .ref h0_0_15, .ref h0_0_16])), (h0_0_0, .inr (4, [.int 0, .ref h0_0_0_1, .ref h0_0_0_2, .ref h0_0_0_3, .ref h0_0_0_4, .ref h0_0_0_5, .ref h0_0_0_6, .ref h0_0_0_7, .ref h0_0_0_8, .ref h0_0_0_9])), (h0_0_0_1, .inl (cI, 40, .inl (fun _ => 0))), (h0_0_0_2, .inl (cI, 40, .inl (fun _ => 0))), (h0_0_0_3, .inl (cI, 40, .inl (fun _ => 0))), (h0_0_0_4, .inl (cI, 40, .inl (fun _ => 0))), (h0_0_0_5, .inl (cI, 40, .inl (fun _ => 0))), (h0_0_0_6, .inl (cI, 40, .inl (fun _ => 0))), (h0_0_0_7, .inl (cI, 40, .inl (fun _ => 0))), (h0_0_0_8, .inl (cI, 40, .inl (fun _ => 0))), (h0, .inr (11, [.ref h0_0, .ref h0_1, .ref h0_2, .ref h0_3, .int 0, .int 0, .ref h0_6, .ref h0_7, .ref h0_8, .int 0, .ref h0_10, .ref h0_11, .int 0, .ref h0_13, .int 0, .int (-1)]))]) rfl (fun hP hD hS => ?_))
      obtain ⟨_, rfl, rfl⟩ := hv23
      exact retI hx hb hr hlocks ⟨_, rfl, by unfold F_person; (repeat' split) <;> first | rfl | (exfalso; omega)⟩ hP hD hS (fun _ => 0) (fun _ _ => 0) [] (by decide +kernel) rfl dX11_person_35
  · refine lv_if_eq (tgt := 30) hx hb dX11_person_7 (by decide) (fun _ => ?_) (fun c => absurd c (by decide))
    refine lv_aload_n hx hb dX11_person_30 rfl (lv_at hl 0 rfl) ?_
    refine lv_iconst (v := (-1)) hx hb dX11_person_31 (by decide) ?_
    refine goV (As := [.int (-1)]) (rest := []) (wr := [(h0_0, .inr (0, [.ref h0_0_0, .ref h0_0_1, .ref h0_0_2, .ref h0_0_3, .ref h0_0_4, .ref h0_0_5, .int 0, .int 0, .ref h0_0_8, .int 0, .int 0, .int 0, .int 0, .long 0, .int 0, .ref h0_0_15, .ref h0_0_16])), (h0_0_0, .inr (4, [.int 0, .ref h0_0_0_1, .ref h0_0_0_2, .ref h0_0_0_3, .ref h0_0_0_4, .ref h0_0_0_5, .ref h0_0_0_6, .ref h0_0_0_7, .ref h0_0_0_8, .ref h0_0_0_9])), (h0_0_0_1, .inl (cI, 40, .inl (fun _ => 0))), (h0_0_0_2, .inl (cI, 40, .inl (fun _ => 0))), (h0_0_0_3, .inl (cI, 40, .inl (fun _ => 0))), (h0_0_0_4, .inl (cI, 40, .inl (fun _ => 0))), (h0_0_0_5, .inl (cI, 40, .inl (fun _ => 0))), (h0_0_0_6, .inl (cI, 40, .inl (fun _ => 0))), (h0_0_0_7, .inl (cI, 40, .inl (fun _ => 0))), (h0_0_0_8, .inl (cI, 40, .inl (fun _ => 0)))]) ⟨hx, hb, hml, hown, hts⟩ (c_X11_refuse l G cI cJ cZ cD cR cT h0 (-1) h0_0 h0_1 h0_2 h0_3 0 0 h0_6 h0_7 h0_8 0 h0_10 h0_11 0 h0_13 0 0 _) (cwV 1 hts gX11_person_X11_refuse rfl rfl rfl (by decide +kernel) ⟨Nat.le_of_ble_eq_true rfl, Nat.le_of_ble_eq_true rfl⟩) 0 rfl rfl rfl hKK hP hD hS hA [0] [1, 2, 3, 4, 5, 6, 7, 8, 9, 10] rfl rfl (by decide +kernel) (by decide +kernel) (by decide +kernel) rfl hl.1 rfl (lv_room (Nat.le_of_ble_eq_true rfl)) dX11_person_32 ⟨Nat.le_of_ble_eq_true rfl, Nat.le_of_ble_eq_true rfl⟩ (fun v26 q25 gq25 H locs hv26 => appW (ws' := [(h0_0, .inr (0, [.ref h0_0_0, .ref h0_0_1, .ref h0_0_2, .ref h0_0_3, .ref h0_0_4, .ref h0_0_5, .int 0, .int 0, .ref h0_0_8, .int 0, .int 0, .int 0, .int 0, .long 0, .int 0, .ref h0_0_15, .ref h0_0_16])), (h0_0_0, .inr (4, [.int 0, .ref h0_0_0_1, .ref h0_0_0_2, .ref h0_0_0_3, .ref h0_0_0_4, .ref h0_0_0_5, .ref h0_0_0_6, .ref h0_0_0_7, .ref h0_0_0_8, .ref h0_0_0_9])), (h0_0_0_1, .inl (cI, 40, .inl (fun _ => 0))), (h0_0_0_2, .inl (cI, 40, .inl (fun _ => 0))), (h0_0_0_3, .inl (cI, 40, .inl (fun _ => 0))), (h0_0_0_4, .inl (cI, 40, .inl (fun _ => 0))), (h0_0_0_5, .inl (cI, 40, .inl (fun _ => 0))), (h0_0_0_6, .inl (cI, 40, .inl (fun _ => 0))), (h0_0_0_7, .inl (cI, 40, .inl (fun _ => 0))), (h0_0_0_8, .inl (cI, 40, .inl (fun _ => 0))), (h0, .inr (11, [.ref h0_0, .ref h0_1, .ref h0_2, .ref h0_3, .int 0, .int 0, .ref h0_6, .ref h0_7, .ref h0_8, .int 0, .ref h0_10, .ref h0_11, .int 0, .ref h0_13, .int 0, .int (-1)]))]) rfl (fun hP hD hS => ?_))
    obtain ⟨_, rfl, rfl⟩ := hv26
    exact retI hx hb hr hlocks ⟨_, rfl, by unfold F_person; (repeat' split) <;> first | rfl | (exfalso; omega)⟩ hP hD hS (fun _ => 0) (fun _ _ => 0) [] (by decide +kernel) rfl dX11_person_35
