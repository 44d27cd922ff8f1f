
theorem dX11_text_47 : decode cX11_text 47 = .ok (.astore_n 2, 1) := by decide +kernel
theorem dX11_text_48 : decode cX11_text 48 = .ok (.aload_n 0, 1) := by decide +kernel
theorem dX11_text_49 : decode cX11_text 49 = .ok (.getfield 30, 3) := by decide +kernel
theorem dX11_text_52 : decode cX11_text 52 = .ok (.iconst 0, 1) := by decide +kernel
theorem dX11_text_53 : decode cX11_text 53 = .ok (.putfield 209, 3) := by decide +kernel
theorem dX11_text_56 : decode cX11_text 56 = .ok (.aload_n 2, 1) := by decide +kernel
theorem dX11_text_57 : decode cX11_text 57 = .ok (.ifnonnull 10, 3) := by decide +kernel
theorem dX11_text_60 : decode cX11_text 60 = .ok (.aload_n 0, 1) := by decide +kernel
theorem dX11_text_61 : decode cX11_text 61 = .ok (.bipush (-6), 2) := by decide +kernel
theorem dX11_text_63 : decode cX11_text 63 = .ok (.invokevirtual 59, 3) := by decide +kernel
theorem dX11_text_66 : decode cX11_text 66 = .ok (.ireturn, 1) := by decide +kernel
theorem dX11_text_67 : decode cX11_text 67 = .ok (.aload_n 0, 1) := by decide +kernel
theorem dX11_text_68 : decode cX11_text 68 = .ok (.aload_n 0, 1) := by decide +kernel
theorem dX11_text_69 : decode cX11_text 69 = .ok (.getfield 12, 3) := by decide +kernel
theorem dX11_text_72 : decode cX11_text 72 = .ok (.getfield 219, 3) := by decide +kernel
theorem dX11_text_75 : decode cX11_text 75 = .ok (.aload_n 2, 1) := by decide +kernel
theorem dX11_text_76 : decode cX11_text 76 = .ok (.invokevirtual 230, 3) := by decide +kernel
theorem dX11_text_79 : decode cX11_text 79 = .ok (.invokevirtual 77, 3) := by decide +kernel
theorem dX11_text_82 : decode cX11_text 82 = .ok (.ireturn, 1) := by decide +kernel
theorem dX11_beside_55 : decode cX11_beside 55 = .ok (.astore_n 3, 1) := by decide +kernel
theorem dX11_beside_56 : decode cX11_beside 56 = .ok (.aload_n 0, 1) := by decide +kernel
theorem dX11_beside_57 : decode cX11_beside 57 = .ok (.getfield 30, 3) := by decide +kernel
theorem dX11_beside_60 : decode cX11_beside 60 = .ok (.iconst 0, 1) := by decide +kernel
theorem dX11_beside_61 : decode cX11_beside 61 = .ok (.putfield 209, 3) := by decide +kernel
theorem dX11_beside_64 : decode cX11_beside 64 = .ok (.aload_n 3, 1) := by decide +kernel
theorem dX11_beside_65 : decode cX11_beside 65 = .ok (.ifnonnull 9, 3) := by decide +kernel
theorem dX11_beside_68 : decode cX11_beside 68 = .ok (.ldc2_w 332, 3) := by decide +kernel
theorem dX11_beside_71 : decode cX11_beside 71 = .ok (.goto 16, 3) := by decide +kernel
theorem dX11_beside_87 : decode cX11_beside 87 = .ok (.lreturn, 1) := by decide +kernel
theorem dX11_beside_74 : decode cX11_beside 74 = .ok (.aload_n 0, 1) := by decide +kernel
theorem dX11_beside_75 : decode cX11_beside 75 = .ok (.iload_n 1, 1) := by decide +kernel
theorem dX11_beside_76 : decode cX11_beside 76 = .ok (.aload_n 3, 1) := by decide +kernel
theorem dX11_beside_77 : decode cX11_beside 77 = .ok (.invokevirtual 334, 3) := by decide +kernel
theorem dX11_beside_80 : decode cX11_beside 80 = .ok (.aload_n 0, 1) := by decide +kernel
theorem dX11_beside_81 : decode cX11_beside 81 = .ok (.iload_n 1, 1) := by decide +kernel
theorem dX11_beside_82 : decode cX11_beside 82 = .ok (.aconst_null, 1) := by decide +kernel
theorem dX11_beside_83 : decode cX11_beside 83 = .ok (.invokevirtual 334, 3) := by decide +kernel
theorem dX11_beside_86 : decode cX11_beside 86 = .ok (.lsub, 1) := by decide +kernel
def ms_X11_gotOnPaper_t : List (Nat × Nat) := [(0, 6), (0, 9), (0, 12), (0, 13), (0, 14), (1, 0), (1, 8), (1, 12), (1, 13), (1, 14), (2, 0), (3, 0), (3, 1), (3, 2), (3, 3), (4, 0), (10, 0), (10, 7), (108, 0), (115, 0), (161, 0), (162, 0), (163, 0), (164, 0), (165, 0), (166, 0), (167, 0), (169, 0), (170, 0), (171, 0), (221, 0), (222, 0), (223, 0), (284, 0), (285, 0), (341, 0), (342, 0), (343, 0), (344, 0), (345, 0), (346, 0), (347, 0), (348, 0), (349, 0), (520, 0), (521, 0), (701, 0), (702, 0), (703, 0), (704, 0), (705, 0), (706, 0), (708, 0), (709, 0), (710, 0)]
def po_X11_gotOnPaper_t (kp : Nat → Nat) (L : List Nat) (f0 : Nat → va_E) (h0 : Nat) (u1 : Int32) (u2 : Nat) : Option Value → (Nat → va_E) → Prop := fun v f => (∃ r : Int64, v = some (.long r) ∧ (True)) ∧ FM kp L ms_X11_gotOnPaper_t f0 f
set_option maxHeartbeats 4000000 in
set_option maxRecDepth 100000 in
theorem c_X11_gotOnPaper_t (l : Launch) (G : va_G) (cI cJ cZ cD cR cT : ClassId) (kp : Nat → Nat) (L : List Nat) (f0 : Nat → va_E) (hTH : TH cI cJ cZ cD cR cT kp L f0) (sz : Nat) (h0 : Nat) (u1 : Int32) (u2 : Nat) (rh0 : RK kp L h0 11) (ru2 : RK kp L u2 9) : Met l yX11_gotOnPaper (Cond.code yX11_gotOnPaper cX11_gotOnPaper 4 (some .long) :: wTab) ({ frames := 7, cells := 0, slots := 0, locals := 191 }) (va_Pc [.ref h0, .int u1, .ref u2] (PreW G (tys6 cI cJ cZ cD cR cT) (va_pl L f0) sz)) (QT (po_X11_gotOnPaper_t kp L f0 h0 u1 u2) G cI cJ cZ cD cR cT (va_A (va_pl L f0) sz) kp L) 0 0 (va_A (va_pl L f0) sz) := by
  refine metT (by decide) (Nat.le_of_ble_eq_true rfl) hTH ?_
  intro p e s m below meth c A ls E hW hl
  obtain ⟨hx, hb, -, hml, hown, hts, -, -, -⟩ := id E
  have hF : FM kp L ms_X11_gotOnPaper_t f0 f0 := FM.rf
  have hl : lv_has ls 4 [(0, .ref h0), (1, .int u1), (2, .ref u2)] := hl
  refine lv_aload_n hx hb dX11_gotOnPaper_0 rfl (lv_at hl 0 rfl) ?_
  refine fg_RX11_18 E hW rh0 dX11_gotOnPaper_1 (fun a1 m2 r3 => ?_)
  refine lv_aload_n hx hb dX11_gotOnPaper_4 rfl (lv_at hl 0 rfl) ?_
  refine fg_RX11_12 E hW rh0 dX11_gotOnPaper_5 (fun a4 m5 r6 => ?_)
  refine t_callV (As := [.ref a4]) (rest := []) E hW (c_X0_copyFrom l G cI cJ cZ cD cR cT kp L f0 hW.2.2.2 _ a1 a4 r3 r6) r3 (by decide) rfl wk_X0_copyFrom tw_1285 rfl ⟨Nat.le_of_ble_eq_true rfl, Nat.le_of_ble_eq_true rfl⟩ ⟨rfl, rfl⟩ hl.1 rfl (Nat.le_of_ble_eq_true rfl) dX11_gotOnPaper_8 ⟨Nat.le_of_ble_eq_true rfl, Nat.le_of_ble_eq_true rfl⟩ (fun v7 f8 H locs q9 hW => ?_)
  obtain ⟨rfl, g10⟩ := q9
  have hF := FM.tr hF g10 rfl
  refine lv_aload_n hx hb dX11_gotOnPaper_11 rfl (lv_at hl 2 rfl) ?_
  refine lv_ifnull hx hb dX11_gotOnPaper_12 ?_
  refine lv_aload_n hx hb dX11_gotOnPaper_15 rfl (lv_at hl 0 rfl) ?_
  refine fg_RX11_18 E hW rh0 dX11_gotOnPaper_16 (fun a11 m12 r13 => ?_)
  obtain rfl : a1 = a11 := (((fm_R g10 rh0 rfl).trans m2)).symm.trans m12
  refine fg_RX11_219 E hW r3 dX11_gotOnPaper_19 (fun a14 m15 r16 => ?_)
  refine lv_aload_n hx hb dX11_gotOnPaper_22 rfl (lv_at hl 2 rfl) ?_
  refine t_callV (As := [.ref u2]) (rest := []) E hW (c_X2_add l G cI cJ cZ cD cR cT kp L f8 hW.2.2.2 _ a14 u2 r16 ru2) r16 (by decide) rfl wk_X2_add tw_1050 rfl ⟨Nat.le_of_ble_eq_true rfl, Nat.le_of_ble_eq_true rfl⟩ ⟨rfl, rfl⟩ hl.1 rfl (Nat.le_of_ble_eq_true rfl) dX11_gotOnPaper_23 ⟨Nat.le_of_ble_eq_true rfl, Nat.le_of_ble_eq_true rfl⟩ (fun v17 f18 H locs q19 hW => ?_)
  obtain ⟨⟨x21, rfl, p22⟩, g20⟩ := q19
  have hF := FM.tr hF g20 rfl
  refine lv_pop hx hb dX11_gotOnPaper_26 rfl ?_
  refine lv_iconst (v := 0) hx hb dX11_gotOnPaper_27 (by decide) ?_
  refine lv_istore_n (lv' := [(3, .int 0), (0, .ref h0), (1, .int u1), (2, .ref u2)]) hx hb dX11_gotOnPaper_28 rfl hl (by decide) rfl (fun ls hl => ?_)
  have L1022 : ∀ (n : Nat), ∀ (f1016 : Nat → va_E) (y1020 : Int32) (m1017 : oR (f1016 a1) 4 = a14) (m1018 : oR (f1016 h0) 0 = a4) (m1019 : oR (f1016 h0) 1 = a1) (b1021 : (0 : Int) ≤ y1020.toInt) (hm : (2147483648 : Int) - y1020.toInt ≤ n) (H : Heap) (locs : List Loc) (ls : Array Slot), WS G cI cJ cZ cD cR cT A kp L f1016 s H locs → FM kp L ms_X11_gotOnPaper_t f0 f1016 → lv_has ls 4 [(3, .int y1020), (0, .ref h0), (1, .int u1), (2, .ref u2)] → W p l e ({ frames := 7, cells := 0, slots := 0, locals := 191 }) s m ([.ref h0, .int u1, .ref u2] : List Value).toArray below meth c H locs 0 0 (MQ below (QT (po_X11_gotOnPaper_t kp L f0 h0 u1 u2) G cI cJ cZ cD cR cT A kp L) ([.ref h0, .int u1, .ref u2] : List Value).toArray s 0 0 A) (F0 m 29 ls []) := by
    intro n
    induction n with
    | zero =>
      intro f1016 y1020 m1017 m1018 m1019 b1021 hm H locs ls hW hF hl
      have hz := i32_b y1020
      exfalso; omega
    | succ n ih =>
      intro f1016 y1020 m1017 m1018 m1019 b1021 hm H locs ls hW hF hl
      clear p22
      have ih29 := ih
      refine lv_iload_n hx hb dX11_gotOnPaper_29 rfl (lv_at hl 0 rfl) ?_
      refine lv_iload_n hx hb dX11_gotOnPaper_30 rfl (lv_at hl 2 rfl) ?_
      refine q_icmp_ge (tgt := 47) hx hb dX11_gotOnPaper_31 (by decide) rfl rfl (fun c1032 => ?_) (fun c1032 => ?_)
      · refine lv_aload_n hx hb dX11_gotOnPaper_47 rfl (lv_at hl 1 rfl) ?_
        refine fg_RX11_18 E hW rh0 dX11_gotOnPaper_48 (fun a1033 m1034 r1035 => ?_)
        obtain rfl : a1 = a1033 := (m1019).symm.trans m1034
        refine fg_RX11_395 E hW r3 dX11_gotOnPaper_51 (fun y1036 m1037 => ?_)
        exact e_J E hW rfl ⟨⟨_, rfl, trivial⟩, hF⟩ dX11_gotOnPaper_54
      · have hb1038 : y1020.toInt ≤ 2147483646 := by have := i32_b u1; omega
        refine lv_aload_n hx hb dX11_gotOnPaper_34 rfl (lv_at hl 1 rfl) ?_
        refine fg_RX11_18 E hW rh0 dX11_gotOnPaper_35 (fun a1039 m1040 r1041 => ?_)
        obtain rfl : a1 = a1039 := (m1019).symm.trans m1040
        refine t_callV (As := []) (rest := []) E hW (c_X0_passWeek l G cI cJ cZ cD cR cT kp L f1016 hW.2.2.2 _ a1 r3) r3 (by decide) rfl wk_X0_passWeek tw_1114 rfl ⟨Nat.le_of_ble_eq_true rfl, Nat.le_of_ble_eq_true rfl⟩ ⟨rfl, rfl⟩ hl.1 rfl (Nat.le_of_ble_eq_true rfl) dX11_gotOnPaper_38 ⟨Nat.le_of_ble_eq_true rfl, Nat.le_of_ble_eq_true rfl⟩ (fun v1042 f1043 H locs q1044 hW => ?_)
        obtain ⟨rfl, g1045⟩ := q1044
        have hF := FM.tr hF g1045 rfl
        refine q_iinc hx hb dX11_gotOnPaper_41 hl (k := 0) rfl rfl rfl (by omega) (by decide) (fun i1046 ls h1047 hl => ?_)
        have hl : lv_has ls 4 [(3, .int i1046), (0, .ref h0), (1, .int u1), (2, .ref u2)] := hl
        refine lv_goto (tgt := 29) hx hb dX11_gotOnPaper_44 (by decide) ?_
        exact ih29 f1043 i1046 ((fm_R g1045 r3 rfl).trans m1017) ((fm_R g1045 rh0 rfl).trans m1018) ((fm_R g1045 rh0 rfl).trans m1040) (by omega) (by omega) _ _ _ hW hF (lv_sub hl [0, 1, 2, 3] rfl)
  have hk1048 : (0 : Int32).toInt = 0 := rfl
  exact L1022 2147483648 f18 0 ((fm_R g20 r3 rfl).trans m15) ((fm_R g20 rh0 rfl).trans ((fm_R g10 rh0 rfl).trans m5)) ((fm_R g20 rh0 rfl).trans m12) (by decide) (by omega) _ _ _ hW hF (lv_sub hl [0, 1, 2, 3] rfl)
def ms_X11_gotOnPaper_n : List (Nat × Nat) := [(0, 6), (0, 9), (0, 12), (0, 13), (0, 14), (1, 0), (1, 8), (1, 12), (1, 13), (1, 14), (2, 0), (3, 0), (3, 1), (3, 2), (3, 3), (4, 0), (10, 0), (10, 7), (108, 0), (115, 0), (161, 0), (162, 0), (163, 0), (164, 0), (165, 0), (166, 0), (167, 0), (169, 0), (170, 0), (171, 0), (221, 0), (222, 0), (223, 0), (284, 0), (285, 0), (341, 0), (342, 0), (343, 0), (344, 0), (345, 0), (346, 0), (347, 0), (348, 0), (349, 0), (520, 0), (521, 0), (701, 0), (702, 0), (703, 0), (704, 0), (705, 0), (706, 0), (708, 0), (709, 0), (710, 0)]
def po_X11_gotOnPaper_n (kp : Nat → Nat) (L : List Nat) (f0 : Nat → va_E) (h0 : Nat) (u1 : Int32) : Option Value → (Nat → va_E) → Prop := fun v f => (∃ r : Int64, v = some (.long r) ∧ (True)) ∧ FM kp L ms_X11_gotOnPaper_n f0 f
set_option maxHeartbeats 4000000 in
set_option maxRecDepth 100000 in
theorem c_X11_gotOnPaper_n (l : Launch) (G : va_G) (cI cJ cZ cD cR cT : ClassId) (kp : Nat → Nat) (L : List Nat) (f0 : Nat → va_E) (hTH : TH cI cJ cZ cD cR cT kp L f0) (sz : Nat) (h0 : Nat) (u1 : Int32) (rh0 : RK kp L h0 11) : Met l yX11_gotOnPaper (Cond.code yX11_gotOnPaper cX11_gotOnPaper 4 (some .long) :: wTab) ({ frames := 7, cells := 0, slots := 0, locals := 191 }) (va_Pc [.ref h0, .int u1, .null] (PreW G (tys6 cI cJ cZ cD cR cT) (va_pl L f0) sz)) (QT (po_X11_gotOnPaper_n kp L f0 h0 u1) G cI cJ cZ cD cR cT (va_A (va_pl L f0) sz) kp L) 0 0 (va_A (va_pl L f0) sz) := by
  refine metT (by decide) (Nat.le_of_ble_eq_true rfl) hTH ?_
  intro p e s m below meth c A ls E hW hl
  obtain ⟨hx, hb, -, hml, hown, hts, -, -, -⟩ := id E
  have hF : FM kp L ms_X11_gotOnPaper_n f0 f0 := FM.rf
  have hl : lv_has ls 4 [(0, .ref h0), (1, .int u1), (2, .null)] := hl
  refine lv_aload_n hx hb dX11_gotOnPaper_0 rfl (lv_at hl 0 rfl) ?_
  refine fg_RX11_18 E hW rh0 dX11_gotOnPaper_1 (fun a1 m2 r3 => ?_)
  refine lv_aload_n hx hb dX11_gotOnPaper_4 rfl (lv_at hl 0 rfl) ?_
  refine fg_RX11_12 E hW rh0 dX11_gotOnPaper_5 (fun a4 m5 r6 => ?_)
  refine t_callV (As := [.ref a4]) (rest := []) E hW (c_X0_copyFrom l G cI cJ cZ cD cR cT kp L f0 hW.2.2.2 _ a1 a4 r3 r6) r3 (by decide) rfl wk_X0_copyFrom tw_1285 rfl ⟨Nat.le_of_ble_eq_true rfl, Nat.le_of_ble_eq_true rfl⟩ ⟨rfl, rfl⟩ hl.1 rfl (Nat.le_of_ble_eq_true rfl) dX11_gotOnPaper_8 ⟨Nat.le_of_ble_eq_true rfl, Nat.le_of_ble_eq_true rfl⟩ (fun v7 f8 H locs q9 hW => ?_)
  obtain ⟨rfl, g10⟩ := q9
  have hF := FM.tr hF g10 rfl
  refine lv_aload_nN hx hb dX11_gotOnPaper_11 rfl (lv_at hl 2 rfl) ?_
  refine lv_ifnullN (tgt := 27) hx hb dX11_gotOnPaper_12 (by decide) ?_
  refine lv_iconst (v := 0) hx hb dX11_gotOnPaper_27 (by decide) ?_
  refine lv_istore_n (lv' := [(3, .int 0), (0, .ref h0), (1, .int u1), (2, .null)]) hx hb dX11_gotOnPaper_28 rfl hl (by decide) rfl (fun ls hl => ?_)
  have L947 : ∀ (n : Nat), ∀ (f942 : Nat → va_E) (y945 : Int32) (m943 : oR (f942 h0) 0 = a4) (m944 : oR (f942 h0) 1 = a1) (b946 : (0 : Int) ≤ y945.toInt) (hm : (2147483648 : Int) - y945.toInt ≤ n) (H : Heap) (locs : List Loc) (ls : Array Slot), WS G cI cJ cZ cD cR cT A kp L f942 s H locs → FM kp L ms_X11_gotOnPaper_n f0 f942 → lv_has ls 4 [(3, .int y945), (0, .ref h0), (1, .int u1), (2, .null)] → W p l e ({ frames := 7, cells := 0, slots := 0, locals := 191 }) s m ([.ref h0, .int u1, .null] : List Value).toArray below meth c H locs 0 0 (MQ below (QT (po_X11_gotOnPaper_n kp L f0 h0 u1) G cI cJ cZ cD cR cT A kp L) ([.ref h0, .int u1, .null] : List Value).toArray s 0 0 A) (F0 m 29 ls []) := by
    intro n
    induction n with
    | zero =>
      intro f942 y945 m943 m944 b946 hm H locs ls hW hF hl
      have hz := i32_b y945
      exfalso; omega
    | succ n ih =>
      intro f942 y945 m943 m944 b946 hm H locs ls hW hF hl
      have ih29 := ih
      refine lv_iload_n hx hb dX11_gotOnPaper_29 rfl (lv_at hl 0 rfl) ?_
      refine lv_iload_n hx hb dX11_gotOnPaper_30 rfl (lv_at hl 2 rfl) ?_
      refine q_icmp_ge (tgt := 47) hx hb dX11_gotOnPaper_31 (by decide) rfl rfl (fun c957 => ?_) (fun c957 => ?_)
      · refine lv_aload_n hx hb dX11_gotOnPaper_47 rfl (lv_at hl 1 rfl) ?_
        refine fg_RX11_18 E hW rh0 dX11_gotOnPaper_48 (fun a958 m959 r960 => ?_)
        obtain rfl : a1 = a958 := (m944).symm.trans m959
        refine fg_RX11_395 E hW r3 dX11_gotOnPaper_51 (fun y961 m962 => ?_)
        exact e_J E hW rfl ⟨⟨_, rfl, trivial⟩, hF⟩ dX11_gotOnPaper_54
      · have hb963 : y945.toInt ≤ 2147483646 := by have := i32_b u1; omega
        refine lv_aload_n hx hb dX11_gotOnPaper_34 rfl (lv_at hl 1 rfl) ?_
        refine fg_RX11_18 E hW rh0 dX11_gotOnPaper_35 (fun a964 m965 r966 => ?_)
        obtain rfl : a1 = a964 := (m944).symm.trans m965
        refine t_callV (As := []) (rest := []) E hW (c_X0_passWeek l G cI cJ cZ cD cR cT kp L f942 hW.2.2.2 _ a1 r3) r3 (by decide) rfl wk_X0_passWeek tw_1114 rfl ⟨Nat.le_of_ble_eq_true rfl, Nat.le_of_ble_eq_true rfl⟩ ⟨rfl, rfl⟩ hl.1 rfl (Nat.le_of_ble_eq_true rfl) dX11_gotOnPaper_38 ⟨Nat.le_of_ble_eq_true rfl, Nat.le_of_ble_eq_true rfl⟩ (fun v967 f968 H locs q969 hW => ?_)
        obtain ⟨rfl, g970⟩ := q969
        have hF := FM.tr hF g970 rfl
        refine q_iinc hx hb dX11_gotOnPaper_41 hl (k := 0) rfl rfl rfl (by omega) (by decide) (fun i971 ls h972 hl => ?_)
        have hl : lv_has ls 4 [(3, .int i971), (0, .ref h0), (1, .int u1), (2, .null)] := hl
        refine lv_goto (tgt := 29) hx hb dX11_gotOnPaper_44 (by decide) ?_
        exact ih29 f968 i971 ((fm_R g970 rh0 rfl).trans m943) ((fm_R g970 rh0 rfl).trans m965) (by omega) (by omega) _ _ _ hW hF (lv_sub hl [0, 1, 2, 3] rfl)
  have hk973 : (0 : Int32).toInt = 0 := rfl
  exact L947 2147483648 f8 0 ((fm_R g10 rh0 rfl).trans m5) ((fm_R g10 rh0 rfl).trans m2) (by decide) (by omega) _ _ _ hW hF (lv_sub hl [0, 1, 2, 3] rfl)
def ms_X11_text : List (Nat × Nat) := [(2, 0), (5, 0), (5, 1), (5, 2), (5, 8), (5, 11), (5, 15), (5, 16), (8, 0), (11, 15), (221, 0), (403, 0), (404, 0), (405, 0), (406, 0), (407, 0), (409, 0), (410, 0), (412, 0), (413, 0), (414, 0)]
set_option maxHeartbeats 4000000 in
set_option maxRecDepth 100000 in
theorem text_tail (l : Launch) (G : va_G) (cI cJ cZ cD cR cT : ClassId) (kp : Nat → Nat) (L : List Nat) (f0 : Nat → va_E) (p : Program) (e : Env) (s : State) (m : MethodId) (below : List Frame) (meth : Method) (c : Code) (A : Nat → Prop) (Q : State → Prop) (h0 : Nat) (u1 : Int32) (x : Option Nat) (rh0 : RK kp L h0 11) (rx : ∀ b, x = some b → RK kp L b 9) (ls : Array Slot) (H : Heap) (locs : List Loc) (E : EV G cI cJ cZ cD cR cT A cX11_text (some .int) 3 yX11_text.cls p s m ([.ref h0, .int u1] : List Value).toArray meth c) (hW : WS G cI cJ cZ cD cR cT A kp L f0 s H locs) (hl : lv_has ls 3 [(0, .ref h0), (1, .int u1)])
  (hend : ∀ (pc : Nat) (r : Int32) (f : Nat → va_E) (ls : Array Slot) (H : Heap) (locs : List Loc), EV G cI cJ cZ cD cR cT A cX11_text (some .int) 3 yX11_text.cls p s m ([.ref h0, .int u1] : List Value).toArray meth c → FM kp L ms_X11_text f0 f → WS G cI cJ cZ cD cR cT A kp L f s H locs → decode cX11_text pc = .ok (.ireturn, 1) → W p l e ({ frames := 25, cells := 8, slots := 2810, locals := 640 }) s m ([.ref h0, .int u1] : List Value).toArray below meth c H locs 8 2810 Q (F0 m pc ls [.int r])) : W p l e ({ frames := 25, cells := 8, slots := 2810, locals := 640 }) s m ([.ref h0, .int u1] : List Value).toArray below meth c H locs 8 2810 Q (F0 m 47 ls [va_rf x]) := by
  obtain ⟨hx, hb, -, hml, hown, hts, -, -, -⟩ := id E
  have hTH := hW.2.2.2
  have hF : FM kp L ms_X11_text f0 f0 := FM.rf
  rcases x with _ | a1
  · have hl : lv_has ls 3 [(0, .ref h0), (1, .int u1)] := hl
    show W p l e ({ frames := 25, cells := 8, slots := 2810, locals := 640 }) s m ([.ref h0, .int u1] : List Value).toArray below meth c H locs 8 2810 Q (F0 m 47 ls [.null])
    refine lv_astore_nN (lv' := [(2, .null), (0, .ref h0), (1, .int u1)]) hx hb dX11_text_47 rfl hl (by decide) rfl (fun ls hl => ?_)
    refine lv_aload_n hx hb dX11_text_48 rfl (lv_at hl 1 rfl) ?_
    refine fg_RX11_30 E hW rh0 dX11_text_49 (fun a3 m4 r5 => ?_)
    refine lv_iconst (v := 0) hx hb dX11_text_52 (by decide) ?_
    refine fp_RX11_209 E hW r5 (by decide) dX11_text_53 (fun f6 H locs e7 n8 g9 hW => ?_)
    have hF := FM.tr hF g9 rfl
    refine lv_aload_nN hx hb dX11_text_56 rfl (lv_at hl 0 rfl) ?_
    refine lv_ifnonnullN hx hb dX11_text_57 ?_
    refine lv_aload_n hx hb dX11_text_60 rfl (lv_at hl 1 rfl) ?_
    refine lv_bipush (v := (-6)) hx hb dX11_text_61 (by decide) ?_
    refine t_callV (As := [.int (-6)]) (rest := []) E hW (c_X11_refuse l G cI cJ cZ cD cR cT kp L f6 hW.2.2.2 _ h0 (-6) rh0 (by decide)) rh0 (by decide) rfl wk_X11_refuse tw_603 rfl ⟨Nat.le_of_ble_eq_true rfl, Nat.le_of_ble_eq_true rfl⟩ ⟨rfl, rfl⟩ hl.1 rfl (Nat.le_of_ble_eq_true rfl) dX11_text_63 ⟨Nat.le_of_ble_eq_true rfl, Nat.le_of_ble_eq_true rfl⟩ (fun v10 f11 H locs q12 hW => ?_)
    obtain ⟨⟨x14, rfl, p15⟩, g13⟩ := q12
    have p15 : (-6 : Int) ≤ x14.toInt ∧ x14.toInt ≤ -1 := p15
    have hF := FM.tr hF g13 rfl
    exact hend _ _ _ _ _ _ E hF hW dX11_text_66
  · have r2 : RK kp L a1 9 := rx _ rfl
    have hl : lv_has ls 3 [(0, .ref h0), (1, .int u1)] := hl
    show W p l e ({ frames := 25, cells := 8, slots := 2810, locals := 640 }) s m ([.ref h0, .int u1] : List Value).toArray below meth c H locs 8 2810 Q (F0 m 47 ls [.ref a1])
    refine lv_astore_n (lv' := [(2, .ref a1), (0, .ref h0), (1, .int u1)]) hx hb dX11_text_47 rfl hl (by decide) rfl (fun ls hl => ?_)
    refine lv_aload_n hx hb dX11_text_48 rfl (lv_at hl 1 rfl) ?_
    refine fg_RX11_30 E hW rh0 dX11_text_49 (fun a16 m17 r18 => ?_)
    refine lv_iconst (v := 0) hx hb dX11_text_52 (by decide) ?_
    refine fp_RX11_209 E hW r18 (by decide) dX11_text_53 (fun f19 H locs e20 n21 g22 hW => ?_)
    have hF := FM.tr hF g22 rfl
    refine lv_aload_n hx hb dX11_text_56 rfl (lv_at hl 0 rfl) ?_
    refine lv_ifnonnull (tgt := 67) hx hb dX11_text_57 (by decide) ?_
    refine lv_aload_n hx hb dX11_text_67 rfl (lv_at hl 1 rfl) ?_
    refine lv_aload_n hx hb dX11_text_68 rfl (lv_at hl 1 rfl) ?_
    refine fg_RX11_12 E hW rh0 dX11_text_69 (fun a23 m24 r25 => ?_)
    refine fg_RX11_219 E hW r25 dX11_text_72 (fun a26 m27 r28 => ?_)
    refine lv_aload_n hx hb dX11_text_75 rfl (lv_at hl 0 rfl) ?_
    refine t_callV (As := [.ref a1]) (rest := [.ref h0]) E hW (c_X2_add l G cI cJ cZ cD cR cT kp L f19 hW.2.2.2 _ a26 a1 r28 r2) r28 (by decide) rfl wk_X2_add tw_1050 rfl ⟨Nat.le_of_ble_eq_true rfl, Nat.le_of_ble_eq_true rfl⟩ ⟨rfl, rfl⟩ hl.1 rfl (Nat.le_of_ble_eq_true rfl) dX11_text_76 ⟨Nat.le_of_ble_eq_true rfl, Nat.le_of_ble_eq_true rfl⟩ (fun v29 f30 H locs q31 hW => ?_)
    obtain ⟨⟨x33, rfl, p34⟩, g32⟩ := q31
    have hF := FM.tr hF g32 rfl
    refine t_callV (As := [.int x33]) (rest := []) E hW (c_X11_accept l G cI cJ cZ cD cR cT kp L f30 hW.2.2.2 _ h0 x33 rh0) rh0 (by decide) rfl wk_X11_accept tw_611 rfl ⟨Nat.le_of_ble_eq_true rfl, Nat.le_of_ble_eq_true rfl⟩ ⟨rfl, rfl⟩ hl.1 rfl (Nat.le_of_ble_eq_true rfl) dX11_text_79 ⟨Nat.le_of_ble_eq_true rfl, Nat.le_of_ble_eq_true rfl⟩ (fun v35 f36 H locs q37 hW => ?_)
    obtain ⟨⟨x39, rfl, p40⟩, g38⟩ := q37
    clear p40
    have hF := FM.tr hF g38 rfl
    exact hend _ _ _ _ _ _ E hF hW dX11_text_82
def ms_X11_beside : List (Nat × Nat) := [(0, 6), (0, 9), (0, 12), (0, 13), (0, 14), (1, 0), (1, 8), (1, 12), (1, 13), (1, 14), (2, 0), (3, 0), (3, 1), (3, 2), (3, 3), (4, 0), (5, 0), (5, 1), (5, 2), (5, 8), (5, 11), (5, 15), (5, 16), (8, 0), (10, 0), (10, 7), (108, 0), (115, 0), (161, 0), (162, 0), (163, 0), (164, 0), (165, 0), (166, 0), (167, 0), (169, 0), (170, 0), (171, 0), (221, 0), (222, 0), (223, 0), (284, 0), (285, 0), (341, 0), (342, 0), (343, 0), (344, 0), (345, 0), (346, 0), (347, 0), (348, 0), (349, 0), (403, 0), (404, 0), (405, 0), (406, 0), (407, 0), (409, 0), (410, 0), (412, 0), (413, 0), (414, 0), (520, 0), (521, 0), (701, 0), (702, 0), (703, 0), (704, 0), (705, 0), (706, 0), (708, 0), (709, 0), (710, 0)]
set_option maxHeartbeats 4000000 in
set_option maxRecDepth 100000 in
theorem beside_tail (l : Launch) (G : va_G) (cI cJ cZ cD cR cT : ClassId) (kp : Nat → Nat) (L : List Nat) (f0 : Nat → va_E) (p : Program) (e : Env) (s : State) (m : MethodId) (below : List Frame) (meth : Method) (c : Code) (A : Nat → Prop) (Q : State → Prop) (h0 : Nat) (u1 : Int32) (u2 : Int32) (x : Option Nat) (rh0 : RK kp L h0 11) (rx : ∀ b, x = some b → RK kp L b 9) (ls : Array Slot) (H : Heap) (locs : List Loc) (E : EV G cI cJ cZ cD cR cT A cX11_beside (some .long) 4 yX11_beside.cls p s m ([.ref h0, .int u1] : List Value).toArray meth c) (hW : WS G cI cJ cZ cD cR cT A kp L f0 s H locs) (hl : lv_has ls 4 [(0, .ref h0), (1, .int u1), (2, .int u2)])
  (hend : ∀ (pc : Nat) (r : Int64) (f : Nat → va_E) (ls : Array Slot) (H : Heap) (locs : List Loc), EV G cI cJ cZ cD cR cT A cX11_beside (some .long) 4 yX11_beside.cls p s m ([.ref h0, .int u1] : List Value).toArray meth c → FM kp L ms_X11_beside f0 f → WS G cI cJ cZ cD cR cT A kp L f s H locs → decode cX11_beside pc = .ok (.lreturn, 1) → W p l e ({ frames := 25, cells := 8, slots := 2810, locals := 640 }) s m ([.ref h0, .int u1] : List Value).toArray below meth c H locs 8 2810 Q (F0 m pc ls [.long r])) : W p l e ({ frames := 25, cells := 8, slots := 2810, locals := 640 }) s m ([.ref h0, .int u1] : List Value).toArray below meth c H locs 8 2810 Q (F0 m 55 ls [va_rf x]) := by
  obtain ⟨hx, hb, -, hml, hown, hts, -, -, -⟩ := id E
  have hTH := hW.2.2.2
  have hF : FM kp L ms_X11_beside f0 f0 := FM.rf
  rcases x with _ | a1
  · have hl : lv_has ls 4 [(0, .ref h0), (1, .int u1), (2, .int u2)] := hl
    show W p l e ({ frames := 25, cells := 8, slots := 2810, locals := 640 }) s m ([.ref h0, .int u1] : List Value).toArray below meth c H locs 8 2810 Q (F0 m 55 ls [.null])
    refine lv_astore_nN (lv' := [(3, .null), (0, .ref h0), (1, .int u1), (2, .int u2)]) hx hb dX11_beside_55 rfl hl (by decide) rfl (fun ls hl => ?_)
    refine lv_aload_n hx hb dX11_beside_56 rfl (lv_at hl 1 rfl) ?_
    refine fg_RX11_30 E hW rh0 dX11_beside_57 (fun a3 m4 r5 => ?_)
    refine lv_iconst (v := 0) hx hb dX11_beside_60 (by decide) ?_
    refine fp_RX11_209 E hW r5 (by decide) dX11_beside_61 (fun f6 H locs e7 n8 g9 hW => ?_)
    have hF := FM.tr hF g9 rfl
    refine lv_aload_nN hx hb dX11_beside_64 rfl (lv_at hl 0 rfl) ?_
    refine lv_ifnonnullN hx hb dX11_beside_65 ?_
    refine lv_ldc2 (v := (-2000000000000)) hx hb hown (hts _ tw_1335) dX11_beside_68 ?_
    refine lv_goto (tgt := 87) hx hb dX11_beside_71 (by decide) ?_
    exact hend _ _ _ _ _ _ E hF hW dX11_beside_87
  · have r2 : RK kp L a1 9 := rx _ rfl
    have hl : lv_has ls 4 [(0, .ref h0), (1, .int u1), (2, .int u2)] := hl
    show W p l e ({ frames := 25, cells := 8, slots := 2810, locals := 640 }) s m ([.ref h0, .int u1] : List Value).toArray below meth c H locs 8 2810 Q (F0 m 55 ls [.ref a1])
    refine lv_astore_n (lv' := [(3, .ref a1), (0, .ref h0), (1, .int u1), (2, .int u2)]) hx hb dX11_beside_55 rfl hl (by decide) rfl (fun ls hl => ?_)
    refine lv_aload_n hx hb dX11_beside_56 rfl (lv_at hl 1 rfl) ?_
    refine fg_RX11_30 E hW rh0 dX11_beside_57 (fun a10 m11 r12 => ?_)
    refine lv_iconst (v := 0) hx hb dX11_beside_60 (by decide) ?_
    refine fp_RX11_209 E hW r12 (by decide) dX11_beside_61 (fun f13 H locs e14 n15 g16 hW => ?_)
    have hF := FM.tr hF g16 rfl
    refine lv_aload_n hx hb dX11_beside_64 rfl (lv_at hl 0 rfl) ?_
    refine lv_ifnonnull (tgt := 74) hx hb dX11_beside_65 (by decide) ?_
    refine lv_aload_n hx hb dX11_beside_74 rfl (lv_at hl 1 rfl) ?_
    refine lv_iload_n hx hb dX11_beside_75 rfl (lv_at hl 2 rfl) ?_
    refine lv_aload_n hx hb dX11_beside_76 rfl (lv_at hl 0 rfl) ?_
    refine t_callV (As := [.int u1, .ref a1]) (rest := []) E hW (c_X11_gotOnPaper_t l G cI cJ cZ cD cR cT kp L f13 hW.2.2.2 _ h0 u1 a1 rh0 r2) rh0 (by decide) rfl wk_X11_gotOnPaper tw_1336 rfl ⟨Nat.le_of_ble_eq_true rfl, Nat.le_of_ble_eq_true rfl⟩ ⟨rfl, rfl⟩ hl.1 rfl (Nat.le_of_ble_eq_true rfl) dX11_beside_77 ⟨Nat.le_of_ble_eq_true rfl, Nat.le_of_ble_eq_true rfl⟩ (fun v17 f18 H locs q19 hW => ?_)
    obtain ⟨⟨x21, rfl, p22⟩, g20⟩ := q19
    clear p22
    have hF := FM.tr hF g20 rfl
    refine lv_aload_n hx hb dX11_beside_80 rfl (lv_at hl 1 rfl) ?_
    refine lv_iload_n hx hb dX11_beside_81 rfl (lv_at hl 2 rfl) ?_
    refine lv_null hx hb dX11_beside_82 ?_
    refine t_callV (As := [.int u1, .null]) (rest := [.long x21]) E hW (c_X11_gotOnPaper_n l G cI cJ cZ cD cR cT kp L f18 hW.2.2.2 _ h0 u1 rh0) rh0 (by decide) rfl wk_X11_gotOnPaper tw_1336 rfl ⟨Nat.le_of_ble_eq_true rfl, Nat.le_of_ble_eq_true rfl⟩ ⟨rfl, rfl⟩ hl.1 rfl (Nat.le_of_ble_eq_true rfl) dX11_beside_83 ⟨Nat.le_of_ble_eq_true rfl, Nat.le_of_ble_eq_true rfl⟩ (fun v23 f24 H locs q25 hW => ?_)
    obtain ⟨⟨x27, rfl, p28⟩, g26⟩ := q25
    clear p28
    have hF := FM.tr hF g26 rfl
    refine u_lsub hx hb dX11_beside_86 (fun x29 => ?_)
    exact hend _ _ _ _ _ _ E hF hW dX11_beside_87
