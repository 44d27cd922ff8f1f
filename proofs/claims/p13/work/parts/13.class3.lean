
def ms_X11_accept : List (Nat × Nat) := [(11, 15)]
def po_X11_accept (kp : Nat → Nat) (L : List Nat) (f0 : Nat → va_E) (h0 : Nat) (u1 : Int32) : Option Value → (Nat → va_E) → Prop := fun v f => (∃ r : Int32, v = some (.int r) ∧ (True)) ∧ FM kp L ms_X11_accept f0 f
set_option maxHeartbeats 4000000 in
set_option maxRecDepth 100000 in
theorem c_X11_accept (l : Launch) (G : va_G) (cI cJ cZ cD cR cT : ClassId) (kp : Nat → Nat) (L : List Nat) (f0 : Nat → va_E) (hTH : TH cI cJ cZ cD cR cT kp L f0) (sz : Nat) (h0 : Nat) (u1 : Int32) (rh0 : RK kp L h0 11) : Met l yX11_accept (Cond.code yX11_accept cX11_accept 2 (some .int) :: wTab) ({ frames := 1, cells := 0, slots := 0, locals := 40 }) (va_Pc [.ref h0, .int u1] (PreW G (tys6 cI cJ cZ cD cR cT) (va_pl L f0) sz)) (QT (po_X11_accept kp L f0 h0 u1) G cI cJ cZ cD cR cT (va_A (va_pl L f0) sz) kp L) 0 0 (va_A (va_pl L f0) sz) := by
  refine metT (by decide) (Nat.le_of_ble_eq_true rfl) hTH ?_
  intro p e s m below meth c A ls E hW hl
  obtain ⟨hx, hb, -, hml, hown, hts, -, -, -⟩ := id E
  have hF : FM kp L ms_X11_accept f0 f0 := FM.rf
  have hl : lv_has ls 2 [(0, .ref h0), (1, .int u1)] := hl
  refine lv_aload_n hx hb dX11_accept_0 rfl (lv_at hl 0 rfl) ?_
  refine lv_iconst (v := 0) hx hb dX11_accept_1 (by decide) ?_
  refine fp_RX11_356 E hW rh0 dX11_accept_2 (fun f1472004 H locs e1472005 n1472006 g1472007 hW => ?_)
  have hF := FM.tr hF g1472007 rfl
  refine lv_iload_n hx hb dX11_accept_5 rfl (lv_at hl 1 rfl) ?_
  exact e_I E hW rfl ⟨⟨_, rfl, trivial⟩, hF⟩ dX11_accept_6
def ms_X11_within : List (Nat × Nat) := []
def po_X11_within (kp : Nat → Nat) (L : List Nat) (f0 : Nat → va_E) (u1 : Int32) (u2 : Int32) (u3 : Int32) : Option Value → (Nat → va_E) → Prop := fun v f => (∃ r : Int32, v = some (.int r) ∧ ((r.toInt = 1 ∧ u2.toInt ≤ u1.toInt ∧ u1.toInt ≤ u3.toInt) ∨ (r.toInt = 0 ∧ (u1.toInt < u2.toInt ∨ u3.toInt < u1.toInt)))) ∧ FM kp L ms_X11_within f0 f
set_option maxHeartbeats 4000000 in
set_option maxRecDepth 100000 in
theorem c_X11_within (l : Launch) (G : va_G) (cI cJ cZ cD cR cT : ClassId) (kp : Nat → Nat) (L : List Nat) (f0 : Nat → va_E) (hTH : TH cI cJ cZ cD cR cT kp L f0) (sz : Nat) (u1 : Int32) (u2 : Int32) (u3 : Int32) (pu2 : (-10000 : Int) ≤ u2.toInt ∧ u2.toInt ≤ 31) : Met l yX11_within (Cond.code yX11_within cX11_within 3 (some .boolean) :: wTab) ({ frames := 1, cells := 0, slots := 0, locals := 40 }) (va_Pc [.int u1, .int u2, .int u3] (PreW G (tys6 cI cJ cZ cD cR cT) (va_pl L f0) sz)) (QT (po_X11_within kp L f0 u1 u2 u3) G cI cJ cZ cD cR cT (va_A (va_pl L f0) sz) kp L) 0 0 (va_A (va_pl L f0) sz) := by
  refine metT (by decide) (Nat.le_of_ble_eq_true rfl) hTH ?_
  intro p e s m below meth c A ls E hW hl
  obtain ⟨hx, hb, -, hml, hown, hts, -, -, -⟩ := id E
  have hF : FM kp L ms_X11_within f0 f0 := FM.rf
  have hl : lv_has ls 3 [(0, .int u1), (1, .int u2), (2, .int u3)] := hl
  refine lv_iload_n hx hb dX11_within_0 rfl (lv_at hl 0 rfl) ?_
  refine lv_iload_n hx hb dX11_within_1 rfl (lv_at hl 1 rfl) ?_
  refine q_icmp_lt (tgt := 14) hx hb dX11_within_2 (by decide) rfl rfl (fun c1472008 => ?_) (fun c1472008 => ?_)
  · refine lv_iconst (v := 0) hx hb dX11_within_14 (by decide) ?_
    exact e_Z E hW rfl (by decide) ⟨⟨_, rfl, (by have hk : (0 : Int32).toInt = 0 := rfl; first | decide | omega)⟩, hF⟩ dX11_within_15
  · refine lv_iload_n hx hb dX11_within_5 rfl (lv_at hl 0 rfl) ?_
    refine lv_iload_n hx hb dX11_within_6 rfl (lv_at hl 2 rfl) ?_
    refine q_icmp_gt (tgt := 14) hx hb dX11_within_7 (by decide) rfl rfl (fun c1472009 => ?_) (fun c1472009 => ?_)
    · have hb1472010 : u3.toInt ≤ 2147483646 := by have := i32_b u1; omega
      refine lv_iconst (v := 0) hx hb dX11_within_14 (by decide) ?_
      exact e_Z E hW rfl (by decide) ⟨⟨_, rfl, (by have hk : (0 : Int32).toInt = 0 := rfl; first | decide | omega)⟩, hF⟩ dX11_within_15
    · refine lv_iconst (v := 1) hx hb dX11_within_10 (by decide) ?_
      refine lv_goto (tgt := 15) hx hb dX11_within_11 (by decide) ?_
      exact e_Z E hW rfl (by decide) ⟨⟨_, rfl, (by have hk : (1 : Int32).toInt = 1 := rfl; first | decide | omega)⟩, hF⟩ dX11_within_15
def ms_X11_agree : List (Nat × Nat) := []
def po_X11_agree (kp : Nat → Nat) (L : List Nat) (f0 : Nat → va_E) (h0 : Nat) (u1 : Int32) (u2 : Int32) : Option Value → (Nat → va_E) → Prop := fun v f => (∃ r : Int32, v = some (.int r) ∧ ((-1 : Int) ≤ r.toInt)) ∧ FM kp L ms_X11_agree f0 f
set_option maxHeartbeats 4000000 in
set_option maxRecDepth 100000 in
theorem c_X11_agree (l : Launch) (G : va_G) (cI cJ cZ cD cR cT : ClassId) (kp : Nat → Nat) (L : List Nat) (f0 : Nat → va_E) (hTH : TH cI cJ cZ cD cR cT kp L f0) (sz : Nat) (h0 : Nat) (u1 : Int32) (u2 : Int32) (rh0 : RK kp L h0 11) : Met l yX11_agree (Cond.code yX11_agree cX11_agree 3 (some .int) :: wTab) ({ frames := 3, cells := 0, slots := 0, locals := 92 }) (va_Pc [.ref h0, .int u1, .int u2] (PreW G (tys6 cI cJ cZ cD cR cT) (va_pl L f0) sz)) (QT (po_X11_agree kp L f0 h0 u1 u2) G cI cJ cZ cD cR cT (va_A (va_pl L f0) sz) kp L) 0 0 (va_A (va_pl L f0) sz) := by
  refine metT (by decide) (Nat.le_of_ble_eq_true rfl) hTH ?_
  intro p e s m below meth c A ls E hW hl
  obtain ⟨hx, hb, -, hml, hown, hts, -, -, -⟩ := id E
  have hF : FM kp L ms_X11_agree f0 f0 := FM.rf
  have hl : lv_has ls 3 [(0, .ref h0), (1, .int u1), (2, .int u2)] := hl
  refine lv_iload_n hx hb dX11_agree_0 rfl (lv_at hl 1 rfl) ?_
  refine lv_sipush (v := (-10000)) hx hb dX11_agree_1 (by decide) ?_
  refine lv_sipush (v := 10000) hx hb dX11_agree_4 (by decide) ?_
  refine t_callS (As := [.int u1, .int (-10000), .int 10000]) (rest := []) E hW (c_X11_within l G cI cJ cZ cD cR cT kp L f0 hW.2.2.2 _ u1 (-10000) 10000 (by decide)) wk_X11_within tw_599 rfl ⟨Nat.le_of_ble_eq_true rfl, Nat.le_of_ble_eq_true rfl⟩ ⟨rfl, rfl⟩ hl.1 rfl (Nat.le_of_ble_eq_true rfl) dX11_agree_7 ⟨Nat.le_of_ble_eq_true rfl, Nat.le_of_ble_eq_true rfl⟩ (fun v1472011 f1472012 H locs q1472013 hW => ?_)
  obtain ⟨⟨x1472015, rfl, p1472016⟩, g1472014⟩ := q1472013
  have p1472016 : (x1472015.toInt = 1 ∧ (-10000) ≤ u1.toInt ∧ u1.toInt ≤ 10000) ∨ (x1472015.toInt = 0 ∧ (u1.toInt < (-10000) ∨ 10000 < u1.toInt)) := p1472016
  have hF := FM.tr hF g1472014 rfl
  refine q_if_eq (tgt := 26) hx hb dX11_agree_10 (by decide) rfl (fun c1472017 => ?_) (fun c1472017 => ?_)
  · have q1472018 : (u1.toInt < (-10000) ∨ 10000 < u1.toInt) := by omega
    clear p1472016
    refine lv_iconst (v := (-1)) hx hb dX11_agree_26 (by decide) ?_
    exact e_I E hW rfl ⟨⟨_, rfl, (by have hk : ((-1) : Int32).toInt = -1 := rfl; first | decide | omega)⟩, hF⟩ dX11_agree_27
  · have q1472019 : (-10000) ≤ u1.toInt ∧ u1.toInt ≤ 10000 := by omega
    clear p1472016
    refine lv_iload_n hx hb dX11_agree_13 rfl (lv_at hl 2 rfl) ?_
    refine lv_sipush (v := (-10000)) hx hb dX11_agree_14 (by decide) ?_
    refine lv_sipush (v := 10000) hx hb dX11_agree_17 (by decide) ?_
    refine t_callS (As := [.int u2, .int (-10000), .int 10000]) (rest := []) E hW (c_X11_within l G cI cJ cZ cD cR cT kp L f1472012 hW.2.2.2 _ u2 (-10000) 10000 (by decide)) wk_X11_within tw_599 rfl ⟨Nat.le_of_ble_eq_true rfl, Nat.le_of_ble_eq_true rfl⟩ ⟨rfl, rfl⟩ hl.1 rfl (Nat.le_of_ble_eq_true rfl) dX11_agree_20 ⟨Nat.le_of_ble_eq_true rfl, Nat.le_of_ble_eq_true rfl⟩ (fun v1472020 f1472021 H locs q1472022 hW => ?_)
    obtain ⟨⟨x1472024, rfl, p1472025⟩, g1472023⟩ := q1472022
    have p1472025 : (x1472024.toInt = 1 ∧ (-10000) ≤ u2.toInt ∧ u2.toInt ≤ 10000) ∨ (x1472024.toInt = 0 ∧ (u2.toInt < (-10000) ∨ 10000 < u2.toInt)) := p1472025
    have hF := FM.tr hF g1472023 rfl
    refine q_if_ne (tgt := 28) hx hb dX11_agree_23 (by decide) rfl (fun c1472026 => ?_) (fun c1472026 => ?_)
    · have q1472027 : (-10000) ≤ u2.toInt ∧ u2.toInt ≤ 10000 := by omega
      clear p1472025
      refine lv_aload_n hx hb dX11_agree_28 rfl (lv_at hl 0 rfl) ?_
      refine fg_RX11_12 E hW rh0 dX11_agree_29 (fun a1472028 m1472029 r1472030 => ?_)
      refine fg_RX11_98 E hW r1472030 dX11_agree_32 (fun a1472031 m1472032 r1472033 => ?_)
      refine lv_iload_n hx hb dX11_agree_35 rfl (lv_at hl 1 rfl) ?_
      refine lv_iload_n hx hb dX11_agree_36 rfl (lv_at hl 2 rfl) ?_
      refine t_callV (As := [.int u1, .int u2]) (rest := []) E hW (c_X3_bestSet l G cI cJ cZ cD cR cT kp L f1472021 hW.2.2.2 _ a1472031 u1 u2 r1472033 (by omega) (by omega)) r1472033 (by decide) rfl wk_X3_bestSet tw_1238 rfl ⟨Nat.le_of_ble_eq_true rfl, Nat.le_of_ble_eq_true rfl⟩ ⟨rfl, rfl⟩ hl.1 rfl (Nat.le_of_ble_eq_true rfl) dX11_agree_37 ⟨Nat.le_of_ble_eq_true rfl, Nat.le_of_ble_eq_true rfl⟩ (fun v1472034 f1472035 H locs q1472036 hW => ?_)
      obtain ⟨⟨x1472038, rfl, p1472039⟩, g1472037⟩ := q1472036
      have hF := FM.tr hF g1472037 rfl
      exact e_I E hW rfl ⟨⟨_, rfl, (by first | omega | trivial)⟩, hF⟩ dX11_agree_40
    · have q1472040 : (u2.toInt < (-10000) ∨ 10000 < u2.toInt) := by omega
      clear p1472025
      refine lv_iconst (v := (-1)) hx hb dX11_agree_26 (by decide) ?_
      exact e_I E hW rfl ⟨⟨_, rfl, (by have hk : ((-1) : Int32).toInt = -1 := rfl; first | decide | omega)⟩, hF⟩ dX11_agree_27
def ms_X11_refuse : List (Nat × Nat) := [(11, 15)]
def po_X11_refuse (kp : Nat → Nat) (L : List Nat) (f0 : Nat → va_E) (h0 : Nat) (u1 : Int32) : Option Value → (Nat → va_E) → Prop := fun v f => (∃ r : Int32, v = some (.int r) ∧ ((-6 : Int) ≤ r.toInt ∧ r.toInt ≤ -1)) ∧ FM kp L ms_X11_refuse f0 f
set_option maxHeartbeats 4000000 in
set_option maxRecDepth 100000 in
theorem c_X11_refuse (l : Launch) (G : va_G) (cI cJ cZ cD cR cT : ClassId) (kp : Nat → Nat) (L : List Nat) (f0 : Nat → va_E) (hTH : TH cI cJ cZ cD cR cT kp L f0) (sz : Nat) (h0 : Nat) (u1 : Int32) (rh0 : RK kp L h0 11) (pu1 : (-6 : Int) ≤ u1.toInt ∧ u1.toInt ≤ -1) : Met l yX11_refuse (Cond.code yX11_refuse cX11_refuse 2 (some .int) :: wTab) ({ frames := 1, cells := 0, slots := 0, locals := 40 }) (va_Pc [.ref h0, .int u1] (PreW G (tys6 cI cJ cZ cD cR cT) (va_pl L f0) sz)) (QT (po_X11_refuse kp L f0 h0 u1) G cI cJ cZ cD cR cT (va_A (va_pl L f0) sz) kp L) 0 0 (va_A (va_pl L f0) sz) := by
  refine metT (by decide) (Nat.le_of_ble_eq_true rfl) hTH ?_
  intro p e s m below meth c A ls E hW hl
  obtain ⟨hx, hb, -, hml, hown, hts, -, -, -⟩ := id E
  have hF : FM kp L ms_X11_refuse f0 f0 := FM.rf
  have hl : lv_has ls 2 [(0, .ref h0), (1, .int u1)] := hl
  refine lv_aload_n hx hb dX11_refuse_0 rfl (lv_at hl 0 rfl) ?_
  refine lv_iload_n hx hb dX11_refuse_1 rfl (lv_at hl 1 rfl) ?_
  refine fp_RX11_356 E hW rh0 dX11_refuse_2 (fun f1472041 H locs e1472042 n1472043 g1472044 hW => ?_)
  have hF := FM.tr hF g1472044 rfl
  refine lv_iload_n hx hb dX11_refuse_5 rfl (lv_at hl 1 rfl) ?_
  exact e_I E hW rfl ⟨⟨_, rfl, (by first | omega | trivial)⟩, hF⟩ dX11_refuse_6
def ms_X11_alter : List (Nat × Nat) := [(11, 15), (163, 0)]
def po_X11_alter (kp : Nat → Nat) (L : List Nat) (f0 : Nat → va_E) (h0 : Nat) (u1 : Int32) (u2 : Int32) : Option Value → (Nat → va_E) → Prop := fun v f => (∃ r : Int32, v = some (.int r) ∧ (True)) ∧ FM kp L ms_X11_alter f0 f
set_option maxHeartbeats 4000000 in
set_option maxRecDepth 100000 in
theorem c_X11_alter (l : Launch) (G : va_G) (cI cJ cZ cD cR cT : ClassId) (kp : Nat → Nat) (L : List Nat) (f0 : Nat → va_E) (hTH : TH cI cJ cZ cD cR cT kp L f0) (sz : Nat) (h0 : Nat) (u1 : Int32) (u2 : Int32) (rh0 : RK kp L h0 11) : Met l yX11_alter (Cond.code yX11_alter cX11_alter 3 (some .int) :: wTab) ({ frames := 2, cells := 0, slots := 0, locals := 62 }) (va_Pc [.ref h0, .int u1, .int u2] (PreW G (tys6 cI cJ cZ cD cR cT) (va_pl L f0) sz)) (QT (po_X11_alter kp L f0 h0 u1 u2) G cI cJ cZ cD cR cT (va_A (va_pl L f0) sz) kp L) 0 0 (va_A (va_pl L f0) sz) := by
  refine metT (by decide) (Nat.le_of_ble_eq_true rfl) hTH ?_
  intro p e s m below meth c A ls E hW hl
  obtain ⟨hx, hb, -, hml, hown, hts, -, -, -⟩ := id E
  have hF : FM kp L ms_X11_alter f0 f0 := FM.rf
  have hl : lv_has ls 3 [(0, .ref h0), (1, .int u1), (2, .int u2)] := hl
  refine lv_iload_n hx hb dX11_alter_0 rfl (lv_at hl 2 rfl) ?_
  refine lv_iconst (v := 1) hx hb dX11_alter_1 (by decide) ?_
  refine lv_sipush (v := 255) hx hb dX11_alter_2 (by decide) ?_
  refine t_callS (As := [.int u2, .int 1, .int 255]) (rest := []) E hW (c_X11_within l G cI cJ cZ cD cR cT kp L f0 hW.2.2.2 _ u2 1 255 (by decide)) wk_X11_within tw_599 rfl ⟨Nat.le_of_ble_eq_true rfl, Nat.le_of_ble_eq_true rfl⟩ ⟨rfl, rfl⟩ hl.1 rfl (Nat.le_of_ble_eq_true rfl) dX11_alter_5 ⟨Nat.le_of_ble_eq_true rfl, Nat.le_of_ble_eq_true rfl⟩ (fun v1472045 f1472046 H locs q1472047 hW => ?_)
  obtain ⟨⟨x1472049, rfl, p1472050⟩, g1472048⟩ := q1472047
  have p1472050 : (x1472049.toInt = 1 ∧ 1 ≤ u2.toInt ∧ u2.toInt ≤ 255) ∨ (x1472049.toInt = 0 ∧ (u2.toInt < 1 ∨ 255 < u2.toInt)) := p1472050
  have hF := FM.tr hF g1472048 rfl
  refine q_if_ne (tgt := 17) hx hb dX11_alter_8 (by decide) rfl (fun c1472051 => ?_) (fun c1472051 => ?_)
  · have q1472052 : 1 ≤ u2.toInt ∧ u2.toInt ≤ 255 := by omega
    clear p1472050
    refine lv_aload_n hx hb dX11_alter_17 rfl (lv_at hl 0 rfl) ?_
    refine fg_RX11_12 E hW rh0 dX11_alter_18 (fun a1472053 m1472054 r1472055 => ?_)
    refine fg_RX11_114 E hW r1472055 dX11_alter_21 (fun a1472056 m1472057 r1472058 => ?_)
    refine lv_iload_n hx hb dX11_alter_24 rfl (lv_at hl 1 rfl) ?_
    refine t_callV (As := [.int u1]) (rest := []) E hW (c_X1_has l G cI cJ cZ cD cR cT kp L f1472046 hW.2.2.2 _ a1472056 u1 r1472058) r1472058 (by decide) rfl wk_X1_has tw_683 rfl ⟨Nat.le_of_ble_eq_true rfl, Nat.le_of_ble_eq_true rfl⟩ ⟨rfl, rfl⟩ hl.1 rfl (Nat.le_of_ble_eq_true rfl) dX11_alter_25 ⟨Nat.le_of_ble_eq_true rfl, Nat.le_of_ble_eq_true rfl⟩ (fun v1472059 f1472060 H locs q1472061 hW => ?_)
    obtain ⟨⟨x1472063, rfl, p1472064⟩, g1472062⟩ := q1472061
    have hF := FM.tr hF g1472062 rfl
    refine q_if_ne (tgt := 38) hx hb dX11_alter_28 (by decide) rfl (fun c1472065 => ?_) (fun c1472065 => ?_)
    · have q1472066 : 0 ≤ u1.toInt ∧ u1.toInt ≤ 39 := by omega
      clear p1472064
      refine lv_aload_n hx hb dX11_alter_38 rfl (lv_at hl 0 rfl) ?_
      refine fg_RX11_12 E hW rh0 dX11_alter_39 (fun a1472067 m1472068 r1472069 => ?_)
      obtain rfl : a1472053 = a1472067 := (((fm_R g1472062 rh0 rfl).trans m1472054)).symm.trans m1472068
      refine fg_RX11_114 E hW r1472055 dX11_alter_42 (fun a1472070 m1472071 r1472072 => ?_)
      obtain rfl : a1472056 = a1472070 := (((fm_R g1472062 r1472055 rfl).trans m1472057)).symm.trans m1472071
      refine fg_RX11_157 E hW r1472058 dX11_alter_45 (fun a1472073 m1472074 r1472075 => ?_)
      refine lv_iload_n hx hb dX11_alter_48 rfl (lv_at hl 1 rfl) ?_
      refine lv_dup2_11 hx hb dX11_alter_49 rfl rfl ?_
      refine gl_163 E hW r1472075 ⟨by omega, by omega⟩ dX11_alter_50 (fun y1472076 m1472077 => ?_)
      refine lv_iload_n hx hb dX11_alter_51 rfl (lv_at hl 2 rfl) ?_
      refine u_ixor hx hb dX11_alter_52 (fun x1472079 => ?_)
      refine gs_163 E hW r1472075 ⟨by omega, by omega⟩ dX11_alter_53 (fun f1472080 H locs e1472081 n1472082 g1472083 hW => ?_)
      have hF := FM.tr hF g1472083 rfl
      refine lv_aload_n hx hb dX11_alter_54 rfl (lv_at hl 0 rfl) ?_
      refine lv_aload_n hx hb dX11_alter_55 rfl (lv_at hl 0 rfl) ?_
      refine fg_RX11_12 E hW rh0 dX11_alter_56 (fun a1472084 m1472085 r1472086 => ?_)
      obtain rfl : a1472053 = a1472084 := (((fm_R g1472083 rh0 rfl).trans m1472068)).symm.trans m1472085
      refine fg_RX11_114 E hW r1472055 dX11_alter_59 (fun a1472087 m1472088 r1472089 => ?_)
      obtain rfl : a1472056 = a1472087 := (((fm_R g1472083 r1472055 rfl).trans m1472071)).symm.trans m1472088
      refine fg_RX11_157 E hW r1472058 dX11_alter_62 (fun a1472090 m1472091 r1472092 => ?_)
      obtain rfl : a1472073 = a1472090 := (((fm_R g1472083 r1472058 rfl).trans m1472074)).symm.trans m1472091
      refine lv_iload_n hx hb dX11_alter_65 rfl (lv_at hl 1 rfl) ?_
      refine gl_163 E hW r1472075 ⟨by omega, by omega⟩ dX11_alter_66 (fun y1472093 m1472094 => ?_)
      obtain rfl : x1472079 = y1472093 := ((show aI (f1472080 a1472073) (u1 : Int32).toNatClampNeg = x1472079 from by rw [e1472081]; exact up_s)).symm.trans m1472094
      refine t_callV (As := [.int x1472079]) (rest := []) E hW (c_X11_accept l G cI cJ cZ cD cR cT kp L f1472080 hW.2.2.2 _ h0 x1472079 rh0) rh0 (by decide) rfl wk_X11_accept tw_611 rfl ⟨Nat.le_of_ble_eq_true rfl, Nat.le_of_ble_eq_true rfl⟩ ⟨rfl, rfl⟩ hl.1 rfl (Nat.le_of_ble_eq_true rfl) dX11_alter_67 ⟨Nat.le_of_ble_eq_true rfl, Nat.le_of_ble_eq_true rfl⟩ (fun v1472096 f1472097 H locs q1472098 hW => ?_)
      obtain ⟨⟨x1472100, rfl, p1472101⟩, g1472099⟩ := q1472098
      clear p1472101
      have hF := FM.tr hF g1472099 rfl
      exact e_I E hW rfl ⟨⟨_, rfl, trivial⟩, hF⟩ dX11_alter_70
    · clear p1472064
      refine lv_aload_n hx hb dX11_alter_31 rfl (lv_at hl 0 rfl) ?_
      refine lv_bipush (v := (-2)) hx hb dX11_alter_32 (by decide) ?_
      refine t_callV (As := [.int (-2)]) (rest := []) E hW (c_X11_refuse l G cI cJ cZ cD cR cT kp L f1472060 hW.2.2.2 _ h0 (-2) rh0 (by decide)) rh0 (by decide) rfl wk_X11_refuse tw_603 rfl ⟨Nat.le_of_ble_eq_true rfl, Nat.le_of_ble_eq_true rfl⟩ ⟨rfl, rfl⟩ hl.1 rfl (Nat.le_of_ble_eq_true rfl) dX11_alter_34 ⟨Nat.le_of_ble_eq_true rfl, Nat.le_of_ble_eq_true rfl⟩ (fun v1472102 f1472103 H locs q1472104 hW => ?_)
      obtain ⟨⟨x1472106, rfl, p1472107⟩, g1472105⟩ := q1472104
      have p1472107 : (-6 : Int) ≤ x1472106.toInt ∧ x1472106.toInt ≤ -1 := p1472107
      have hF := FM.tr hF g1472105 rfl
      exact e_I E hW rfl ⟨⟨_, rfl, trivial⟩, hF⟩ dX11_alter_37
  · have q1472108 : (u2.toInt < 1 ∨ 255 < u2.toInt) := by omega
    clear p1472050
    refine lv_aload_n hx hb dX11_alter_11 rfl (lv_at hl 0 rfl) ?_
    refine lv_iconst (v := (-1)) hx hb dX11_alter_12 (by decide) ?_
    refine t_callV (As := [.int (-1)]) (rest := []) E hW (c_X11_refuse l G cI cJ cZ cD cR cT kp L f1472046 hW.2.2.2 _ h0 (-1) rh0 (by decide)) rh0 (by decide) rfl wk_X11_refuse tw_603 rfl ⟨Nat.le_of_ble_eq_true rfl, Nat.le_of_ble_eq_true rfl⟩ ⟨rfl, rfl⟩ hl.1 rfl (Nat.le_of_ble_eq_true rfl) dX11_alter_13 ⟨Nat.le_of_ble_eq_true rfl, Nat.le_of_ble_eq_true rfl⟩ (fun v1472109 f1472110 H locs q1472111 hW => ?_)
    obtain ⟨⟨x1472113, rfl, p1472114⟩, g1472112⟩ := q1472111
    have p1472114 : (-6 : Int) ≤ x1472113.toInt ∧ x1472113.toInt ≤ -1 := p1472114
    have hF := FM.tr hF g1472112 rfl
    exact e_I E hW rfl ⟨⟨_, rfl, trivial⟩, hF⟩ dX11_alter_16
def ms_X11_avoid : List (Nat × Nat) := [(11, 15), (706, 0)]
def po_X11_avoid (kp : Nat → Nat) (L : List Nat) (f0 : Nat → va_E) (h0 : Nat) (u1 : Int32) : Option Value → (Nat → va_E) → Prop := fun v f => (∃ r : Int32, v = some (.int r) ∧ (True)) ∧ FM kp L ms_X11_avoid f0 f
set_option maxHeartbeats 4000000 in
set_option maxRecDepth 100000 in
theorem c_X11_avoid (l : Launch) (G : va_G) (cI cJ cZ cD cR cT : ClassId) (kp : Nat → Nat) (L : List Nat) (f0 : Nat → va_E) (hTH : TH cI cJ cZ cD cR cT kp L f0) (sz : Nat) (h0 : Nat) (u1 : Int32) (rh0 : RK kp L h0 11) : Met l yX11_avoid (Cond.code yX11_avoid cX11_avoid 3 (some .int) :: wTab) ({ frames := 2, cells := 0, slots := 0, locals := 62 }) (va_Pc [.ref h0, .int u1] (PreW G (tys6 cI cJ cZ cD cR cT) (va_pl L f0) sz)) (QT (po_X11_avoid kp L f0 h0 u1) G cI cJ cZ cD cR cT (va_A (va_pl L f0) sz) kp L) 0 0 (va_A (va_pl L f0) sz) := by
  refine metT (by decide) (Nat.le_of_ble_eq_true rfl) hTH ?_
  intro p e s m below meth c A ls E hW hl
  obtain ⟨hx, hb, -, hml, hown, hts, -, -, -⟩ := id E
  have hF : FM kp L ms_X11_avoid f0 f0 := FM.rf
  have hl : lv_has ls 3 [(0, .ref h0), (1, .int u1)] := hl
  refine lv_aload_n hx hb dX11_avoid_0 rfl (lv_at hl 0 rfl) ?_
  refine fg_RX11_12 E hW rh0 dX11_avoid_1 (fun a1472115 m1472116 r1472117 => ?_)
  refine fg_RX11_114 E hW r1472117 dX11_avoid_4 (fun a1472118 m1472119 r1472120 => ?_)
  refine lv_iload_n hx hb dX11_avoid_7 rfl (lv_at hl 1 rfl) ?_
  refine t_callV (As := [.int u1]) (rest := []) E hW (c_X1_has l G cI cJ cZ cD cR cT kp L f0 hW.2.2.2 _ a1472118 u1 r1472120) r1472120 (by decide) rfl wk_X1_has tw_683 rfl ⟨Nat.le_of_ble_eq_true rfl, Nat.le_of_ble_eq_true rfl⟩ ⟨rfl, rfl⟩ hl.1 rfl (Nat.le_of_ble_eq_true rfl) dX11_avoid_8 ⟨Nat.le_of_ble_eq_true rfl, Nat.le_of_ble_eq_true rfl⟩ (fun v1472121 f1472122 H locs q1472123 hW => ?_)
  obtain ⟨⟨x1472125, rfl, p1472126⟩, g1472124⟩ := q1472123
  have hF := FM.tr hF g1472124 rfl
  refine q_if_ne (tgt := 21) hx hb dX11_avoid_11 (by decide) rfl (fun c1472127 => ?_) (fun c1472127 => ?_)
  · have q1472128 : 0 ≤ u1.toInt ∧ u1.toInt ≤ 39 := by omega
    clear p1472126
    refine lv_aload_n hx hb dX11_avoid_21 rfl (lv_at hl 0 rfl) ?_
    refine fg_RX11_12 E hW rh0 dX11_avoid_22 (fun a1472129 m1472130 r1472131 => ?_)
    obtain rfl : a1472115 = a1472129 := (((fm_R g1472124 rh0 rfl).trans m1472116)).symm.trans m1472130
    refine fg_RX11_170 E hW r1472117 dX11_avoid_25 (fun a1472132 m1472133 r1472134 => ?_)
    refine lv_iload_n hx hb dX11_avoid_28 rfl (lv_at hl 1 rfl) ?_
    refine t_callV (As := [.int u1]) (rest := []) E hW (c_X10_openOn l G cI cJ cZ cD cR cT kp L f1472122 hW.2.2.2 _ a1472132 u1 r1472134 (by omega)) r1472134 (by decide) rfl wk_X10_openOn tw_1080 rfl ⟨Nat.le_of_ble_eq_true rfl, Nat.le_of_ble_eq_true rfl⟩ ⟨rfl, rfl⟩ hl.1 rfl (Nat.le_of_ble_eq_true rfl) dX11_avoid_29 ⟨Nat.le_of_ble_eq_true rfl, Nat.le_of_ble_eq_true rfl⟩ (fun v1472135 f1472136 H locs q1472137 hW => ?_)
    obtain ⟨⟨x1472139, rfl, p1472140⟩, g1472138⟩ := q1472137
    have hF := FM.tr hF g1472138 rfl
    refine lv_istore_n (lv' := [(2, .int x1472139), (0, .ref h0), (1, .int u1)]) hx hb dX11_avoid_32 rfl hl (by decide) rfl (fun ls hl => ?_)
    refine lv_iload_n hx hb dX11_avoid_33 rfl (lv_at hl 0 rfl) ?_
    refine lv_iconst (v := (-1)) hx hb dX11_avoid_34 (by decide) ?_
    refine q_icmp_ne (Y := -1) (tgt := 45) hx hb dX11_avoid_35 (by decide) rfl rfl (fun c1472141 => ?_) (fun c1472141 => ?_)
    · refine lv_aload_n hx hb dX11_avoid_45 rfl (lv_at hl 1 rfl) ?_
      refine fg_RX11_12 E hW rh0 dX11_avoid_46 (fun a1472142 m1472143 r1472144 => ?_)
      obtain rfl : a1472115 = a1472142 := (((fm_R g1472138 rh0 rfl).trans m1472130)).symm.trans m1472143
      refine fg_RX11_170 E hW r1472117 dX11_avoid_49 (fun a1472145 m1472146 r1472147 => ?_)
      obtain rfl : a1472132 = a1472145 := (((fm_R g1472138 r1472117 rfl).trans m1472133)).symm.trans m1472146
      refine fg_RX11_261 E hW r1472134 dX11_avoid_52 (fun a1472148 m1472149 r1472150 => ?_)
      refine lv_iload_n hx hb dX11_avoid_55 rfl (lv_at hl 0 rfl) ?_
      refine lv_iconst (v := 0) hx hb dX11_avoid_56 (by decide) ?_
      refine gs_706 E hW r1472150 ⟨by omega, by omega⟩ dX11_avoid_57 (fun f1472151 H locs e1472152 n1472153 g1472154 hW => ?_)
      have hF := FM.tr hF g1472154 rfl
      refine lv_aload_n hx hb dX11_avoid_58 rfl (lv_at hl 1 rfl) ?_
      refine lv_iconst (v := 0) hx hb dX11_avoid_59 (by decide) ?_
      refine t_callV (As := [.int 0]) (rest := []) E hW (c_X11_accept l G cI cJ cZ cD cR cT kp L f1472151 hW.2.2.2 _ h0 0 rh0) rh0 (by decide) rfl wk_X11_accept tw_611 rfl ⟨Nat.le_of_ble_eq_true rfl, Nat.le_of_ble_eq_true rfl⟩ ⟨rfl, rfl⟩ hl.1 rfl (Nat.le_of_ble_eq_true rfl) dX11_avoid_60 ⟨Nat.le_of_ble_eq_true rfl, Nat.le_of_ble_eq_true rfl⟩ (fun v1472155 f1472156 H locs q1472157 hW => ?_)
      obtain ⟨⟨x1472159, rfl, p1472160⟩, g1472158⟩ := q1472157
      clear p1472160
      have hF := FM.tr hF g1472158 rfl
      exact e_I E hW rfl ⟨⟨_, rfl, trivial⟩, hF⟩ dX11_avoid_63
    · refine lv_aload_n hx hb dX11_avoid_38 rfl (lv_at hl 1 rfl) ?_
      refine lv_bipush (v := (-3)) hx hb dX11_avoid_39 (by decide) ?_
      refine t_callV (As := [.int (-3)]) (rest := []) E hW (c_X11_refuse l G cI cJ cZ cD cR cT kp L f1472136 hW.2.2.2 _ h0 (-3) rh0 (by decide)) rh0 (by decide) rfl wk_X11_refuse tw_603 rfl ⟨Nat.le_of_ble_eq_true rfl, Nat.le_of_ble_eq_true rfl⟩ ⟨rfl, rfl⟩ hl.1 rfl (Nat.le_of_ble_eq_true rfl) dX11_avoid_41 ⟨Nat.le_of_ble_eq_true rfl, Nat.le_of_ble_eq_true rfl⟩ (fun v1472161 f1472162 H locs q1472163 hW => ?_)
      obtain ⟨⟨x1472165, rfl, p1472166⟩, g1472164⟩ := q1472163
      have p1472166 : (-6 : Int) ≤ x1472165.toInt ∧ x1472165.toInt ≤ -1 := p1472166
      have hF := FM.tr hF g1472164 rfl
      exact e_I E hW rfl ⟨⟨_, rfl, trivial⟩, hF⟩ dX11_avoid_44
  · clear p1472126
    refine lv_aload_n hx hb dX11_avoid_14 rfl (lv_at hl 0 rfl) ?_
    refine lv_bipush (v := (-2)) hx hb dX11_avoid_15 (by decide) ?_
    refine t_callV (As := [.int (-2)]) (rest := []) E hW (c_X11_refuse l G cI cJ cZ cD cR cT kp L f1472122 hW.2.2.2 _ h0 (-2) rh0 (by decide)) rh0 (by decide) rfl wk_X11_refuse tw_603 rfl ⟨Nat.le_of_ble_eq_true rfl, Nat.le_of_ble_eq_true rfl⟩ ⟨rfl, rfl⟩ hl.1 rfl (Nat.le_of_ble_eq_true rfl) dX11_avoid_17 ⟨Nat.le_of_ble_eq_true rfl, Nat.le_of_ble_eq_true rfl⟩ (fun v1472167 f1472168 H locs q1472169 hW => ?_)
    obtain ⟨⟨x1472171, rfl, p1472172⟩, g1472170⟩ := q1472169
    have p1472172 : (-6 : Int) ≤ x1472171.toInt ∧ x1472171.toInt ≤ -1 := p1472172
    have hF := FM.tr hF g1472170 rfl
    exact e_I E hW rfl ⟨⟨_, rfl, trivial⟩, hF⟩ dX11_avoid_20
def ms_X11_back : List (Nat × Nat) := [(0, 6), (0, 9), (0, 12), (0, 13), (1, 0), (1, 8), (1, 12), (1, 13), (1, 14), (2, 0), (3, 0), (3, 1), (3, 2), (3, 3), (4, 0), (10, 0), (10, 7), (11, 15), (108, 0), (161, 0), (162, 0), (163, 0), (164, 0), (165, 0), (166, 0), (167, 0), (169, 0), (170, 0), (171, 0), (221, 0), (284, 0), (285, 0), (341, 0), (342, 0), (343, 0), (344, 0), (345, 0), (346, 0), (347, 0), (348, 0), (520, 0), (521, 0), (701, 0), (702, 0), (703, 0), (704, 0), (705, 0), (706, 0), (708, 0), (709, 0), (710, 0)]
def po_X11_back (kp : Nat → Nat) (L : List Nat) (f0 : Nat → va_E) (h0 : Nat) (u1 : Int32) : Option Value → (Nat → va_E) → Prop := fun v f => (∃ r : Int32, v = some (.int r) ∧ (True)) ∧ FM kp L ms_X11_back f0 f
set_option maxHeartbeats 4000000 in
set_option maxRecDepth 100000 in
theorem c_X11_back (l : Launch) (G : va_G) (cI cJ cZ cD cR cT : ClassId) (kp : Nat → Nat) (L : List Nat) (f0 : Nat → va_E) (hTH : TH cI cJ cZ cD cR cT kp L f0) (sz : Nat) (h0 : Nat) (u1 : Int32) (rh0 : RK kp L h0 11) : Met l yX11_back (Cond.code yX11_back cX11_back 2 (some .int) :: wTab) ({ frames := 3, cells := 0, slots := 0, locals := 103 }) (va_Pc [.ref h0, .int u1] (PreW G (tys6 cI cJ cZ cD cR cT) (va_pl L f0) sz)) (QT (po_X11_back kp L f0 h0 u1) G cI cJ cZ cD cR cT (va_A (va_pl L f0) sz) kp L) 0 0 (va_A (va_pl L f0) sz) := by
  refine metT (by decide) (Nat.le_of_ble_eq_true rfl) hTH ?_
  intro p e s m below meth c A ls E hW hl
  obtain ⟨hx, hb, -, hml, hown, hts, -, -, -⟩ := id E
  have hF : FM kp L ms_X11_back f0 f0 := FM.rf
  have hl : lv_has ls 2 [(0, .ref h0), (1, .int u1)] := hl
  refine lv_iload_n hx hb dX11_back_0 rfl (lv_at hl 1 rfl) ?_
  refine lv_iconst (v := 0) hx hb dX11_back_1 (by decide) ?_
  refine lv_iconst (v := 1) hx hb dX11_back_2 (by decide) ?_
  refine t_callS (As := [.int u1, .int 0, .int 1]) (rest := []) E hW (c_X11_within l G cI cJ cZ cD cR cT kp L f0 hW.2.2.2 _ u1 0 1 (by decide)) wk_X11_within tw_599 rfl ⟨Nat.le_of_ble_eq_true rfl, Nat.le_of_ble_eq_true rfl⟩ ⟨rfl, rfl⟩ hl.1 rfl (Nat.le_of_ble_eq_true rfl) dX11_back_3 ⟨Nat.le_of_ble_eq_true rfl, Nat.le_of_ble_eq_true rfl⟩ (fun v1472173 f1472174 H locs q1472175 hW => ?_)
  obtain ⟨⟨x1472177, rfl, p1472178⟩, g1472176⟩ := q1472175
  have p1472178 : (x1472177.toInt = 1 ∧ 0 ≤ u1.toInt ∧ u1.toInt ≤ 1) ∨ (x1472177.toInt = 0 ∧ (u1.toInt < 0 ∨ 1 < u1.toInt)) := p1472178
  have hF := FM.tr hF g1472176 rfl
  refine q_if_ne (tgt := 15) hx hb dX11_back_6 (by decide) rfl (fun c1472179 => ?_) (fun c1472179 => ?_)
  · have q1472180 : 0 ≤ u1.toInt ∧ u1.toInt ≤ 1 := by omega
    clear p1472178
    refine lv_iload_n hx hb dX11_back_15 rfl (lv_at hl 1 rfl) ?_
    refine q_if_ne (tgt := 29) hx hb dX11_back_16 (by decide) rfl (fun c1472181 => ?_) (fun c1472181 => ?_)
    · refine lv_aload_n hx hb dX11_back_29 rfl (lv_at hl 0 rfl) ?_
      refine fg_RX11_353 E hW rh0 dX11_back_30 (fun y1472182 m1472183 b1472184 => ?_)
      refine q_if_ne (tgt := 43) hx hb dX11_back_33 (by decide) rfl (fun c1472185 => ?_) (fun c1472185 => ?_)
      · refine lv_aload_n hx hb dX11_back_43 rfl (lv_at hl 0 rfl) ?_
        refine fg_RX11_12 E hW rh0 dX11_back_44 (fun a1472186 m1472187 r1472188 => ?_)
        refine lv_iload_n hx hb dX11_back_47 rfl (lv_at hl 1 rfl) ?_
        refine q_if_ne (tgt := 58) hx hb dX11_back_48 (by decide) rfl (fun c1472192 => ?_) (fun c1472192 => ?_)
        · refine lv_aload_n hx hb dX11_back_58 rfl (lv_at hl 0 rfl) ?_
          refine fg_RX11_24 E hW rh0 dX11_back_59 (fun a1472193 m1472194 r1472195 => ?_)
          refine t_callV (As := [.ref a1472193]) (rest := []) E hW (c_X0_copyFrom l G cI cJ cZ cD cR cT kp L f1472174 hW.2.2.2 _ a1472186 a1472193 r1472188 r1472195) r1472188 (by decide) rfl wk_X0_copyFrom tw_1285 rfl ⟨Nat.le_of_ble_eq_true rfl, Nat.le_of_ble_eq_true rfl⟩ ⟨rfl, rfl⟩ hl.1 rfl (Nat.le_of_ble_eq_true rfl) dX11_back_62 ⟨Nat.le_of_ble_eq_true rfl, Nat.le_of_ble_eq_true rfl⟩ (fun v1472196 f1472197 H locs q1472198 hW => ?_)
          obtain ⟨rfl, g1472199⟩ := q1472198
          have hF := FM.tr hF g1472199 rfl
          refine lv_aload_n hx hb dX11_back_65 rfl (lv_at hl 0 rfl) ?_
          refine lv_iconst (v := 0) hx hb dX11_back_66 (by decide) ?_
          refine t_callV (As := [.int 0]) (rest := []) E hW (c_X11_accept l G cI cJ cZ cD cR cT kp L f1472197 hW.2.2.2 _ h0 0 rh0) rh0 (by decide) rfl wk_X11_accept tw_611 rfl ⟨Nat.le_of_ble_eq_true rfl, Nat.le_of_ble_eq_true rfl⟩ ⟨rfl, rfl⟩ hl.1 rfl (Nat.le_of_ble_eq_true rfl) dX11_back_67 ⟨Nat.le_of_ble_eq_true rfl, Nat.le_of_ble_eq_true rfl⟩ (fun v1472200 f1472201 H locs q1472202 hW => ?_)
          obtain ⟨⟨x1472204, rfl, p1472205⟩, g1472203⟩ := q1472202
          clear p1472205
          have hF := FM.tr hF g1472203 rfl
          exact e_I E hW rfl ⟨⟨_, rfl, trivial⟩, hF⟩ dX11_back_70
        · exfalso; omega
      · refine lv_aload_n hx hb dX11_back_36 rfl (lv_at hl 0 rfl) ?_
        refine lv_bipush (v := (-2)) hx hb dX11_back_37 (by decide) ?_
        refine t_callV (As := [.int (-2)]) (rest := []) E hW (c_X11_refuse l G cI cJ cZ cD cR cT kp L f1472174 hW.2.2.2 _ h0 (-2) rh0 (by decide)) rh0 (by decide) rfl wk_X11_refuse tw_603 rfl ⟨Nat.le_of_ble_eq_true rfl, Nat.le_of_ble_eq_true rfl⟩ ⟨rfl, rfl⟩ hl.1 rfl (Nat.le_of_ble_eq_true rfl) dX11_back_39 ⟨Nat.le_of_ble_eq_true rfl, Nat.le_of_ble_eq_true rfl⟩ (fun v1472206 f1472207 H locs q1472208 hW => ?_)
        obtain ⟨⟨x1472210, rfl, p1472211⟩, g1472209⟩ := q1472208
        have p1472211 : (-6 : Int) ≤ x1472210.toInt ∧ x1472210.toInt ≤ -1 := p1472211
        have hF := FM.tr hF g1472209 rfl
        exact e_I E hW rfl ⟨⟨_, rfl, trivial⟩, hF⟩ dX11_back_42
    · refine lv_aload_n hx hb dX11_back_19 rfl (lv_at hl 0 rfl) ?_
      refine fg_RX11_349 E hW rh0 dX11_back_20 (fun y1472212 m1472213 b1472214 => ?_)
      refine q_if_ne (tgt := 43) hx hb dX11_back_23 (by decide) rfl (fun c1472215 => ?_) (fun c1472215 => ?_)
      · refine lv_aload_n hx hb dX11_back_43 rfl (lv_at hl 0 rfl) ?_
        refine fg_RX11_12 E hW rh0 dX11_back_44 (fun a1472216 m1472217 r1472218 => ?_)
        refine lv_iload_n hx hb dX11_back_47 rfl (lv_at hl 1 rfl) ?_
        refine q_if_ne (tgt := 58) hx hb dX11_back_48 (by decide) rfl (fun c1472222 => ?_) (fun c1472222 => ?_)
        · exfalso; omega
        · refine lv_aload_n hx hb dX11_back_51 rfl (lv_at hl 0 rfl) ?_
          refine fg_RX11_21 E hW rh0 dX11_back_52 (fun a1472223 m1472224 r1472225 => ?_)
          refine lv_goto (tgt := 62) hx hb dX11_back_55 (by decide) ?_
          refine t_callV (As := [.ref a1472223]) (rest := []) E hW (c_X0_copyFrom l G cI cJ cZ cD cR cT kp L f1472174 hW.2.2.2 _ a1472216 a1472223 r1472218 r1472225) r1472218 (by decide) rfl wk_X0_copyFrom tw_1285 rfl ⟨Nat.le_of_ble_eq_true rfl, Nat.le_of_ble_eq_true rfl⟩ ⟨rfl, rfl⟩ hl.1 rfl (Nat.le_of_ble_eq_true rfl) dX11_back_62 ⟨Nat.le_of_ble_eq_true rfl, Nat.le_of_ble_eq_true rfl⟩ (fun v1472226 f1472227 H locs q1472228 hW => ?_)
          obtain ⟨rfl, g1472229⟩ := q1472228
          have hF := FM.tr hF g1472229 rfl
          refine lv_aload_n hx hb dX11_back_65 rfl (lv_at hl 0 rfl) ?_
          refine lv_iconst (v := 0) hx hb dX11_back_66 (by decide) ?_
          refine t_callV (As := [.int 0]) (rest := []) E hW (c_X11_accept l G cI cJ cZ cD cR cT kp L f1472227 hW.2.2.2 _ h0 0 rh0) rh0 (by decide) rfl wk_X11_accept tw_611 rfl ⟨Nat.le_of_ble_eq_true rfl, Nat.le_of_ble_eq_true rfl⟩ ⟨rfl, rfl⟩ hl.1 rfl (Nat.le_of_ble_eq_true rfl) dX11_back_67 ⟨Nat.le_of_ble_eq_true rfl, Nat.le_of_ble_eq_true rfl⟩ (fun v1472230 f1472231 H locs q1472232 hW => ?_)
          obtain ⟨⟨x1472234, rfl, p1472235⟩, g1472233⟩ := q1472232
          clear p1472235
          have hF := FM.tr hF g1472233 rfl
          exact e_I E hW rfl ⟨⟨_, rfl, trivial⟩, hF⟩ dX11_back_70
      · refine lv_goto (tgt := 36) hx hb dX11_back_26 (by decide) ?_
        refine lv_aload_n hx hb dX11_back_36 rfl (lv_at hl 0 rfl) ?_
        refine lv_bipush (v := (-2)) hx hb dX11_back_37 (by decide) ?_
        refine t_callV (As := [.int (-2)]) (rest := []) E hW (c_X11_refuse l G cI cJ cZ cD cR cT kp L f1472174 hW.2.2.2 _ h0 (-2) rh0 (by decide)) rh0 (by decide) rfl wk_X11_refuse tw_603 rfl ⟨Nat.le_of_ble_eq_true rfl, Nat.le_of_ble_eq_true rfl⟩ ⟨rfl, rfl⟩ hl.1 rfl (Nat.le_of_ble_eq_true rfl) dX11_back_39 ⟨Nat.le_of_ble_eq_true rfl, Nat.le_of_ble_eq_true rfl⟩ (fun v1472236 f1472237 H locs q1472238 hW => ?_)
        obtain ⟨⟨x1472240, rfl, p1472241⟩, g1472239⟩ := q1472238
        have p1472241 : (-6 : Int) ≤ x1472240.toInt ∧ x1472240.toInt ≤ -1 := p1472241
        have hF := FM.tr hF g1472239 rfl
        exact e_I E hW rfl ⟨⟨_, rfl, trivial⟩, hF⟩ dX11_back_42
  · have q1472242 : (u1.toInt < 0 ∨ 1 < u1.toInt) := by omega
    clear p1472178
    refine lv_aload_n hx hb dX11_back_9 rfl (lv_at hl 0 rfl) ?_
    refine lv_iconst (v := (-1)) hx hb dX11_back_10 (by decide) ?_
    refine t_callV (As := [.int (-1)]) (rest := []) E hW (c_X11_refuse l G cI cJ cZ cD cR cT kp L f1472174 hW.2.2.2 _ h0 (-1) rh0 (by decide)) rh0 (by decide) rfl wk_X11_refuse tw_603 rfl ⟨Nat.le_of_ble_eq_true rfl, Nat.le_of_ble_eq_true rfl⟩ ⟨rfl, rfl⟩ hl.1 rfl (Nat.le_of_ble_eq_true rfl) dX11_back_11 ⟨Nat.le_of_ble_eq_true rfl, Nat.le_of_ble_eq_true rfl⟩ (fun v1472243 f1472244 H locs q1472245 hW => ?_)
    obtain ⟨⟨x1472247, rfl, p1472248⟩, g1472246⟩ := q1472245
    have p1472248 : (-6 : Int) ≤ x1472247.toInt ∧ x1472247.toInt ≤ -1 := p1472248
    have hF := FM.tr hF g1472246 rfl
    exact e_I E hW rfl ⟨⟨_, rfl, trivial⟩, hF⟩ dX11_back_14
def ms_X11_bitsOfRow : List (Nat × Nat) := []
def po_X11_bitsOfRow (kp : Nat → Nat) (L : List Nat) (f0 : Nat → va_E) (h0 : Nat) (u1 : Int32) : Option Value → (Nat → va_E) → Prop := fun v f => (∃ r : Int32, v = some (.int r) ∧ (True)) ∧ FM kp L ms_X11_bitsOfRow f0 f
set_option maxHeartbeats 4000000 in
set_option maxRecDepth 100000 in
theorem c_X11_bitsOfRow (l : Launch) (G : va_G) (cI cJ cZ cD cR cT : ClassId) (kp : Nat → Nat) (L : List Nat) (f0 : Nat → va_E) (hTH : TH cI cJ cZ cD cR cT kp L f0) (sz : Nat) (h0 : Nat) (u1 : Int32) (rh0 : RK kp L h0 11) (pu1 : (0 : Int) ≤ u1.toInt) : Met l yX11_bitsOfRow (Cond.code yX11_bitsOfRow cX11_bitsOfRow 4 (some .int) :: wTab) ({ frames := 1, cells := 0, slots := 0, locals := 40 }) (va_Pc [.ref h0, .int u1] (PreW G (tys6 cI cJ cZ cD cR cT) (va_pl L f0) sz)) (QT (po_X11_bitsOfRow kp L f0 h0 u1) G cI cJ cZ cD cR cT (va_A (va_pl L f0) sz) kp L) 0 0 (va_A (va_pl L f0) sz) := by
  refine metT (by decide) (Nat.le_of_ble_eq_true rfl) hTH ?_
  intro p e s m below meth c A ls E hW hl
  obtain ⟨hx, hb, -, hml, hown, hts, -, -, -⟩ := id E
  have hF : FM kp L ms_X11_bitsOfRow f0 f0 := FM.rf
  have hl : lv_has ls 4 [(0, .ref h0), (1, .int u1)] := hl
  refine lv_iconst (v := 0) hx hb dX11_bitsOfRow_0 (by decide) ?_
  refine lv_istore_n (lv' := [(2, .int 0), (0, .ref h0), (1, .int u1)]) hx hb dX11_bitsOfRow_1 rfl hl (by decide) rfl (fun ls hl => ?_)
  refine lv_iconst (v := 0) hx hb dX11_bitsOfRow_2 (by decide) ?_
  refine lv_istore_n (lv' := [(3, .int 0), (2, .int 0), (0, .ref h0), (1, .int u1)]) hx hb dX11_bitsOfRow_3 rfl hl (by decide) rfl (fun ls hl => ?_)
  have L1472400 : ∀ (n : Nat), ∀ (y1472397 : Int32) (y1472399 : Int32) (b1472398 : (0 : Int) ≤ y1472397.toInt ∧ y1472397.toInt ≤ 6) (hm : (7 : Int) - y1472397.toInt ≤ n) (H : Heap) (locs : List Loc) (ls : Array Slot), WS G cI cJ cZ cD cR cT A kp L f0 s H locs → FM kp L ms_X11_bitsOfRow f0 f0 → lv_has ls 4 [(3, .int y1472397), (2, .int y1472399), (0, .ref h0), (1, .int u1)] → W p l e ({ frames := 1, cells := 0, slots := 0, locals := 40 }) s m ([.ref h0, .int u1] : List Value).toArray below meth c H locs 0 0 (MQ below (QT (po_X11_bitsOfRow kp L f0 h0 u1) G cI cJ cZ cD cR cT A kp L) ([.ref h0, .int u1] : List Value).toArray s 0 0 A) (F0 m 4 ls []) := by
    intro n
    induction n with
    | zero =>
      intro y1472397 y1472399 b1472398 hm H locs ls hW hF hl
      have hz := i32_b y1472397
      exfalso; omega
    | succ n ih =>
      intro y1472397 y1472399 b1472398 hm H locs ls hW hF hl
      have ih4 := ih
      refine lv_iload_n hx hb dX11_bitsOfRow_4 rfl (lv_at hl 0 rfl) ?_
      refine lv_aload_n hx hb dX11_bitsOfRow_5 rfl (lv_at hl 2 rfl) ?_
      refine fg_RX11_309 E hW rh0 dX11_bitsOfRow_6 (fun y1472401 m1472402 b1472403 => ?_)
      refine q_icmp_ge (tgt := 35) hx hb dX11_bitsOfRow_9 (by decide) rfl rfl (fun c1472418 => ?_) (fun c1472418 => ?_)
      · refine lv_iload_n hx hb dX11_bitsOfRow_35 rfl (lv_at hl 1 rfl) ?_
        exact e_I E hW rfl ⟨⟨_, rfl, trivial⟩, hF⟩ dX11_bitsOfRow_36
      · refine lv_iload_n hx hb dX11_bitsOfRow_12 rfl (lv_at hl 1 rfl) ?_
        refine lv_iload_n hx hb dX11_bitsOfRow_13 rfl (lv_at hl 3 rfl) ?_
        refine lv_iload_n hx hb dX11_bitsOfRow_14 rfl (lv_at hl 0 rfl) ?_
        refine u_ishr hx hb dX11_bitsOfRow_15 (fun x1472419 => ?_)
        refine lv_iconst (v := 1) hx hb dX11_bitsOfRow_16 (by decide) ?_
        refine q_iand (M := 1) (k := 1) hx hb dX11_bitsOfRow_17 (by decide) (by decide) (by decide) (fun x1472420 h1472421 => ?_)
        refine lv_aload_n hx hb dX11_bitsOfRow_18 rfl (lv_at hl 2 rfl) ?_
        refine fg_RX11_309 E hW rh0 dX11_bitsOfRow_19 (fun y1472422 m1472423 b1472424 => ?_)
        obtain rfl : y1472401 = y1472422 := (m1472402).symm.trans m1472423
        refine lv_iconst (v := 1) hx hb dX11_bitsOfRow_22 (by decide) ?_
        refine q_isub (Y := 1) hx hb dX11_bitsOfRow_23 rfl rfl (by omega) (fun x1472425 h1472426 => ?_)
        refine lv_iload_n hx hb dX11_bitsOfRow_24 rfl (lv_at hl 0 rfl) ?_
        refine q_isub hx hb dX11_bitsOfRow_25 rfl rfl (by omega) (fun x1472427 h1472428 => ?_)
        refine u_ishl hx hb dX11_bitsOfRow_26 (fun x1472429 => ?_)
        refine u_ior hx hb dX11_bitsOfRow_27 (fun x1472430 => ?_)
        refine lv_istore_n (lv' := [(2, .int x1472430), (3, .int y1472397), (0, .ref h0), (1, .int u1)]) hx hb dX11_bitsOfRow_28 rfl hl (by decide) rfl (fun ls hl => ?_)
        refine q_iinc hx hb dX11_bitsOfRow_29 hl (k := 1) rfl rfl rfl (by omega) (by decide) (fun i1472431 ls h1472432 hl => ?_)
        have hl : lv_has ls 4 [(3, .int i1472431), (2, .int x1472430), (0, .ref h0), (1, .int u1)] := hl
        refine lv_goto (tgt := 4) hx hb dX11_bitsOfRow_32 (by decide) ?_
        exact ih4 i1472431 x1472430 (by omega) (by omega) _ _ _ hW hF (lv_sub hl [0, 1, 2, 3] rfl)
  have hk1472433 : (0 : Int32).toInt = 0 := rfl
  have hk1472434 : (0 : Int32).toInt = 0 := rfl
  exact L1472400 7 0 0 (by decide) (by omega) _ _ _ hW hF (lv_sub hl [0, 1, 2, 3] rfl)
def ms_X11_brave : List (Nat × Nat) := [(3, 1), (11, 15)]
def po_X11_brave (kp : Nat → Nat) (L : List Nat) (f0 : Nat → va_E) (h0 : Nat) (u1 : Int32) : Option Value → (Nat → va_E) → Prop := fun v f => (∃ r : Int32, v = some (.int r) ∧ (True)) ∧ FM kp L ms_X11_brave f0 f
set_option maxHeartbeats 4000000 in
set_option maxRecDepth 100000 in
theorem c_X11_brave (l : Launch) (G : va_G) (cI cJ cZ cD cR cT : ClassId) (kp : Nat → Nat) (L : List Nat) (f0 : Nat → va_E) (hTH : TH cI cJ cZ cD cR cT kp L f0) (sz : Nat) (h0 : Nat) (u1 : Int32) (rh0 : RK kp L h0 11) : Met l yX11_brave (Cond.code yX11_brave cX11_brave 3 (some .int) :: wTab) ({ frames := 2, cells := 0, slots := 0, locals := 62 }) (va_Pc [.ref h0, .int u1] (PreW G (tys6 cI cJ cZ cD cR cT) (va_pl L f0) sz)) (QT (po_X11_brave kp L f0 h0 u1) G cI cJ cZ cD cR cT (va_A (va_pl L f0) sz) kp L) 0 0 (va_A (va_pl L f0) sz) := by
  refine metT (by decide) (Nat.le_of_ble_eq_true rfl) hTH ?_
  intro p e s m below meth c A ls E hW hl
  obtain ⟨hx, hb, -, hml, hown, hts, -, -, -⟩ := id E
  have hF : FM kp L ms_X11_brave f0 f0 := FM.rf
  have hl : lv_has ls 3 [(0, .ref h0), (1, .int u1)] := hl
  refine lv_iload_n hx hb dX11_brave_0 rfl (lv_at hl 1 rfl) ?_
  refine lv_iconst (v := 0) hx hb dX11_brave_1 (by decide) ?_
  refine lv_bipush (v := 101) hx hb dX11_brave_2 (by decide) ?_
  refine t_callS (As := [.int u1, .int 0, .int 101]) (rest := []) E hW (c_X11_within l G cI cJ cZ cD cR cT kp L f0 hW.2.2.2 _ u1 0 101 (by decide)) wk_X11_within tw_599 rfl ⟨Nat.le_of_ble_eq_true rfl, Nat.le_of_ble_eq_true rfl⟩ ⟨rfl, rfl⟩ hl.1 rfl (Nat.le_of_ble_eq_true rfl) dX11_brave_4 ⟨Nat.le_of_ble_eq_true rfl, Nat.le_of_ble_eq_true rfl⟩ (fun v1472435 f1472436 H locs q1472437 hW => ?_)
  obtain ⟨⟨x1472439, rfl, p1472440⟩, g1472438⟩ := q1472437
  have p1472440 : (x1472439.toInt = 1 ∧ 0 ≤ u1.toInt ∧ u1.toInt ≤ 101) ∨ (x1472439.toInt = 0 ∧ (u1.toInt < 0 ∨ 101 < u1.toInt)) := p1472440
  have hF := FM.tr hF g1472438 rfl
  refine q_if_ne (tgt := 16) hx hb dX11_brave_7 (by decide) rfl (fun c1472441 => ?_) (fun c1472441 => ?_)
  · have q1472442 : 0 ≤ u1.toInt ∧ u1.toInt ≤ 101 := by omega
    clear p1472440
    refine lv_aload_n hx hb dX11_brave_16 rfl (lv_at hl 0 rfl) ?_
    refine fg_RX11_12 E hW rh0 dX11_brave_17 (fun a1472443 m1472444 r1472445 => ?_)
    refine fg_RX11_98 E hW r1472445 dX11_brave_20 (fun a1472446 m1472447 r1472448 => ?_)
    refine fg_RX11_282 E hW r1472448 dX11_brave_23 (fun y1472449 m1472450 => ?_)
    refine lv_istore_n (lv' := [(2, .int y1472449), (0, .ref h0), (1, .int u1)]) hx hb dX11_brave_26 rfl hl (by decide) rfl (fun ls hl => ?_)
    refine lv_aload_n hx hb dX11_brave_27 rfl (lv_at hl 1 rfl) ?_
    refine fg_RX11_12 E hW rh0 dX11_brave_28 (fun a1472452 m1472453 r1472454 => ?_)
    obtain rfl : a1472443 = a1472452 := (m1472444).symm.trans m1472453
    refine fg_RX11_98 E hW r1472445 dX11_brave_31 (fun a1472455 m1472456 r1472457 => ?_)
    obtain rfl : a1472446 = a1472455 := (m1472447).symm.trans m1472456
    refine lv_iload_n hx hb dX11_brave_34 rfl (lv_at hl 2 rfl) ?_
    refine fp_RX11_282 E hW r1472448 dX11_brave_35 (fun f1472458 H locs e1472459 n1472460 g1472461 hW => ?_)
    have hF := FM.tr hF g1472461 rfl
    refine lv_aload_n hx hb dX11_brave_38 rfl (lv_at hl 1 rfl) ?_
    refine lv_iload_n hx hb dX11_brave_39 rfl (lv_at hl 0 rfl) ?_
    refine t_callV (As := [.int y1472449]) (rest := []) E hW (c_X11_accept l G cI cJ cZ cD cR cT kp L f1472458 hW.2.2.2 _ h0 y1472449 rh0) rh0 (by decide) rfl wk_X11_accept tw_611 rfl ⟨Nat.le_of_ble_eq_true rfl, Nat.le_of_ble_eq_true rfl⟩ ⟨rfl, rfl⟩ hl.1 rfl (Nat.le_of_ble_eq_true rfl) dX11_brave_40 ⟨Nat.le_of_ble_eq_true rfl, Nat.le_of_ble_eq_true rfl⟩ (fun v1472462 f1472463 H locs q1472464 hW => ?_)
    obtain ⟨⟨x1472466, rfl, p1472467⟩, g1472465⟩ := q1472464
    clear p1472467
    have hF := FM.tr hF g1472465 rfl
    exact e_I E hW rfl ⟨⟨_, rfl, trivial⟩, hF⟩ dX11_brave_43
  · have q1472468 : (u1.toInt < 0 ∨ 101 < u1.toInt) := by omega
    clear p1472440
    refine lv_aload_n hx hb dX11_brave_10 rfl (lv_at hl 0 rfl) ?_
    refine lv_iconst (v := (-1)) hx hb dX11_brave_11 (by decide) ?_
    refine t_callV (As := [.int (-1)]) (rest := []) E hW (c_X11_refuse l G cI cJ cZ cD cR cT kp L f1472436 hW.2.2.2 _ h0 (-1) rh0 (by decide)) rh0 (by decide) rfl wk_X11_refuse tw_603 rfl ⟨Nat.le_of_ble_eq_true rfl, Nat.le_of_ble_eq_true rfl⟩ ⟨rfl, rfl⟩ hl.1 rfl (Nat.le_of_ble_eq_true rfl) dX11_brave_12 ⟨Nat.le_of_ble_eq_true rfl, Nat.le_of_ble_eq_true rfl⟩ (fun v1472469 f1472470 H locs q1472471 hW => ?_)
    obtain ⟨⟨x1472473, rfl, p1472474⟩, g1472472⟩ := q1472471
    have p1472474 : (-6 : Int) ≤ x1472473.toInt ∧ x1472473.toInt ≤ -1 := p1472474
    have hF := FM.tr hF g1472472 rfl
    exact e_I E hW rfl ⟨⟨_, rfl, trivial⟩, hF⟩ dX11_brave_15
def ms_X11_broke : List (Nat × Nat) := []
def po_X11_broke (kp : Nat → Nat) (L : List Nat) (f0 : Nat → va_E) (h0 : Nat) (u1 : Int32) (u2 : Int32) (u3 : Int32) (u4 : Int32) : Option Value → (Nat → va_E) → Prop := fun v f => (∃ r : Int32, v = some (.int r) ∧ (True)) ∧ FM kp L ms_X11_broke f0 f
set_option maxHeartbeats 4000000 in
set_option maxRecDepth 100000 in
theorem c_X11_broke (l : Launch) (G : va_G) (cI cJ cZ cD cR cT : ClassId) (kp : Nat → Nat) (L : List Nat) (f0 : Nat → va_E) (hTH : TH cI cJ cZ cD cR cT kp L f0) (sz : Nat) (h0 : Nat) (u1 : Int32) (u2 : Int32) (u3 : Int32) (u4 : Int32) (rh0 : RK kp L h0 11) : Met l yX11_broke (Cond.code yX11_broke cX11_broke 10 (some .int) :: wTab) ({ frames := 4, cells := 0, slots := 0, locals := 110 }) (va_Pc [.ref h0, .int u1, .int u2, .int u3, .int u4] (PreW G (tys6 cI cJ cZ cD cR cT) (va_pl L f0) sz)) (QT (po_X11_broke kp L f0 h0 u1 u2 u3 u4) G cI cJ cZ cD cR cT (va_A (va_pl L f0) sz) kp L) 0 0 (va_A (va_pl L f0) sz) := by
  refine metT (by decide) (Nat.le_of_ble_eq_true rfl) hTH ?_
  intro p e s m below meth c A ls E hW hl
  obtain ⟨hx, hb, -, hml, hown, hts, -, -, -⟩ := id E
  have hF : FM kp L ms_X11_broke f0 f0 := FM.rf
  have hl : lv_has ls 10 [(0, .ref h0), (1, .int u1), (2, .int u2), (3, .int u3), (4, .int u4)] := hl
  refine lv_aload_n hx hb dX11_broke_0 rfl (lv_at hl 0 rfl) ?_
  refine fg_RX11_12 E hW rh0 dX11_broke_1 (fun a1472475 m1472476 r1472477 => ?_)
  refine fg_RX11_63 E hW r1472477 dX11_broke_4 (fun a1472478 m1472479 r1472480 => ?_)
  refine lv_astore (lv' := [(5, .ref a1472478), (0, .ref h0), (1, .int u1), (2, .int u2), (3, .int u3), (4, .int u4)]) hx hb dX11_broke_7 hl (by decide) rfl (fun ls hl => ?_)
  refine lv_aload hx hb dX11_broke_9 (lv_at hl 0 rfl) ?_
  refine lv_iload_n hx hb dX11_broke_11 rfl (lv_at hl 2 rfl) ?_
  refine t_callV (As := [.int u1]) (rest := []) E hW (c_X4_has l G cI cJ cZ cD cR cT kp L f0 hW.2.2.2 _ a1472478 u1 r1472480) r1472480 (by decide) rfl wk_X4_has tw_619 rfl ⟨Nat.le_of_ble_eq_true rfl, Nat.le_of_ble_eq_true rfl⟩ ⟨rfl, rfl⟩ hl.1 rfl (Nat.le_of_ble_eq_true rfl) dX11_broke_12 ⟨Nat.le_of_ble_eq_true rfl, Nat.le_of_ble_eq_true rfl⟩ (fun v1472481 f1472482 H locs q1472483 hW => ?_)
  obtain ⟨⟨x1472485, rfl, p1472486⟩, g1472484⟩ := q1472483
  have hF := FM.tr hF g1472484 rfl
  refine q_if_eq (tgt := 48) hx hb dX11_broke_15 (by decide) rfl (fun c1472487 => ?_) (fun c1472487 => ?_)
  · clear p1472486
    refine lv_iconst (v := (-1)) hx hb dX11_broke_48 (by decide) ?_
    exact e_I E hW rfl ⟨⟨_, rfl, trivial⟩, hF⟩ dX11_broke_49
  · have q1472488 : 0 ≤ u1.toInt ∧ u1.toInt ≤ 39 := by omega
    clear p1472486
    refine lv_aload hx hb dX11_broke_18 (lv_at hl 0 rfl) ?_
    refine fg_RX11_141 E hW r1472480 dX11_broke_20 (fun a1472489 m1472490 r1472491 => ?_)
    refine lv_iload_n hx hb dX11_broke_23 rfl (lv_at hl 2 rfl) ?_
    refine gl_348 E hW r1472491 ⟨by omega, by omega⟩ dX11_broke_24 (fun y1472492 m1472493 => ?_)
    refine q_if_eq (tgt := 48) hx hb dX11_broke_25 (by decide) rfl (fun c1472495 => ?_) (fun c1472495 => ?_)
    · refine lv_iconst (v := (-1)) hx hb dX11_broke_48 (by decide) ?_
      exact e_I E hW rfl ⟨⟨_, rfl, trivial⟩, hF⟩ dX11_broke_49
    · refine lv_iload_n hx hb dX11_broke_28 rfl (lv_at hl 3 rfl) ?_
      refine lv_iconst (v := 1) hx hb dX11_broke_29 (by decide) ?_
      refine lv_sipush (v := 10000) hx hb dX11_broke_30 (by decide) ?_
      refine t_callS (As := [.int u2, .int 1, .int 10000]) (rest := []) E hW (c_X11_within l G cI cJ cZ cD cR cT kp L f1472482 hW.2.2.2 _ u2 1 10000 (by decide)) wk_X11_within tw_599 rfl ⟨Nat.le_of_ble_eq_true rfl, Nat.le_of_ble_eq_true rfl⟩ ⟨rfl, rfl⟩ hl.1 rfl (Nat.le_of_ble_eq_true rfl) dX11_broke_33 ⟨Nat.le_of_ble_eq_true rfl, Nat.le_of_ble_eq_true rfl⟩ (fun v1472496 f1472497 H locs q1472498 hW => ?_)
      obtain ⟨⟨x1472500, rfl, p1472501⟩, g1472499⟩ := q1472498
      have p1472501 : (x1472500.toInt = 1 ∧ 1 ≤ u2.toInt ∧ u2.toInt ≤ 10000) ∨ (x1472500.toInt = 0 ∧ (u2.toInt < 1 ∨ 10000 < u2.toInt)) := p1472501
      have hF := FM.tr hF g1472499 rfl
      refine q_if_eq (tgt := 48) hx hb dX11_broke_36 (by decide) rfl (fun c1472502 => ?_) (fun c1472502 => ?_)
      · have q1472503 : (u2.toInt < 1 ∨ 10000 < u2.toInt) := by omega
        clear p1472501
        refine lv_iconst (v := (-1)) hx hb dX11_broke_48 (by decide) ?_
        exact e_I E hW rfl ⟨⟨_, rfl, trivial⟩, hF⟩ dX11_broke_49
      · have q1472504 : 1 ≤ u2.toInt ∧ u2.toInt ≤ 10000 := by omega
        clear p1472501
        refine lv_iload_n hx hb dX11_broke_39 rfl (lv_at hl 4 rfl) ?_
        refine lv_iconst (v := 0) hx hb dX11_broke_40 (by decide) ?_
        refine lv_iconst (v := 2) hx hb dX11_broke_41 (by decide) ?_
        refine t_callS (As := [.int u3, .int 0, .int 2]) (rest := []) E hW (c_X11_within l G cI cJ cZ cD cR cT kp L f1472497 hW.2.2.2 _ u3 0 2 (by decide)) wk_X11_within tw_599 rfl ⟨Nat.le_of_ble_eq_true rfl, Nat.le_of_ble_eq_true rfl⟩ ⟨rfl, rfl⟩ hl.1 rfl (Nat.le_of_ble_eq_true rfl) dX11_broke_42 ⟨Nat.le_of_ble_eq_true rfl, Nat.le_of_ble_eq_true rfl⟩ (fun v1472505 f1472506 H locs q1472507 hW => ?_)
        obtain ⟨⟨x1472509, rfl, p1472510⟩, g1472508⟩ := q1472507
        have p1472510 : (x1472509.toInt = 1 ∧ 0 ≤ u3.toInt ∧ u3.toInt ≤ 2) ∨ (x1472509.toInt = 0 ∧ (u3.toInt < 0 ∨ 2 < u3.toInt)) := p1472510
        have hF := FM.tr hF g1472508 rfl
        refine q_if_ne (tgt := 50) hx hb dX11_broke_45 (by decide) rfl (fun c1472511 => ?_) (fun c1472511 => ?_)
        · have q1472512 : 0 ≤ u3.toInt ∧ u3.toInt ≤ 2 := by omega
          clear p1472510
          refine lv_iconst (v := 0) hx hb dX11_broke_50 (by decide) ?_
          refine lv_istore (lv' := [(6, .int 0), (5, .ref a1472478), (0, .ref h0), (1, .int u1), (2, .int u2), (3, .int u3), (4, .int u4)]) hx hb dX11_broke_51 hl (by decide) rfl (fun ls hl => ?_)
          refine lv_iconst (v := (-1)) hx hb dX11_broke_53 (by decide) ?_
          refine lv_istore (lv' := [(7, .int (-1)), (6, .int 0), (5, .ref a1472478), (0, .ref h0), (1, .int u1), (2, .int u2), (3, .int u3), (4, .int u4)]) hx hb dX11_broke_54 hl (by decide) rfl (fun ls hl => ?_)
          refine lv_iload_n hx hb dX11_broke_56 rfl (lv_at hl 6 rfl) ?_
          refine lv_iconst (v := 2) hx hb dX11_broke_57 (by decide) ?_
          have J1472514 : ∀ (y1472513 : Int32) (H : Heap) (locs : List Loc) (ls : Array Slot), WS G cI cJ cZ cD cR cT A kp L f1472506 s H locs → FM kp L ms_X11_broke f0 f1472506 → lv_has ls 10 [(7, .int (-1)), (6, .int 0), (5, .ref a1472478), (0, .ref h0), (1, .int u1), (2, .int u2), (3, .int u3), (4, .int u4)] → W p l e ({ frames := 4, cells := 0, slots := 0, locals := 110 }) s m ([.ref h0, .int u1, .int u2, .int u3, .int u4] : List Value).toArray below meth c H locs 0 0 (MQ below (QT (po_X11_broke kp L f0 h0 u1 u2 u3 u4) G cI cJ cZ cD cR cT A kp L) ([.ref h0, .int u1, .int u2, .int u3, .int u4] : List Value).toArray s 0 0 A) (F0 m 67 ls [.int y1472513]) := by
            intro y1472513 H locs ls hW hF hl
            clear c1472487 c1472502 c1472511
            refine lv_istore (lv' := [(8, .int y1472513), (7, .int (-1)), (6, .int 0), (5, .ref a1472478), (0, .ref h0), (1, .int u1), (2, .int u2), (3, .int u3), (4, .int u4)]) hx hb dX11_broke_67 hl (by decide) rfl (fun ls hl => ?_)
            refine lv_iconst (v := 0) hx hb dX11_broke_69 (by decide) ?_
            refine lv_istore (lv' := [(9, .int 0), (8, .int y1472513), (7, .int (-1)), (6, .int 0), (5, .ref a1472478), (0, .ref h0), (1, .int u1), (2, .int u2), (3, .int u3), (4, .int u4)]) hx hb dX11_broke_70 hl (by decide) rfl (fun ls hl => ?_)
            have L1475649 : ∀ (n : Nat), ∀ (f1475640 : Nat → va_E) (y1475644 : Int32) (y1475646 : Int32) (y1475648 : Int32) (m1475641 : oR (f1475640 a1472475) 0 = a1472478) (m1475642 : oR (f1475640 a1472478) 8 = a1472489) (m1475643 : oR (f1475640 h0) 0 = a1472475) (b1475645 : (0 : Int) ≤ y1475644.toInt ∧ y1475644.toInt ≤ 40) (b1475647 : (-1 : Int) ≤ y1475646.toInt ∧ y1475646.toInt ≤ 39) (hm : (41 : Int) - y1475644.toInt ≤ n) (H : Heap) (locs : List Loc) (ls : Array Slot), WS G cI cJ cZ cD cR cT A kp L f1475640 s H locs → FM kp L ms_X11_broke f0 f1475640 → lv_has ls 10 [(9, .int y1475644), (8, .int y1472513), (7, .int y1475646), (6, .int y1475648), (5, .ref a1472478), (0, .ref h0), (1, .int u1), (2, .int u2), (3, .int u3), (4, .int u4)] → W p l e ({ frames := 4, cells := 0, slots := 0, locals := 110 }) s m ([.ref h0, .int u1, .int u2, .int u3, .int u4] : List Value).toArray below meth c H locs 0 0 (MQ below (QT (po_X11_broke kp L f0 h0 u1 u2 u3 u4) G cI cJ cZ cD cR cT A kp L) ([.ref h0, .int u1, .int u2, .int u3, .int u4] : List Value).toArray s 0 0 A) (F0 m 72 ls []) := by
              intro n
              induction n with
              | zero =>
                intro f1475640 y1475644 y1475646 y1475648 m1475641 m1475642 m1475643 b1475645 b1475647 hm H locs ls hW hF hl
                have hz := i32_b y1475644
                exfalso; omega
              | succ n ih =>
                intro f1475640 y1475644 y1475646 y1475648 m1475641 m1475642 m1475643 b1475645 b1475647 hm H locs ls hW hF hl
                clear c1472495
                have ih72 := ih
                refine lv_iload hx hb dX11_broke_72 (lv_at hl 0 rfl) ?_
                refine lv_aload hx hb dX11_broke_74 (lv_at hl 4 rfl) ?_
                refine fg_RX11_67 E hW r1472480 dX11_broke_76 (fun y1475650 m1475651 b1475652 => ?_)
                refine q_icmp_ge (tgt := 129) hx hb dX11_broke_79 (by decide) rfl rfl (fun c1475685 => ?_) (fun c1475685 => ?_)
                · refine lv_iload_n hx hb dX11_broke_129 rfl (lv_at hl 8 rfl) ?_
                  refine lv_iconst (v := 1) hx hb dX11_broke_130 (by decide) ?_
                  refine q_icmp_ne (Y := 1) (tgt := 137) hx hb dX11_broke_131 (by decide) rfl rfl (fun c1475686 => ?_) (fun c1475686 => ?_)
                  · refine lv_iload_n hx hb dX11_broke_137 rfl (lv_at hl 8 rfl) ?_
                    have J1475690 : ∀ (y1475688 : Int32) (b1475689 : (-1 : Int) ≤ y1475688.toInt ∧ y1475688.toInt ≤ 39) (H : Heap) (locs : List Loc) (ls : Array Slot), WS G cI cJ cZ cD cR cT A kp L f1475640 s H locs → FM kp L ms_X11_broke f0 f1475640 → lv_has ls 10 [(9, .int y1475644), (8, .int y1472513), (7, .int y1475646), (6, .int y1475648), (5, .ref a1472478), (0, .ref h0), (1, .int u1), (2, .int u2), (3, .int u3), (4, .int u4)] → W p l e ({ frames := 4, cells := 0, slots := 0, locals := 110 }) s m ([.ref h0, .int u1, .int u2, .int u3, .int u4] : List Value).toArray below meth c H locs 0 0 (MQ below (QT (po_X11_broke kp L f0 h0 u1 u2 u3 u4) G cI cJ cZ cD cR cT A kp L) ([.ref h0, .int u1, .int u2, .int u3, .int u4] : List Value).toArray s 0 0 A) (F0 m 153 ls [.int y1475688]) := by
                      intro y1475688 b1475689 H locs ls hW hF hl
                      exact e_I E hW rfl ⟨⟨_, rfl, trivial⟩, hF⟩ dX11_broke_153
                    refine q_if_ne (tgt := 151) hx hb dX11_broke_138 (by decide) rfl (fun c1475691 => ?_) (fun c1475691 => ?_)
                    · refine lv_iload hx hb dX11_broke_151 (lv_at hl 2 rfl) ?_
                      exact J1475690 y1475646 (by omega) _ _ _ hW hF (lv_sub hl [0, 1, 2, 3, 4, 5, 6, 7, 8, 9] rfl)
                    · refine lv_iload hx hb dX11_broke_141 (lv_at hl 3 rfl) ?_
                      refine lv_iconst (v := 1) hx hb dX11_broke_143 (by decide) ?_
                      refine q_icmp_eq (Y := 1) (tgt := 151) hx hb dX11_broke_144 (by decide) rfl rfl (fun c1475692 => ?_) (fun c1475692 => ?_)
                      · refine lv_iload hx hb dX11_broke_151 (lv_at hl 2 rfl) ?_
                        exact J1475690 y1475646 (by omega) _ _ _ hW hF (lv_sub hl [0, 1, 2, 3, 4, 5, 6, 7, 8, 9] rfl)
                      · refine lv_iconst (v := (-1)) hx hb dX11_broke_147 (by decide) ?_
                        refine lv_goto (tgt := 153) hx hb dX11_broke_148 (by decide) ?_
                        exact J1475690 (-1) (by decide) _ _ _ hW hF (lv_sub hl [0, 1, 2, 3, 4, 5, 6, 7, 8, 9] rfl)
                  · refine lv_iload hx hb dX11_broke_134 (lv_at hl 3 rfl) ?_
                    exact e_I E hW rfl ⟨⟨_, rfl, trivial⟩, hF⟩ dX11_broke_136
                · refine lv_aload hx hb dX11_broke_82 (lv_at hl 4 rfl) ?_
                  refine lv_iload hx hb dX11_broke_84 (lv_at hl 0 rfl) ?_
                  refine lv_iload_n hx hb dX11_broke_86 rfl (lv_at hl 6 rfl) ?_
                  refine lv_iload_n hx hb dX11_broke_87 rfl (lv_at hl 7 rfl) ?_
                  refine lv_aload_n hx hb dX11_broke_88 rfl (lv_at hl 5 rfl) ?_
                  refine fg_RX11_12 E hW rh0 dX11_broke_89 (fun a1475693 m1475694 r1475695 => ?_)
                  obtain rfl : a1472475 = a1475693 := (m1475643).symm.trans m1475694
                  refine fg_RX11_98 E hW r1472477 dX11_broke_92 (fun a1475696 m1475697 r1475698 => ?_)
                  refine fg_RX11_282 E hW r1475698 dX11_broke_95 (fun y1475699 m1475700 => ?_)
                  refine t_callV (As := [.int y1475644, .int u1, .int u2, .int y1475699]) (rest := []) E hW (c_X4_maySell l G cI cJ cZ cD cR cT kp L f1475640 hW.2.2.2 _ a1472478 y1475644 u1 u2 y1475699 r1472480 (by omega) (by omega) (by omega)) r1472480 (by decide) rfl wk_X4_maySell tw_1201 rfl ⟨Nat.le_of_ble_eq_true rfl, Nat.le_of_ble_eq_true rfl⟩ ⟨rfl, rfl⟩ hl.1 rfl (Nat.le_of_ble_eq_true rfl) dX11_broke_98 ⟨Nat.le_of_ble_eq_true rfl, Nat.le_of_ble_eq_true rfl⟩ (fun v1475702 f1475703 H locs q1475704 hW => ?_)
                  obtain ⟨⟨x1475706, rfl, p1475707⟩, g1475705⟩ := q1475704
                  have hF := FM.tr hF g1475705 rfl
                  have J1475716 : ∀ (y1475713 : Int32) (y1475715 : Int32) (b1475714 : (-1 : Int) ≤ y1475713.toInt ∧ y1475713.toInt ≤ 39) (H : Heap) (locs : List Loc) (ls : Array Slot), WS G cI cJ cZ cD cR cT A kp L f1475703 s H locs → FM kp L ms_X11_broke f0 f1475703 → lv_has ls 10 [(9, .int y1475644), (8, .int y1472513), (7, .int y1475713), (6, .int y1475715), (5, .ref a1472478), (0, .ref h0), (1, .int u1), (2, .int u2), (3, .int u3), (4, .int u4)] → W p l e ({ frames := 4, cells := 0, slots := 0, locals := 110 }) s m ([.ref h0, .int u1, .int u2, .int u3, .int u4] : List Value).toArray below meth c H locs 0 0 (MQ below (QT (po_X11_broke kp L f0 h0 u1 u2 u3 u4) G cI cJ cZ cD cR cT A kp L) ([.ref h0, .int u1, .int u2, .int u3, .int u4] : List Value).toArray s 0 0 A) (F0 m 123 ls []) := by
                    intro y1475713 y1475715 b1475714 H locs ls hW hF hl
                    clear b1475647 p1475707
                    refine q_iinc hx hb dX11_broke_123 hl (k := 0) rfl rfl rfl (by omega) (by decide) (fun i1475717 ls h1475718 hl => ?_)
                    have hl : lv_has ls 10 [(9, .int i1475717), (8, .int y1472513), (7, .int y1475713), (6, .int y1475715), (5, .ref a1472478), (0, .ref h0), (1, .int u1), (2, .int u2), (3, .int u3), (4, .int u4)] := hl
                    refine lv_goto (tgt := 72) hx hb dX11_broke_126 (by decide) ?_
                    exact ih72 f1475703 i1475717 y1475713 y1475715 ((fm_R g1475705 r1472477 rfl).trans m1475641) ((fm_R g1475705 r1472480 rfl).trans m1475642) ((fm_R g1475705 rh0 rfl).trans m1475694) (by omega) (by omega) (by omega) _ _ _ hW hF (lv_sub hl [0, 1, 2, 3, 4, 5, 6, 7, 8, 9] rfl)
                  refine q_if_eq (tgt := 123) hx hb dX11_broke_101 (by decide) rfl (fun c1475719 => ?_) (fun c1475719 => ?_)
                  · exact J1475716 y1475646 y1475648 (by omega) _ _ _ hW hF (lv_sub hl [0, 1, 2, 3, 4, 5, 6, 7, 8, 9] rfl)
                  · refine lv_iload hx hb dX11_broke_104 (lv_at hl 3 rfl) ?_
                    refine lv_iload hx hb dX11_broke_106 (lv_at hl 1 rfl) ?_
                    have J1475722 : ∀ (y1475720 : Int32) (b1475721 : (-1 : Int) ≤ y1475720.toInt ∧ y1475720.toInt ≤ 39) (H : Heap) (locs : List Loc) (ls : Array Slot), WS G cI cJ cZ cD cR cT A kp L f1475703 s H locs → FM kp L ms_X11_broke f0 f1475703 → lv_has ls 10 [(9, .int y1475644), (8, .int y1472513), (7, .int y1475646), (6, .int y1475648), (5, .ref a1472478), (0, .ref h0), (1, .int u1), (2, .int u2), (3, .int u3), (4, .int u4)] → W p l e ({ frames := 4, cells := 0, slots := 0, locals := 110 }) s m ([.ref h0, .int u1, .int u2, .int u3, .int u4] : List Value).toArray below meth c H locs 0 0 (MQ below (QT (po_X11_broke kp L f0 h0 u1 u2 u3 u4) G cI cJ cZ cD cR cT A kp L) ([.ref h0, .int u1, .int u2, .int u3, .int u4] : List Value).toArray s 0 0 A) (F0 m 118 ls [.int y1475720]) := by
                      intro y1475720 b1475721 H locs ls hW hF hl
                      clear p1475707 c1475719
                      refine lv_istore (lv' := [(7, .int y1475720), (9, .int y1475644), (8, .int y1472513), (6, .int y1475648), (5, .ref a1472478), (0, .ref h0), (1, .int u1), (2, .int u2), (3, .int u3), (4, .int u4)]) hx hb dX11_broke_118 hl (by decide) rfl (fun ls hl => ?_)
                      refine u_iinc hx hb dX11_broke_120 hl (k := 3) rfl (by decide) (fun i1475723 ls hl => ?_)
                      have hl : lv_has ls 10 [(6, .int i1475723), (7, .int y1475720), (9, .int y1475644), (8, .int y1472513), (5, .ref a1472478), (0, .ref h0), (1, .int u1), (2, .int u2), (3, .int u3), (4, .int u4)] := hl
                      exact J1475716 y1475720 i1475723 (by omega) _ _ _ hW hF (lv_sub hl [2, 3, 1, 0, 4, 5, 6, 7, 8, 9] rfl)
                    refine q_icmp_ne (tgt := 116) hx hb dX11_broke_108 (by decide) rfl rfl (fun c1475724 => ?_) (fun c1475724 => ?_)
                    · refine lv_iload hx hb dX11_broke_116 (lv_at hl 2 rfl) ?_
                      exact J1475722 y1475646 (by omega) _ _ _ hW hF (lv_sub hl [0, 1, 2, 3, 4, 5, 6, 7, 8, 9] rfl)
                    · refine lv_iload hx hb dX11_broke_111 (lv_at hl 0 rfl) ?_
                      refine lv_goto (tgt := 118) hx hb dX11_broke_113 (by decide) ?_
                      exact J1475722 y1475644 (by omega) _ _ _ hW hF (lv_sub hl [0, 1, 2, 3, 4, 5, 6, 7, 8, 9] rfl)
            have hk1475725 : (0 : Int32).toInt = 0 := rfl
            have hk1475726 : ((-1) : Int32).toInt = -1 := rfl
            have hk1475727 : (0 : Int32).toInt = 0 := rfl
            exact L1475649 41 f1472506 0 (-1) 0 ((fm_R g1472508 r1472477 rfl).trans ((fm_R g1472499 r1472477 rfl).trans ((fm_R g1472484 r1472477 rfl).trans m1472479))) ((fm_R g1472508 r1472480 rfl).trans ((fm_R g1472499 r1472480 rfl).trans m1472490)) ((fm_R g1472508 rh0 rfl).trans ((fm_R g1472499 rh0 rfl).trans ((fm_R g1472484 rh0 rfl).trans m1472476))) (by decide) (by decide) (by omega) _ _ _ hW hF (lv_sub hl [0, 1, 2, 3, 4, 5, 6, 7, 8, 9] rfl)
          refine q_icmp_ne (Y := 2) (tgt := 66) hx hb dX11_broke_58 (by decide) rfl rfl (fun c1475728 => ?_) (fun c1475728 => ?_)
          · refine lv_iconst (v := 0) hx hb dX11_broke_66 (by decide) ?_
            exact J1472514 0  _ _ _ hW hF (lv_sub hl [0, 1, 2, 3, 4, 5, 6, 7] rfl)
          · refine lv_iload hx hb dX11_broke_61 (lv_at hl 7 rfl) ?_
            refine lv_goto (tgt := 67) hx hb dX11_broke_63 (by decide) ?_
            exact J1472514 u4  _ _ _ hW hF (lv_sub hl [0, 1, 2, 3, 4, 5, 6, 7] rfl)
        · have q1475729 : (u3.toInt < 0 ∨ 2 < u3.toInt) := by omega
          clear p1472510
          refine lv_iconst (v := (-1)) hx hb dX11_broke_48 (by decide) ?_
          exact e_I E hW rfl ⟨⟨_, rfl, trivial⟩, hF⟩ dX11_broke_49
def ms_X11_canGo : List (Nat × Nat) := []
def po_X11_canGo (kp : Nat → Nat) (L : List Nat) (f0 : Nat → va_E) (h0 : Nat) (u1 : Int32) : Option Value → (Nat → va_E) → Prop := fun v f => (∃ r : Int32, v = some (.int r) ∧ ((r.toInt = 1 ∧ 1 ≤ u1.toInt ∧ u1.toInt ≤ 104) ∨ r.toInt = 0)) ∧ FM kp L ms_X11_canGo f0 f
set_option maxHeartbeats 4000000 in
set_option maxRecDepth 100000 in
theorem c_X11_canGo (l : Launch) (G : va_G) (cI cJ cZ cD cR cT : ClassId) (kp : Nat → Nat) (L : List Nat) (f0 : Nat → va_E) (hTH : TH cI cJ cZ cD cR cT kp L f0) (sz : Nat) (h0 : Nat) (u1 : Int32) (rh0 : RK kp L h0 11) : Met l yX11_canGo (Cond.code yX11_canGo cX11_canGo 2 (some .boolean) :: wTab) ({ frames := 2, cells := 0, slots := 0, locals := 62 }) (va_Pc [.ref h0, .int u1] (PreW G (tys6 cI cJ cZ cD cR cT) (va_pl L f0) sz)) (QT (po_X11_canGo kp L f0 h0 u1) G cI cJ cZ cD cR cT (va_A (va_pl L f0) sz) kp L) 0 0 (va_A (va_pl L f0) sz) := by
  refine metT (by decide) (Nat.le_of_ble_eq_true rfl) hTH ?_
  intro p e s m below meth c A ls E hW hl
  obtain ⟨hx, hb, -, hml, hown, hts, -, -, -⟩ := id E
  have hF : FM kp L ms_X11_canGo f0 f0 := FM.rf
  have hl : lv_has ls 2 [(0, .ref h0), (1, .int u1)] := hl
  refine lv_iload_n hx hb dX11_canGo_0 rfl (lv_at hl 1 rfl) ?_
  refine lv_iconst (v := 1) hx hb dX11_canGo_1 (by decide) ?_
  refine lv_bipush (v := 104) hx hb dX11_canGo_2 (by decide) ?_
  refine t_callS (As := [.int u1, .int 1, .int 104]) (rest := []) E hW (c_X11_within l G cI cJ cZ cD cR cT kp L f0 hW.2.2.2 _ u1 1 104 (by decide)) wk_X11_within tw_599 rfl ⟨Nat.le_of_ble_eq_true rfl, Nat.le_of_ble_eq_true rfl⟩ ⟨rfl, rfl⟩ hl.1 rfl (Nat.le_of_ble_eq_true rfl) dX11_canGo_4 ⟨Nat.le_of_ble_eq_true rfl, Nat.le_of_ble_eq_true rfl⟩ (fun v1475730 f1475731 H locs q1475732 hW => ?_)
  obtain ⟨⟨x1475734, rfl, p1475735⟩, g1475733⟩ := q1475732
  have p1475735 : (x1475734.toInt = 1 ∧ 1 ≤ u1.toInt ∧ u1.toInt ≤ 104) ∨ (x1475734.toInt = 0 ∧ (u1.toInt < 1 ∨ 104 < u1.toInt)) := p1475735
  have hF := FM.tr hF g1475733 rfl
  refine q_if_eq (tgt := 29) hx hb dX11_canGo_7 (by decide) rfl (fun c1475736 => ?_) (fun c1475736 => ?_)
  · have q1475737 : (u1.toInt < 1 ∨ 104 < u1.toInt) := by omega
    clear p1475735
    refine lv_iconst (v := 0) hx hb dX11_canGo_29 (by decide) ?_
    exact e_Z E hW rfl (by decide) ⟨⟨_, rfl, (by have hk : (0 : Int32).toInt = 0 := rfl; first | decide | omega)⟩, hF⟩ dX11_canGo_30
  · have q1475738 : 1 ≤ u1.toInt ∧ u1.toInt ≤ 104 := by omega
    clear p1475735
    refine lv_aload_n hx hb dX11_canGo_10 rfl (lv_at hl 0 rfl) ?_
    refine fg_RX11_12 E hW rh0 dX11_canGo_11 (fun a1475739 m1475740 r1475741 => ?_)
    refine fg_RX11_255 E hW r1475741 dX11_canGo_14 (fun y1475742 m1475743 b1475744 => ?_)
    refine lv_iload_n hx hb dX11_canGo_17 rfl (lv_at hl 1 rfl) ?_
    refine q_iadd hx hb dX11_canGo_18 rfl rfl (by omega) (fun x1475745 h1475746 => ?_)
    refine lv_sipush (v := 399) hx hb dX11_canGo_19 (by decide) ?_
    refine q_icmp_gt (Y := 399) (tgt := 29) hx hb dX11_canGo_22 (by decide) rfl rfl (fun c1475747 => ?_) (fun c1475747 => ?_)
    · refine lv_iconst (v := 0) hx hb dX11_canGo_29 (by decide) ?_
      exact e_Z E hW rfl (by decide) ⟨⟨_, rfl, (by have hk : (0 : Int32).toInt = 0 := rfl; first | decide | omega)⟩, hF⟩ dX11_canGo_30
    · refine lv_iconst (v := 1) hx hb dX11_canGo_25 (by decide) ?_
      refine lv_goto (tgt := 30) hx hb dX11_canGo_26 (by decide) ?_
      exact e_Z E hW rfl (by decide) ⟨⟨_, rfl, (by have hk : (1 : Int32).toInt = 1 := rfl; first | decide | omega)⟩, hF⟩ dX11_canGo_30
def ms_X11_canChoose : List (Nat × Nat) := []
def po_X11_canChoose (kp : Nat → Nat) (L : List Nat) (f0 : Nat → va_E) (h0 : Nat) (u1 : Int32) : Option Value → (Nat → va_E) → Prop := fun v f => (∃ r : Int32, v = some (.int r) ∧ ((0 : Int) ≤ r.toInt ∧ r.toInt ≤ 1)) ∧ FM kp L ms_X11_canChoose f0 f
set_option maxHeartbeats 4000000 in
set_option maxRecDepth 100000 in
theorem c_X11_canChoose (l : Launch) (G : va_G) (cI cJ cZ cD cR cT : ClassId) (kp : Nat → Nat) (L : List Nat) (f0 : Nat → va_E) (hTH : TH cI cJ cZ cD cR cT kp L f0) (sz : Nat) (h0 : Nat) (u1 : Int32) (rh0 : RK kp L h0 11) : Met l yX11_canChoose (Cond.code yX11_canChoose cX11_canChoose 3 (some .boolean) :: wTab) ({ frames := 3, cells := 0, slots := 0, locals := 83 }) (va_Pc [.ref h0, .int u1] (PreW G (tys6 cI cJ cZ cD cR cT) (va_pl L f0) sz)) (QT (po_X11_canChoose kp L f0 h0 u1) G cI cJ cZ cD cR cT (va_A (va_pl L f0) sz) kp L) 0 0 (va_A (va_pl L f0) sz) := by
  refine metT (by decide) (Nat.le_of_ble_eq_true rfl) hTH ?_
  intro p e s m below meth c A ls E hW hl
  obtain ⟨hx, hb, -, hml, hown, hts, -, -, -⟩ := id E
  have hF : FM kp L ms_X11_canChoose f0 f0 := FM.rf
  have hl : lv_has ls 3 [(0, .ref h0), (1, .int u1)] := hl
  refine lv_aload_n hx hb dX11_canChoose_0 rfl (lv_at hl 0 rfl) ?_
  refine lv_iload_n hx hb dX11_canChoose_1 rfl (lv_at hl 1 rfl) ?_
  refine t_callV (As := [.int u1]) (rest := []) E hW (c_X11_canGo l G cI cJ cZ cD cR cT kp L f0 hW.2.2.2 _ h0 u1 rh0) rh0 (by decide) rfl wk_X11_canGo tw_1110 rfl ⟨Nat.le_of_ble_eq_true rfl, Nat.le_of_ble_eq_true rfl⟩ ⟨rfl, rfl⟩ hl.1 rfl (Nat.le_of_ble_eq_true rfl) dX11_canChoose_2 ⟨Nat.le_of_ble_eq_true rfl, Nat.le_of_ble_eq_true rfl⟩ (fun v1475748 f1475749 H locs q1475750 hW => ?_)
  obtain ⟨⟨x1475752, rfl, p1475753⟩, g1475751⟩ := q1475750
  have hF := FM.tr hF g1475751 rfl
  refine q_if_eq (tgt := 15) hx hb dX11_canChoose_5 (by decide) rfl (fun c1475754 => ?_) (fun c1475754 => ?_)
  · clear p1475753
    refine lv_iconst (v := 0) hx hb dX11_canChoose_15 (by decide) ?_
    exact e_Z E hW rfl (by decide) ⟨⟨_, rfl, (by have hk : (0 : Int32).toInt = 0 := rfl; first | decide | omega)⟩, hF⟩ dX11_canChoose_16
  · have q1475755 : 1 ≤ u1.toInt ∧ u1.toInt ≤ 104 := by omega
    clear p1475753
    refine lv_aload_n hx hb dX11_canChoose_8 rfl (lv_at hl 0 rfl) ?_
    refine fg_RX11_312 E hW rh0 dX11_canChoose_9 (fun y1475756 m1475757 b1475758 => ?_)
    refine q_if_ne (tgt := 17) hx hb dX11_canChoose_12 (by decide) rfl (fun c1475759 => ?_) (fun c1475759 => ?_)
    · refine lv_iconst (v := 0) hx hb dX11_canChoose_17 (by decide) ?_
      refine lv_istore_n (lv' := [(2, .int 0), (0, .ref h0), (1, .int u1)]) hx hb dX11_canChoose_18 rfl hl (by decide) rfl (fun ls hl => ?_)
      have L1476002 : ∀ (n : Nat), ∀ (f1475998 : Nat → va_E) (y1476000 : Int32) (m1475999 : oI (f1475998 h0) 12 = y1475756) (b1476001 : (0 : Int) ≤ y1476000.toInt ∧ y1476000.toInt ≤ 6) (hm : (7 : Int) - y1476000.toInt ≤ n) (H : Heap) (locs : List Loc) (ls : Array Slot), WS G cI cJ cZ cD cR cT A kp L f1475998 s H locs → FM kp L ms_X11_canChoose f0 f1475998 → lv_has ls 3 [(2, .int y1476000), (0, .ref h0), (1, .int u1)] → W p l e ({ frames := 3, cells := 0, slots := 0, locals := 83 }) s m ([.ref h0, .int u1] : List Value).toArray below meth c H locs 0 0 (MQ below (QT (po_X11_canChoose kp L f0 h0 u1) G cI cJ cZ cD cR cT A kp L) ([.ref h0, .int u1] : List Value).toArray s 0 0 A) (F0 m 19 ls []) := by
        intro n
        induction n with
        | zero =>
          intro f1475998 y1476000 m1475999 b1476001 hm H locs ls hW hF hl
          have hz := i32_b y1476000
          exfalso; omega
        | succ n ih =>
          intro f1475998 y1476000 m1475999 b1476001 hm H locs ls hW hF hl
          clear c1475754
          have ih19 := ih
          refine lv_iload_n hx hb dX11_canChoose_19 rfl (lv_at hl 0 rfl) ?_
          refine lv_aload_n hx hb dX11_canChoose_20 rfl (lv_at hl 1 rfl) ?_
          refine fg_RX11_309 E hW rh0 dX11_canChoose_21 (fun y1476003 m1476004 b1476005 => ?_)
          refine q_icmp_ge (tgt := 54) hx hb dX11_canChoose_24 (by decide) rfl rfl (fun c1476006 => ?_) (fun c1476006 => ?_)
          · refine lv_iconst (v := 1) hx hb dX11_canChoose_54 (by decide) ?_
            exact e_Z E hW rfl (by decide) ⟨⟨_, rfl, (by have hk : (1 : Int32).toInt = 1 := rfl; first | decide | omega)⟩, hF⟩ dX11_canChoose_55
          · refine lv_aload_n hx hb dX11_canChoose_27 rfl (lv_at hl 1 rfl) ?_
            refine fg_RX11_12 E hW rh0 dX11_canChoose_28 (fun a1476007 m1476008 r1476009 => ?_)
            refine fg_RX11_114 E hW r1476009 dX11_canChoose_31 (fun a1476010 m1476011 r1476012 => ?_)
            refine lv_aload_n hx hb dX11_canChoose_34 rfl (lv_at hl 1 rfl) ?_
            refine fg_RX11_41 E hW rh0 dX11_canChoose_35 (fun a1476013 m1476014 r1476015 => ?_)
            refine lv_iload_n hx hb dX11_canChoose_38 rfl (lv_at hl 0 rfl) ?_
            refine gl_768 E hW r1476015 ⟨by omega, by omega⟩ dX11_canChoose_39 (fun y1476016 m1476017 b1476018 => ?_)
            refine t_callV (As := [.int y1476016]) (rest := []) E hW (c_X1_has l G cI cJ cZ cD cR cT kp L f1475998 hW.2.2.2 _ a1476010 y1476016 r1476012) r1476012 (by decide) rfl wk_X1_has tw_683 rfl ⟨Nat.le_of_ble_eq_true rfl, Nat.le_of_ble_eq_true rfl⟩ ⟨rfl, rfl⟩ hl.1 rfl (Nat.le_of_ble_eq_true rfl) dX11_canChoose_40 ⟨Nat.le_of_ble_eq_true rfl, Nat.le_of_ble_eq_true rfl⟩ (fun v1476019 f1476020 H locs q1476021 hW => ?_)
            obtain ⟨⟨x1476023, rfl, p1476024⟩, g1476022⟩ := q1476021
            have hF := FM.tr hF g1476022 rfl
            refine q_if_ne (tgt := 48) hx hb dX11_canChoose_43 (by decide) rfl (fun c1476025 => ?_) (fun c1476025 => ?_)
            · have q1476026 : 0 ≤ y1476016.toInt ∧ y1476016.toInt ≤ 39 := by omega
              clear p1476024
              refine q_iinc hx hb dX11_canChoose_48 hl (k := 0) rfl rfl rfl (by omega) (by decide) (fun i1476027 ls h1476028 hl => ?_)
              have hl : lv_has ls 3 [(2, .int i1476027), (0, .ref h0), (1, .int u1)] := hl
              refine lv_goto (tgt := 19) hx hb dX11_canChoose_51 (by decide) ?_
              exact ih19 f1476020 i1476027 ((fm_I g1476022 rh0 rfl).trans m1475999) (by omega) (by omega) _ _ _ hW hF (lv_sub hl [0, 1, 2] rfl)
            · clear p1476024
              refine lv_iconst (v := 0) hx hb dX11_canChoose_46 (by decide) ?_
              exact e_Z E hW rfl (by decide) ⟨⟨_, rfl, (by have hk : (0 : Int32).toInt = 0 := rfl; first | decide | omega)⟩, hF⟩ dX11_canChoose_47
      have hk1476029 : (0 : Int32).toInt = 0 := rfl
      exact L1476002 7 f1475749 0 m1475757 (by decide) (by omega) _ _ _ hW hF (lv_sub hl [0, 1, 2] rfl)
    · refine lv_iconst (v := 0) hx hb dX11_canChoose_15 (by decide) ?_
      exact e_Z E hW rfl (by decide) ⟨⟨_, rfl, (by have hk : (0 : Int32).toInt = 0 := rfl; first | decide | omega)⟩, hF⟩ dX11_canChoose_16
def ms_X11_worstOf : List (Nat × Nat) := [(0, 6), (0, 9), (0, 10), (0, 11), (0, 12), (0, 13), (0, 14), (1, 0), (1, 8), (1, 12), (1, 13), (1, 14), (2, 0), (3, 0), (3, 1), (3, 2), (3, 3), (4, 0), (10, 0), (10, 7), (108, 0), (115, 0), (161, 0), (162, 0), (163, 0), (164, 0), (165, 0), (166, 0), (167, 0), (169, 0), (170, 0), (171, 0), (221, 0), (222, 0), (223, 0), (284, 0), (285, 0), (341, 0), (342, 0), (343, 0), (344, 0), (345, 0), (346, 0), (347, 0), (348, 0), (349, 0), (520, 0), (521, 0), (701, 0), (702, 0), (703, 0), (704, 0), (705, 0), (706, 0), (708, 0), (709, 0), (710, 0)]
def po_X11_worstOf (kp : Nat → Nat) (L : List Nat) (f0 : Nat → va_E) (h0 : Nat) (u1 : Int32) (u2 : Int32) (u3 : Int32) : Option Value → (Nat → va_E) → Prop := fun v f => (∃ r : Int32, v = some (.int r) ∧ ((0 : Int) ≤ r.toInt)) ∧ FM kp L ms_X11_worstOf f0 f
set_option maxHeartbeats 4000000 in
set_option maxRecDepth 100000 in
theorem c_X11_worstOf (l : Launch) (G : va_G) (cI cJ cZ cD cR cT : ClassId) (kp : Nat → Nat) (L : List Nat) (f0 : Nat → va_E) (hTH : TH cI cJ cZ cD cR cT kp L f0) (sz : Nat) (h0 : Nat) (u1 : Int32) (u2 : Int32) (u3 : Int32) (rh0 : RK kp L h0 11) (pu3 : (1 : Int) ≤ u3.toInt ∧ u3.toInt ≤ 41) : Met l yX11_worstOf (Cond.code yX11_worstOf cX11_worstOf 7 (some .int) :: wTab) ({ frames := 7, cells := 0, slots := 0, locals := 191 }) (va_Pc [.ref h0, .int u1, .int u2, .int u3] (PreW G (tys6 cI cJ cZ cD cR cT) (va_pl L f0) sz)) (QT (po_X11_worstOf kp L f0 h0 u1 u2 u3) G cI cJ cZ cD cR cT (va_A (va_pl L f0) sz) kp L) 0 0 (va_A (va_pl L f0) sz) := by
  refine metT (by decide) (Nat.le_of_ble_eq_true rfl) hTH ?_
  intro p e s m below meth c A ls E hW hl
  obtain ⟨hx, hb, -, hml, hown, hts, -, -, -⟩ := id E
  have hF : FM kp L ms_X11_worstOf f0 f0 := FM.rf
  have hl : lv_has ls 7 [(0, .ref h0), (1, .int u1), (2, .int u2), (3, .int u3)] := hl
  refine lv_iconst (v := 0) hx hb dX11_worstOf_0 (by decide) ?_
  refine lv_istore (lv' := [(4, .int 0), (0, .ref h0), (1, .int u1), (2, .int u2), (3, .int u3)]) hx hb dX11_worstOf_1 hl (by decide) rfl (fun ls hl => ?_)
  refine lv_iconst (v := 0) hx hb dX11_worstOf_3 (by decide) ?_
  refine lv_istore (lv' := [(5, .int 0), (4, .int 0), (0, .ref h0), (1, .int u1), (2, .int u2), (3, .int u3)]) hx hb dX11_worstOf_4 hl (by decide) rfl (fun ls hl => ?_)
  have L1484007 : ∀ (n : Nat), ∀ (f1484002 : Nat → va_E) (y1484003 : Int32) (y1484005 : Int32) (b1484004 : (0 : Int) ≤ y1484003.toInt ∧ y1484003.toInt ≤ 3) (b1484006 : (0 : Int) ≤ y1484005.toInt) (hm : (4 : Int) - y1484003.toInt ≤ n) (H : Heap) (locs : List Loc) (ls : Array Slot), WS G cI cJ cZ cD cR cT A kp L f1484002 s H locs → FM kp L ms_X11_worstOf f0 f1484002 → lv_has ls 7 [(5, .int y1484003), (4, .int y1484005), (0, .ref h0), (1, .int u1), (2, .int u2), (3, .int u3)] → W p l e ({ frames := 7, cells := 0, slots := 0, locals := 191 }) s m ([.ref h0, .int u1, .int u2, .int u3] : List Value).toArray below meth c H locs 0 0 (MQ below (QT (po_X11_worstOf kp L f0 h0 u1 u2 u3) G cI cJ cZ cD cR cT A kp L) ([.ref h0, .int u1, .int u2, .int u3] : List Value).toArray s 0 0 A) (F0 m 6 ls []) := by
    intro n
    induction n with
    | zero =>
      intro f1484002 y1484003 y1484005 b1484004 b1484006 hm H locs ls hW hF hl
      have hz := i32_b y1484003
      exfalso; omega
    | succ n ih =>
      intro f1484002 y1484003 y1484005 b1484004 b1484006 hm H locs ls hW hF hl
      have ih6 := ih
      refine lv_iload hx hb dX11_worstOf_6 (lv_at hl 0 rfl) ?_
      refine lv_aload_n hx hb dX11_worstOf_8 rfl (lv_at hl 2 rfl) ?_
      refine fg_RX11_312 E hW rh0 dX11_worstOf_9 (fun y1484008 m1484009 b1484010 => ?_)
      have J1485995 : ∀ (H : Heap) (locs : List Loc) (ls : Array Slot), WS G cI cJ cZ cD cR cT A kp L f1484002 s H locs → FM kp L ms_X11_worstOf f0 f1484002 → lv_has ls 7 [(5, .int y1484003), (4, .int y1484005), (0, .ref h0), (1, .int u1), (2, .int u2), (3, .int u3)] → W p l e ({ frames := 7, cells := 0, slots := 0, locals := 191 }) s m ([.ref h0, .int u1, .int u2, .int u3] : List Value).toArray below meth c H locs 0 0 (MQ below (QT (po_X11_worstOf kp L f0 h0 u1 u2 u3) G cI cJ cZ cD cR cT A kp L) ([.ref h0, .int u1, .int u2, .int u3] : List Value).toArray s 0 0 A) (F0 m 145 ls []) := by
        intro  H locs ls hW hF hl
        refine lv_iload hx hb dX11_worstOf_145 (lv_at hl 1 rfl) ?_
        exact e_I E hW rfl ⟨⟨_, rfl, (by first | omega | trivial)⟩, hF⟩ dX11_worstOf_147
      refine q_icmp_ge (tgt := 145) hx hb dX11_worstOf_12 (by decide) rfl rfl (fun c1485996 => ?_) (fun c1485996 => ?_)
      · exact J1485995   _ _ _ hW hF (lv_sub hl [0, 1, 2, 3, 4, 5] rfl)
      · refine lv_iload hx hb dX11_worstOf_15 (lv_at hl 1 rfl) ?_
        refine lv_iload_n hx hb dX11_worstOf_17 rfl (lv_at hl 5 rfl) ?_
        refine q_icmp_ge (tgt := 145) hx hb dX11_worstOf_18 (by decide) rfl rfl (fun c1485997 => ?_) (fun c1485997 => ?_)
        · exact J1485995   _ _ _ hW hF (lv_sub hl [0, 1, 2, 3, 4, 5] rfl)
        · refine lv_aload_n hx hb dX11_worstOf_21 rfl (lv_at hl 2 rfl) ?_
          refine fg_RX11_18 E hW rh0 dX11_worstOf_22 (fun a1485998 m1485999 r1486000 => ?_)
          refine lv_aload_n hx hb dX11_worstOf_25 rfl (lv_at hl 2 rfl) ?_
          refine fg_RX11_12 E hW rh0 dX11_worstOf_26 (fun a1486001 m1486002 r1486003 => ?_)
          refine t_callV (As := [.ref a1486001]) (rest := []) E hW (c_X0_copyFrom l G cI cJ cZ cD cR cT kp L f1484002 hW.2.2.2 _ a1485998 a1486001 r1486000 r1486003) r1486000 (by decide) rfl wk_X0_copyFrom tw_1285 rfl ⟨Nat.le_of_ble_eq_true rfl, Nat.le_of_ble_eq_true rfl⟩ ⟨rfl, rfl⟩ hl.1 rfl (Nat.le_of_ble_eq_true rfl) dX11_worstOf_29 ⟨Nat.le_of_ble_eq_true rfl, Nat.le_of_ble_eq_true rfl⟩ (fun v1486004 f1486005 H locs q1486006 hW => ?_)
          obtain ⟨rfl, g1486007⟩ := q1486006
          have hF := FM.tr hF g1486007 rfl
          refine lv_aload_n hx hb dX11_worstOf_32 rfl (lv_at hl 2 rfl) ?_
          refine fg_RX11_18 E hW rh0 dX11_worstOf_33 (fun a1486008 m1486009 r1486010 => ?_)
          obtain rfl : a1485998 = a1486008 := (((fm_R g1486007 rh0 rfl).trans m1485999)).symm.trans m1486009
          refine lv_aload_n hx hb dX11_worstOf_36 rfl (lv_at hl 2 rfl) ?_
          refine fg_RX11_45 E hW rh0 dX11_worstOf_37 (fun a1486011 m1486012 r1486013 => ?_)
          refine lv_iload hx hb dX11_worstOf_40 (lv_at hl 0 rfl) ?_
          refine gl_770 E hW r1486013 ⟨by omega, by omega⟩ dX11_worstOf_42 (fun y1486014 m1486015 => ?_)
          refine lv_aload_n hx hb dX11_worstOf_43 rfl (lv_at hl 2 rfl) ?_
          refine fg_RX11_48 E hW rh0 dX11_worstOf_44 (fun a1486017 m1486018 r1486019 => ?_)
          refine lv_iload hx hb dX11_worstOf_47 (lv_at hl 0 rfl) ?_
          refine gl_771 E hW r1486019 ⟨by omega, by omega⟩ dX11_worstOf_49 (fun y1486020 m1486021 => ?_)
          refine t_callV (As := [.int y1486014, .int y1486020]) (rest := []) E hW (c_X0_tellCrops l G cI cJ cZ cD cR cT kp L f1486005 hW.2.2.2 _ a1485998 y1486014 y1486020 r1486000) r1486000 (by decide) rfl wk_X0_tellCrops tw_1318 rfl ⟨Nat.le_of_ble_eq_true rfl, Nat.le_of_ble_eq_true rfl⟩ ⟨rfl, rfl⟩ hl.1 rfl (Nat.le_of_ble_eq_true rfl) dX11_worstOf_50 ⟨Nat.le_of_ble_eq_true rfl, Nat.le_of_ble_eq_true rfl⟩ (fun v1486023 f1486024 H locs q1486025 hW => ?_)
          obtain ⟨rfl, g1486026⟩ := q1486025
          have hF := FM.tr hF g1486026 rfl
          refine lv_iconst (v := 0) hx hb dX11_worstOf_53 (by decide) ?_
          refine lv_istore (lv' := [(6, .int 0), (5, .int y1484003), (4, .int y1484005), (0, .ref h0), (1, .int u1), (2, .int u2), (3, .int u3)]) hx hb dX11_worstOf_54 hl (by decide) rfl (fun ls hl => ?_)
          have L1486266 : ∀ (n : Nat), ∀ (f1486258 : Nat → va_E) (y1486264 : Int32) (m1486259 : oR (f1486258 h0) 0 = a1486001) (m1486260 : oR (f1486258 h0) 1 = a1485998) (m1486261 : oR (f1486258 h0) 10 = a1486011) (m1486262 : oR (f1486258 h0) 11 = a1486017) (m1486263 : oI (f1486258 h0) 12 = y1484008) (b1486265 : (0 : Int) ≤ y1486264.toInt ∧ y1486264.toInt ≤ 6) (hm : (7 : Int) - y1486264.toInt ≤ n) (H : Heap) (locs : List Loc) (ls : Array Slot), WS G cI cJ cZ cD cR cT A kp L f1486258 s H locs → FM kp L ms_X11_worstOf f0 f1486258 → lv_has ls 7 [(6, .int y1486264), (5, .int y1484003), (4, .int y1484005), (0, .ref h0), (1, .int u1), (2, .int u2), (3, .int u3)] → W p l e ({ frames := 7, cells := 0, slots := 0, locals := 191 }) s m ([.ref h0, .int u1, .int u2, .int u3] : List Value).toArray below meth c H locs 0 0 (MQ below (QT (po_X11_worstOf kp L f0 h0 u1 u2 u3) G cI cJ cZ cD cR cT A kp L) ([.ref h0, .int u1, .int u2, .int u3] : List Value).toArray s 0 0 A) (F0 m 56 ls []) := by
            intro n
            induction n with
            | zero =>
              intro f1486258 y1486264 m1486259 m1486260 m1486261 m1486262 m1486263 b1486265 hm H locs ls hW hF hl
              have hz := i32_b y1486264
              exfalso; omega
            | succ n ih =>
              intro f1486258 y1486264 m1486259 m1486260 m1486261 m1486262 m1486263 b1486265 hm H locs ls hW hF hl
              have ih56 := ih
              refine lv_iload hx hb dX11_worstOf_56 (lv_at hl 0 rfl) ?_
              refine lv_aload_n hx hb dX11_worstOf_58 rfl (lv_at hl 3 rfl) ?_
              refine fg_RX11_309 E hW rh0 dX11_worstOf_59 (fun y1486267 m1486268 b1486269 => ?_)
              refine q_icmp_ge (tgt := 92) hx hb dX11_worstOf_62 (by decide) rfl rfl (fun c1486291 => ?_) (fun c1486291 => ?_)
              · refine lv_iconst (v := 0) hx hb dX11_worstOf_92 (by decide) ?_
                refine lv_istore (lv' := [(6, .int 0), (5, .int y1484003), (4, .int y1484005), (0, .ref h0), (1, .int u1), (2, .int u2), (3, .int u3)]) hx hb dX11_worstOf_93 hl (by decide) rfl (fun ls hl => ?_)
                have L1487914 : ∀ (n : Nat), ∀ (f1487905 : Nat → va_E) (y1487912 : Int32) (m1487906 : oR (f1487905 h0) 0 = a1486001) (m1487907 : oR (f1487905 h0) 1 = a1485998) (m1487908 : oI (f1487905 h0) 9 = y1486267) (m1487909 : oR (f1487905 h0) 10 = a1486011) (m1487910 : oR (f1487905 h0) 11 = a1486017) (m1487911 : oI (f1487905 h0) 12 = y1484008) (b1487913 : (0 : Int) ≤ y1487912.toInt) (hm : (2147483648 : Int) - y1487912.toInt ≤ n) (H : Heap) (locs : List Loc) (ls : Array Slot), WS G cI cJ cZ cD cR cT A kp L f1487905 s H locs → FM kp L ms_X11_worstOf f0 f1487905 → lv_has ls 7 [(6, .int y1487912), (5, .int y1484003), (4, .int y1484005), (0, .ref h0), (1, .int u1), (2, .int u2), (3, .int u3)] → W p l e ({ frames := 7, cells := 0, slots := 0, locals := 191 }) s m ([.ref h0, .int u1, .int u2, .int u3] : List Value).toArray below meth c H locs 0 0 (MQ below (QT (po_X11_worstOf kp L f0 h0 u1 u2 u3) G cI cJ cZ cD cR cT A kp L) ([.ref h0, .int u1, .int u2, .int u3] : List Value).toArray s 0 0 A) (F0 m 95 ls []) := by
                  intro n
                  induction n with
                  | zero =>
                    intro f1487905 y1487912 m1487906 m1487907 m1487908 m1487909 m1487910 m1487911 b1487913 hm H locs ls hW hF hl
                    have hz := i32_b y1487912
                    exfalso; omega
                  | succ n ih =>
                    intro f1487905 y1487912 m1487906 m1487907 m1487908 m1487909 m1487910 m1487911 b1487913 hm H locs ls hW hF hl
                    have ih95 := ih
                    refine lv_iload hx hb dX11_worstOf_95 (lv_at hl 0 rfl) ?_
                    refine lv_iload_n hx hb dX11_worstOf_97 rfl (lv_at hl 5 rfl) ?_
                    have J1487931 : ∀ (H : Heap) (locs : List Loc) (ls : Array Slot), WS G cI cJ cZ cD cR cT A kp L f1487905 s H locs → FM kp L ms_X11_worstOf f0 f1487905 → lv_has ls 7 [(6, .int y1487912), (5, .int y1484003), (4, .int y1484005), (0, .ref h0), (1, .int u1), (2, .int u2), (3, .int u3)] → W p l e ({ frames := 7, cells := 0, slots := 0, locals := 191 }) s m ([.ref h0, .int u1, .int u2, .int u3] : List Value).toArray below meth c H locs 0 0 (MQ below (QT (po_X11_worstOf kp L f0 h0 u1 u2 u3) G cI cJ cZ cD cR cT A kp L) ([.ref h0, .int u1, .int u2, .int u3] : List Value).toArray s 0 0 A) (F0 m 125 ls []) := by
                      intro  H locs ls hW hF hl
                      refine lv_iload hx hb dX11_worstOf_125 (lv_at hl 2 rfl) ?_
                      refine lv_aload_n hx hb dX11_worstOf_127 rfl (lv_at hl 3 rfl) ?_
                      refine fg_RX11_18 E hW rh0 dX11_worstOf_128 (fun a1487932 m1487933 r1487934 => ?_)
                      obtain rfl : a1485998 = a1487932 := (m1487907).symm.trans m1487933
                      refine fg_RX11_389 E hW r1486000 dX11_worstOf_131 (fun y1487935 m1487936 => ?_)
                      refine t_max (own := RX11) E tw_1322 ⟨tw_714, tw_115, tw_715⟩ hl.1 ⟨Nat.le_of_ble_eq_true rfl, Nat.le_of_ble_eq_true rfl⟩ ⟨Nat.le_of_ble_eq_true rfl, Nat.le_of_ble_eq_true rfl⟩ rfl rfl dX11_worstOf_134 (fun x1487938 h1487939 => ?_)
                      refine lv_istore (lv' := [(4, .int x1487938), (6, .int y1487912), (5, .int y1484003), (0, .ref h0), (1, .int u1), (2, .int u2), (3, .int u3)]) hx hb dX11_worstOf_137 hl (by decide) rfl (fun ls hl => ?_)
                      refine q_iinc hx hb dX11_worstOf_139 hl (k := 2) rfl rfl rfl (by omega) (by decide) (fun i1487940 ls h1487941 hl => ?_)
                      have hl : lv_has ls 7 [(5, .int i1487940), (4, .int x1487938), (6, .int y1487912), (0, .ref h0), (1, .int u1), (2, .int u2), (3, .int u3)] := hl
                      refine lv_goto (tgt := 6) hx hb dX11_worstOf_142 (by decide) ?_
                      exact ih6 f1487905 i1487940 x1487938 (by omega) (by omega) (by omega) _ _ _ hW hF (lv_sub hl [0, 1, 3, 4, 5, 6] rfl)
                    refine q_icmp_ge (tgt := 125) hx hb dX11_worstOf_98 (by decide) rfl rfl (fun c1487942 => ?_) (fun c1487942 => ?_)
                    · exact J1487931   _ _ _ hW hF (lv_sub hl [0, 1, 2, 3, 4, 5, 6] rfl)
                    · have hb1487943 : y1487912.toInt ≤ 2147483646 := by have := i32_b u2; omega
                      refine lv_aload_n hx hb dX11_worstOf_101 rfl (lv_at hl 3 rfl) ?_
                      refine fg_RX11_18 E hW rh0 dX11_worstOf_102 (fun a1487944 m1487945 r1487946 => ?_)
                      obtain rfl : a1485998 = a1487944 := (m1487907).symm.trans m1487945
                      refine fg_RX11_389 E hW r1486000 dX11_worstOf_105 (fun y1487947 m1487948 => ?_)
                      refine lv_iload_n hx hb dX11_worstOf_108 rfl (lv_at hl 6 rfl) ?_
                      refine q_icmp_ge (tgt := 125) hx hb dX11_worstOf_109 (by decide) rfl rfl (fun c1487950 => ?_) (fun c1487950 => ?_)
                      · exact J1487931   _ _ _ hW hF (lv_sub hl [0, 1, 2, 3, 4, 5, 6] rfl)
                      · refine lv_aload_n hx hb dX11_worstOf_112 rfl (lv_at hl 3 rfl) ?_
                        refine fg_RX11_18 E hW rh0 dX11_worstOf_113 (fun a1487951 m1487952 r1487953 => ?_)
                        obtain rfl : a1485998 = a1487951 := (m1487945).symm.trans m1487952
                        refine t_callV (As := []) (rest := []) E hW (c_X0_passWeek l G cI cJ cZ cD cR cT kp L f1487905 hW.2.2.2 _ a1485998 r1486000) r1486000 (by decide) rfl wk_X0_passWeek tw_1114 rfl ⟨Nat.le_of_ble_eq_true rfl, Nat.le_of_ble_eq_true rfl⟩ ⟨rfl, rfl⟩ hl.1 rfl (Nat.le_of_ble_eq_true rfl) dX11_worstOf_116 ⟨Nat.le_of_ble_eq_true rfl, Nat.le_of_ble_eq_true rfl⟩ (fun v1487954 f1487955 H locs q1487956 hW => ?_)
                        obtain ⟨rfl, g1487957⟩ := q1487956
                        have hF := FM.tr hF g1487957 rfl
                        refine q_iinc hx hb dX11_worstOf_119 hl (k := 0) rfl rfl rfl (by omega) (by decide) (fun i1487958 ls h1487959 hl => ?_)
                        have hl : lv_has ls 7 [(6, .int i1487958), (5, .int y1484003), (4, .int y1484005), (0, .ref h0), (1, .int u1), (2, .int u2), (3, .int u3)] := hl
                        refine lv_goto (tgt := 95) hx hb dX11_worstOf_122 (by decide) ?_
                        exact ih95 f1487955 i1487958 ((fm_R g1487957 rh0 rfl).trans m1487906) ((fm_R g1487957 rh0 rfl).trans m1487952) ((fm_I g1487957 rh0 rfl).trans m1487908) ((fm_R g1487957 rh0 rfl).trans m1487909) ((fm_R g1487957 rh0 rfl).trans m1487910) ((fm_I g1487957 rh0 rfl).trans m1487911) (by omega) (by omega) _ _ _ hW hF (lv_sub hl [0, 1, 2, 3, 4, 5, 6] rfl)
                have hk1487960 : (0 : Int32).toInt = 0 := rfl
                exact L1487914 2147483648 f1486258 0 m1486259 m1486260 m1486268 m1486261 m1486262 m1486263 (by decide) (by omega) _ _ _ hW hF (lv_sub hl [0, 1, 2, 3, 4, 5, 6] rfl)
              · refine lv_aload_n hx hb dX11_worstOf_65 rfl (lv_at hl 3 rfl) ?_
                refine fg_RX11_18 E hW rh0 dX11_worstOf_66 (fun a1487961 m1487962 r1487963 => ?_)
                obtain rfl : a1485998 = a1487961 := (m1486260).symm.trans m1487962
                refine fg_RX11_386 E hW r1486000 dX11_worstOf_69 (fun a1487964 m1487965 r1487966 => ?_)
                refine lv_aload_n hx hb dX11_worstOf_72 rfl (lv_at hl 3 rfl) ?_
                refine fg_RX11_41 E hW rh0 dX11_worstOf_73 (fun a1487967 m1487968 r1487969 => ?_)
                refine lv_iload hx hb dX11_worstOf_76 (lv_at hl 0 rfl) ?_
                refine gl_768 E hW r1487969 ⟨by omega, by omega⟩ dX11_worstOf_78 (fun y1487970 m1487971 b1487972 => ?_)
                refine lv_iload_n hx hb dX11_worstOf_79 rfl (lv_at hl 4 rfl) ?_
                refine lv_iload hx hb dX11_worstOf_80 (lv_at hl 0 rfl) ?_
                refine u_ishr hx hb dX11_worstOf_82 (fun x1487973 => ?_)
                refine lv_iconst (v := 1) hx hb dX11_worstOf_83 (by decide) ?_
                refine q_iand (M := 1) (k := 1) hx hb dX11_worstOf_84 (by decide) (by decide) (by decide) (fun x1487974 h1487975 => ?_)
                refine gs_108 E hW r1487966 ⟨by omega, by omega⟩ dX11_worstOf_85 (fun f1487976 H locs e1487977 n1487978 g1487979 hW => ?_)
                have hF := FM.tr hF g1487979 rfl
                refine q_iinc hx hb dX11_worstOf_86 hl (k := 0) rfl rfl rfl (by omega) (by decide) (fun i1487980 ls h1487981 hl => ?_)
                have hl : lv_has ls 7 [(6, .int i1487980), (5, .int y1484003), (4, .int y1484005), (0, .ref h0), (1, .int u1), (2, .int u2), (3, .int u3)] := hl
                refine lv_goto (tgt := 56) hx hb dX11_worstOf_89 (by decide) ?_
                exact ih56 f1487976 i1487980 ((fm_R g1487979 rh0 rfl).trans m1486259) ((fm_R g1487979 rh0 rfl).trans m1487962) ((fm_R g1487979 rh0 rfl).trans m1486261) ((fm_R g1487979 rh0 rfl).trans m1486262) ((fm_I g1487979 rh0 rfl).trans m1486263) (by omega) (by omega) _ _ _ hW hF (lv_sub hl [0, 1, 2, 3, 4, 5, 6] rfl)
          have hk1487982 : (0 : Int32).toInt = 0 := rfl
          exact L1486266 7 f1486024 0 ((fm_R g1486026 rh0 rfl).trans ((fm_R g1486007 rh0 rfl).trans m1486002)) ((fm_R g1486026 rh0 rfl).trans m1486009) ((fm_R g1486026 rh0 rfl).trans m1486012) ((fm_R g1486026 rh0 rfl).trans m1486018) ((fm_I g1486026 rh0 rfl).trans ((fm_I g1486007 rh0 rfl).trans m1484009)) (by decide) (by omega) _ _ _ hW hF (lv_sub hl [0, 1, 2, 3, 4, 5, 6] rfl)
  have hk1487983 : (0 : Int32).toInt = 0 := rfl
  have hk1487984 : (0 : Int32).toInt = 0 := rfl
  exact L1484007 4 f0 0 0 (by decide) (by decide) (by omega) _ _ _ hW hF (lv_sub hl [0, 1, 2, 3, 4, 5] rfl)
def ms_X11_choose : List (Nat × Nat) := [(0, 6), (0, 9), (0, 10), (0, 11), (0, 12), (0, 13), (0, 14), (1, 0), (1, 8), (1, 12), (1, 13), (1, 14), (2, 0), (3, 0), (3, 1), (3, 2), (3, 3), (4, 0), (10, 0), (10, 7), (11, 14), (108, 0), (115, 0), (161, 0), (162, 0), (163, 0), (164, 0), (165, 0), (166, 0), (167, 0), (169, 0), (170, 0), (171, 0), (221, 0), (222, 0), (223, 0), (284, 0), (285, 0), (341, 0), (342, 0), (343, 0), (344, 0), (345, 0), (346, 0), (347, 0), (348, 0), (349, 0), (520, 0), (521, 0), (701, 0), (702, 0), (703, 0), (704, 0), (705, 0), (706, 0), (708, 0), (709, 0), (710, 0), (773, 0)]
def po_X11_choose (kp : Nat → Nat) (L : List Nat) (f0 : Nat → va_E) (h0 : Nat) (u1 : Int32) : Option Value → (Nat → va_E) → Prop := fun v f => (∃ r : Int32, v = some (.int r) ∧ ((-1 : Int) ≤ r.toInt ∧ r.toInt ≤ 41)) ∧ FM kp L ms_X11_choose f0 f
set_option maxHeartbeats 4000000 in
set_option maxRecDepth 100000 in
theorem c_X11_choose (l : Launch) (G : va_G) (cI cJ cZ cD cR cT : ClassId) (kp : Nat → Nat) (L : List Nat) (f0 : Nat → va_E) (hTH : TH cI cJ cZ cD cR cT kp L f0) (sz : Nat) (h0 : Nat) (u1 : Int32) (rh0 : RK kp L h0 11) : Met l yX11_choose (Cond.code yX11_choose cX11_choose 8 (some .int) :: wTab) ({ frames := 8, cells := 0, slots := 0, locals := 217 }) (va_Pc [.ref h0, .int u1] (PreW G (tys6 cI cJ cZ cD cR cT) (va_pl L f0) sz)) (QT (po_X11_choose kp L f0 h0 u1) G cI cJ cZ cD cR cT (va_A (va_pl L f0) sz) kp L) 0 0 (va_A (va_pl L f0) sz) := by
  refine metT (by decide) (Nat.le_of_ble_eq_true rfl) hTH ?_
  intro p e s m below meth c A ls E hW hl
  obtain ⟨hx, hb, -, hml, hown, hts, -, -, -⟩ := id E
  have hF : FM kp L ms_X11_choose f0 f0 := FM.rf
  have hl : lv_has ls 8 [(0, .ref h0), (1, .int u1)] := hl
  refine lv_aload_n hx hb dX11_choose_0 rfl (lv_at hl 0 rfl) ?_
  refine lv_iload_n hx hb dX11_choose_1 rfl (lv_at hl 1 rfl) ?_
  refine t_callV (As := [.int u1]) (rest := []) E hW (c_X11_canChoose l G cI cJ cZ cD cR cT kp L f0 hW.2.2.2 _ h0 u1 rh0) rh0 (by decide) rfl wk_X11_canChoose tw_1272 rfl ⟨Nat.le_of_ble_eq_true rfl, Nat.le_of_ble_eq_true rfl⟩ ⟨rfl, rfl⟩ hl.1 rfl (Nat.le_of_ble_eq_true rfl) dX11_choose_2 ⟨Nat.le_of_ble_eq_true rfl, Nat.le_of_ble_eq_true rfl⟩ (fun v1487985 f1487986 H locs q1487987 hW => ?_)
  obtain ⟨⟨x1487989, rfl, p1487990⟩, g1487988⟩ := q1487987
  have hF := FM.tr hF g1487988 rfl
  refine q_if_ne (tgt := 10) hx hb dX11_choose_5 (by decide) rfl (fun c1487991 => ?_) (fun c1487991 => ?_)
  · refine lv_bipush (v := 41) hx hb dX11_choose_10 (by decide) ?_
    refine lv_istore_n (lv' := [(2, .int 41), (0, .ref h0), (1, .int u1)]) hx hb dX11_choose_12 rfl hl (by decide) rfl (fun ls hl => ?_)
    refine lv_iconst (v := 0) hx hb dX11_choose_13 (by decide) ?_
    refine lv_istore_n (lv' := [(3, .int 0), (2, .int 41), (0, .ref h0), (1, .int u1)]) hx hb dX11_choose_14 rfl hl (by decide) rfl (fun ls hl => ?_)
    refine lv_iconst (v := 0) hx hb dX11_choose_15 (by decide) ?_
    refine lv_istore (lv' := [(4, .int 0), (3, .int 0), (2, .int 41), (0, .ref h0), (1, .int u1)]) hx hb dX11_choose_16 hl (by decide) rfl (fun ls hl => ?_)
    have L1515688 : ∀ (n : Nat), ∀ (f1515682 : Nat → va_E) (y1515683 : Int32) (y1515685 : Int32) (y1515686 : Int32) (b1515684 : (0 : Int) ≤ y1515683.toInt ∧ y1515683.toInt ≤ 7) (b1515687 : (0 : Int) ≤ y1515686.toInt ∧ y1515686.toInt ≤ 41) (hm : (8 : Int) - y1515683.toInt ≤ n) (H : Heap) (locs : List Loc) (ls : Array Slot), WS G cI cJ cZ cD cR cT A kp L f1515682 s H locs → FM kp L ms_X11_choose f0 f1515682 → lv_has ls 8 [(4, .int y1515683), (3, .int y1515685), (2, .int y1515686), (0, .ref h0), (1, .int u1)] → W p l e ({ frames := 8, cells := 0, slots := 0, locals := 217 }) s m ([.ref h0, .int u1] : List Value).toArray below meth c H locs 0 0 (MQ below (QT (po_X11_choose kp L f0 h0 u1) G cI cJ cZ cD cR cT A kp L) ([.ref h0, .int u1] : List Value).toArray s 0 0 A) (F0 m 18 ls []) := by
      intro n
      induction n with
      | zero =>
        intro f1515682 y1515683 y1515685 y1515686 b1515684 b1515687 hm H locs ls hW hF hl
        have hz := i32_b y1515683
        exfalso; omega
      | succ n ih =>
        intro f1515682 y1515683 y1515685 y1515686 b1515684 b1515687 hm H locs ls hW hF hl
        clear p1487990 c1487991
        have ih18 := ih
        refine lv_iload hx hb dX11_choose_18 (lv_at hl 0 rfl) ?_
        refine lv_aload_n hx hb dX11_choose_20 rfl (lv_at hl 3 rfl) ?_
        refine fg_RX11_309 E hW rh0 dX11_choose_21 (fun y1515689 m1515690 b1515691 => ?_)
        have J1519143 : ∀ (H : Heap) (locs : List Loc) (ls : Array Slot), WS G cI cJ cZ cD cR cT A kp L f1515682 s H locs → FM kp L ms_X11_choose f0 f1515682 → lv_has ls 8 [(4, .int y1515683), (3, .int y1515685), (2, .int y1515686), (0, .ref h0), (1, .int u1)] → W p l e ({ frames := 8, cells := 0, slots := 0, locals := 217 }) s m ([.ref h0, .int u1] : List Value).toArray below meth c H locs 0 0 (MQ below (QT (po_X11_choose kp L f0 h0 u1) G cI cJ cZ cD cR cT A kp L) ([.ref h0, .int u1] : List Value).toArray s 0 0 A) (F0 m 104 ls []) := by
          intro  H locs ls hW hF hl
          refine lv_iconst (v := 0) hx hb dX11_choose_104 (by decide) ?_
          refine lv_istore (lv' := [(4, .int 0), (3, .int y1515685), (2, .int y1515686), (0, .ref h0), (1, .int u1)]) hx hb dX11_choose_105 hl (by decide) rfl (fun ls hl => ?_)
          have L1519288 : ∀ (n : Nat), ∀ (f1519284 : Nat → va_E) (y1519286 : Int32) (m1519285 : oI (f1519284 h0) 9 = y1515689) (b1519287 : (0 : Int) ≤ y1519286.toInt ∧ y1519286.toInt ≤ 6) (hm : (7 : Int) - y1519286.toInt ≤ n) (H : Heap) (locs : List Loc) (ls : Array Slot), WS G cI cJ cZ cD cR cT A kp L f1519284 s H locs → FM kp L ms_X11_choose f0 f1519284 → lv_has ls 8 [(4, .int y1519286), (3, .int y1515685), (2, .int y1515686), (0, .ref h0), (1, .int u1)] → W p l e ({ frames := 8, cells := 0, slots := 0, locals := 217 }) s m ([.ref h0, .int u1] : List Value).toArray below meth c H locs 0 0 (MQ below (QT (po_X11_choose kp L f0 h0 u1) G cI cJ cZ cD cR cT A kp L) ([.ref h0, .int u1] : List Value).toArray s 0 0 A) (F0 m 107 ls []) := by
            intro n
            induction n with
            | zero =>
              intro f1519284 y1519286 m1519285 b1519287 hm H locs ls hW hF hl
              have hz := i32_b y1519286
              exfalso; omega
            | succ n ih =>
              intro f1519284 y1519286 m1519285 b1519287 hm H locs ls hW hF hl
              have ih107 := ih
              refine lv_iload hx hb dX11_choose_107 (lv_at hl 0 rfl) ?_
              refine lv_aload_n hx hb dX11_choose_109 rfl (lv_at hl 3 rfl) ?_
              refine fg_RX11_309 E hW rh0 dX11_choose_110 (fun y1519289 m1519290 b1519291 => ?_)
              obtain rfl : y1515689 = y1519289 := (m1519285).symm.trans m1519290
              refine q_icmp_ge (tgt := 135) hx hb dX11_choose_113 (by decide) rfl rfl (fun c1519304 => ?_) (fun c1519304 => ?_)
              · refine lv_aload_n hx hb dX11_choose_135 rfl (lv_at hl 3 rfl) ?_
                refine lv_aload_n hx hb dX11_choose_136 rfl (lv_at hl 3 rfl) ?_
                refine fg_RX11_309 E hW rh0 dX11_choose_137 (fun y1519305 m1519306 b1519307 => ?_)
                obtain rfl : y1515689 = y1519305 := (m1519290).symm.trans m1519306
                refine fp_RX11_329 E hW rh0 (by omega) dX11_choose_140 (fun f1519308 H locs e1519309 n1519310 g1519311 hW => ?_)
                have hF := FM.tr hF g1519311 rfl
                refine lv_iload_n hx hb dX11_choose_143 rfl (lv_at hl 2 rfl) ?_
                exact e_I E hW rfl ⟨⟨_, rfl, (by first | omega | trivial)⟩, hF⟩ dX11_choose_144
              · refine lv_aload_n hx hb dX11_choose_116 rfl (lv_at hl 3 rfl) ?_
                refine fg_RX11_51 E hW rh0 dX11_choose_117 (fun a1519312 m1519313 r1519314 => ?_)
                refine lv_iload hx hb dX11_choose_120 (lv_at hl 0 rfl) ?_
                refine lv_iload_n hx hb dX11_choose_122 rfl (lv_at hl 1 rfl) ?_
                refine lv_iload hx hb dX11_choose_123 (lv_at hl 0 rfl) ?_
                refine u_ishr hx hb dX11_choose_125 (fun x1519315 => ?_)
                refine lv_iconst (v := 1) hx hb dX11_choose_126 (by decide) ?_
                refine q_iand (M := 1) (k := 1) hx hb dX11_choose_127 (by decide) (by decide) (by decide) (fun x1519316 h1519317 => ?_)
                refine gs_773 E hW r1519314 ⟨by omega, by omega⟩ dX11_choose_128 (fun f1519318 H locs e1519319 n1519320 g1519321 hW => ?_)
                have hF := FM.tr hF g1519321 rfl
                refine q_iinc hx hb dX11_choose_129 hl (k := 0) rfl rfl rfl (by omega) (by decide) (fun i1519322 ls h1519323 hl => ?_)
                have hl : lv_has ls 8 [(4, .int i1519322), (3, .int y1515685), (2, .int y1515686), (0, .ref h0), (1, .int u1)] := hl
                refine lv_goto (tgt := 107) hx hb dX11_choose_132 (by decide) ?_
                exact ih107 f1519318 i1519322 ((fm_I g1519321 rh0 rfl).trans m1519290) (by omega) (by omega) _ _ _ hW hF (lv_sub hl [0, 1, 2, 3, 4] rfl)
          have hk1519324 : (0 : Int32).toInt = 0 := rfl
          exact L1519288 7 f1515682 0 m1515690 (by decide) (by omega) _ _ _ hW hF (lv_sub hl [0, 1, 2, 3, 4] rfl)
        refine q_icmp_gt (tgt := 104) hx hb dX11_choose_24 (by decide) rfl rfl (fun c1519325 => ?_) (fun c1519325 => ?_)
        · exact J1519143   _ _ _ hW hF (lv_sub hl [0, 1, 2, 3, 4] rfl)
        · refine lv_iload_n hx hb dX11_choose_27 rfl (lv_at hl 2 rfl) ?_
          refine q_if_le (tgt := 104) hx hb dX11_choose_28 (by decide) rfl (fun c1519326 => ?_) (fun c1519326 => ?_)
          · exact J1519143   _ _ _ hW hF (lv_sub hl [0, 1, 2, 3, 4] rfl)
          · refine lv_iconst (v := 0) hx hb dX11_choose_31 (by decide) ?_
            refine lv_istore (lv' := [(5, .int 0), (4, .int y1515683), (3, .int y1515685), (2, .int y1515686), (0, .ref h0), (1, .int u1)]) hx hb dX11_choose_32 hl (by decide) rfl (fun ls hl => ?_)
            have L1522683 : ∀ (n : Nat), ∀ (f1522676 : Nat → va_E) (y1522678 : Int32) (y1522680 : Int32) (y1522681 : Int32) (m1522677 : oI (f1522676 h0) 9 = y1515689) (b1522679 : (0 : Int) ≤ y1522678.toInt) (b1522682 : (0 : Int) ≤ y1522681.toInt ∧ y1522681.toInt ≤ 41) (hm : (2147483648 : Int) - y1522678.toInt ≤ n) (H : Heap) (locs : List Loc) (ls : Array Slot), WS G cI cJ cZ cD cR cT A kp L f1522676 s H locs → FM kp L ms_X11_choose f0 f1522676 → lv_has ls 8 [(5, .int y1522678), (4, .int y1515683), (3, .int y1522680), (2, .int y1522681), (0, .ref h0), (1, .int u1)] → W p l e ({ frames := 8, cells := 0, slots := 0, locals := 217 }) s m ([.ref h0, .int u1] : List Value).toArray below meth c H locs 0 0 (MQ below (QT (po_X11_choose kp L f0 h0 u1) G cI cJ cZ cD cR cT A kp L) ([.ref h0, .int u1] : List Value).toArray s 0 0 A) (F0 m 34 ls []) := by
              intro n
              induction n with
              | zero =>
                intro f1522676 y1522678 y1522680 y1522681 m1522677 b1522679 b1522682 hm H locs ls hW hF hl
                have hz := i32_b y1522678
                exfalso; omega
              | succ n ih =>
                intro f1522676 y1522678 y1522680 y1522681 m1522677 b1522679 b1522682 hm H locs ls hW hF hl
                clear b1515687 c1519326
                have ih34 := ih
                refine lv_iload hx hb dX11_choose_34 (lv_at hl 0 rfl) ?_
                refine lv_iconst (v := 1) hx hb dX11_choose_36 (by decide) ?_
                refine lv_aload_n hx hb dX11_choose_37 rfl (lv_at hl 4 rfl) ?_
                refine fg_RX11_309 E hW rh0 dX11_choose_38 (fun y1522684 m1522685 b1522686 => ?_)
                obtain rfl : y1515689 = y1522684 := (m1522677).symm.trans m1522685
                refine u_ishl hx hb dX11_choose_41 (fun x1522687 => ?_)
                have J1522730 : ∀ (H : Heap) (locs : List Loc) (ls : Array Slot), WS G cI cJ cZ cD cR cT A kp L f1522676 s H locs → FM kp L ms_X11_choose f0 f1522676 → lv_has ls 8 [(5, .int y1522678), (4, .int y1515683), (3, .int y1522680), (2, .int y1522681), (0, .ref h0), (1, .int u1)] → W p l e ({ frames := 8, cells := 0, slots := 0, locals := 217 }) s m ([.ref h0, .int u1] : List Value).toArray below meth c H locs 0 0 (MQ below (QT (po_X11_choose kp L f0 h0 u1) G cI cJ cZ cD cR cT A kp L) ([.ref h0, .int u1] : List Value).toArray s 0 0 A) (F0 m 98 ls []) := by
                  intro  H locs ls hW hF hl
                  refine q_iinc hx hb dX11_choose_98 hl (k := 1) rfl rfl rfl (by omega) (by decide) (fun i1522731 ls h1522732 hl => ?_)
                  have hl : lv_has ls 8 [(4, .int i1522731), (5, .int y1522678), (3, .int y1522680), (2, .int y1522681), (0, .ref h0), (1, .int u1)] := hl
                  refine lv_goto (tgt := 18) hx hb dX11_choose_101 (by decide) ?_
                  exact ih18 f1522676 i1522731 y1522680 y1522681 (by omega) (by omega) (by omega) _ _ _ hW hF (lv_sub hl [0, 2, 3, 4, 5] rfl)
                refine q_icmp_ge (tgt := 98) hx hb dX11_choose_42 (by decide) rfl rfl (fun c1522733 => ?_) (fun c1522733 => ?_)
                · exact J1522730   _ _ _ hW hF (lv_sub hl [0, 1, 2, 3, 4, 5] rfl)
                · have hb1522734 : y1522678.toInt ≤ 2147483646 := by have := i32_b x1522687; omega
                  refine lv_iload_n hx hb dX11_choose_45 rfl (lv_at hl 3 rfl) ?_
                  refine q_if_le (tgt := 98) hx hb dX11_choose_46 (by decide) rfl (fun c1522735 => ?_) (fun c1522735 => ?_)
                  · exact J1522730   _ _ _ hW hF (lv_sub hl [0, 1, 2, 3, 4, 5] rfl)
                  · refine lv_iload hx hb dX11_choose_49 (lv_at hl 0 rfl) ?_
                    refine t_callS (As := [.int y1522678]) (rest := []) E hW (c_J6_bitCount_0f7a4 l G cI cJ cZ cD cR cT kp L f1522676 hW.2.2.2 _ y1522678 (by omega)) wk_J6_bitCount_0f7a4 tw_1276 rfl ⟨Nat.le_of_ble_eq_true rfl, Nat.le_of_ble_eq_true rfl⟩ ⟨rfl, rfl⟩ hl.1 rfl (Nat.le_of_ble_eq_true rfl) dX11_choose_51 ⟨Nat.le_of_ble_eq_true rfl, Nat.le_of_ble_eq_true rfl⟩ (fun v1522736 f1522737 H locs q1522738 hW => ?_)
                    obtain ⟨⟨x1522740, rfl, p1522741⟩, g1522739⟩ := q1522738
                    have hF := FM.tr hF g1522739 rfl
                    refine lv_iload hx hb dX11_choose_54 (lv_at hl 1 rfl) ?_
                    have J1522760 : ∀ (f1522755 : Nat → va_E) (y1522757 : Int32) (y1522758 : Int32) (m1522756 : oI (f1522755 h0) 9 = y1515689) (b1522759 : (0 : Int) ≤ y1522758.toInt ∧ y1522758.toInt ≤ 41) (H : Heap) (locs : List Loc) (ls : Array Slot), WS G cI cJ cZ cD cR cT A kp L f1522755 s H locs → FM kp L ms_X11_choose f0 f1522755 → lv_has ls 8 [(5, .int y1522678), (4, .int y1515683), (3, .int y1522757), (2, .int y1522758), (0, .ref h0), (1, .int u1)] → W p l e ({ frames := 8, cells := 0, slots := 0, locals := 217 }) s m ([.ref h0, .int u1] : List Value).toArray below meth c H locs 0 0 (MQ below (QT (po_X11_choose kp L f0 h0 u1) G cI cJ cZ cD cR cT A kp L) ([.ref h0, .int u1] : List Value).toArray s 0 0 A) (F0 m 92 ls []) := by
                      intro f1522755 y1522757 y1522758 m1522756 b1522759 H locs ls hW hF hl
                      clear b1522682 c1522735 p1522741
                      refine q_iinc hx hb dX11_choose_92 hl (k := 0) rfl rfl rfl (by omega) (by decide) (fun i1522761 ls h1522762 hl => ?_)
                      have hl : lv_has ls 8 [(5, .int i1522761), (4, .int y1515683), (3, .int y1522757), (2, .int y1522758), (0, .ref h0), (1, .int u1)] := hl
                      refine lv_goto (tgt := 34) hx hb dX11_choose_95 (by decide) ?_
                      exact ih34 f1522755 i1522761 y1522757 y1522758 m1522756 (by omega) (by omega) (by omega) _ _ _ hW hF (lv_sub hl [0, 1, 2, 3, 4, 5] rfl)
                    refine q_icmp_eq (tgt := 62) hx hb dX11_choose_56 (by decide) rfl rfl (fun c1522763 => ?_) (fun c1522763 => ?_)
                    · refine lv_aload_n hx hb dX11_choose_62 rfl (lv_at hl 4 rfl) ?_
                      refine lv_iload hx hb dX11_choose_63 (lv_at hl 0 rfl) ?_
                      refine t_callV (As := [.int y1522678]) (rest := []) E hW (c_X11_bitsOfRow l G cI cJ cZ cD cR cT kp L f1522737 hW.2.2.2 _ h0 y1522678 rh0 (by omega)) rh0 (by decide) rfl wk_X11_bitsOfRow tw_1277 rfl ⟨Nat.le_of_ble_eq_true rfl, Nat.le_of_ble_eq_true rfl⟩ ⟨rfl, rfl⟩ hl.1 rfl (Nat.le_of_ble_eq_true rfl) dX11_choose_65 ⟨Nat.le_of_ble_eq_true rfl, Nat.le_of_ble_eq_true rfl⟩ (fun v1522764 f1522765 H locs q1522766 hW => ?_)
                      obtain ⟨⟨x1522768, rfl, p1522769⟩, g1522767⟩ := q1522766
                      clear p1522769
                      have hF := FM.tr hF g1522767 rfl
                      refine lv_istore (lv' := [(6, .int x1522768), (5, .int y1522678), (4, .int y1515683), (3, .int y1522680), (2, .int y1522681), (0, .ref h0), (1, .int u1)]) hx hb dX11_choose_68 hl (by decide) rfl (fun ls hl => ?_)
                      refine lv_aload_n hx hb dX11_choose_70 rfl (lv_at hl 5 rfl) ?_
                      refine lv_iload hx hb dX11_choose_71 (lv_at hl 0 rfl) ?_
                      refine lv_iload_n hx hb dX11_choose_73 rfl (lv_at hl 6 rfl) ?_
                      refine lv_iload_n hx hb dX11_choose_74 rfl (lv_at hl 4 rfl) ?_
                      refine t_callV (As := [.int x1522768, .int u1, .int y1522681]) (rest := []) E hW (c_X11_worstOf l G cI cJ cZ cD cR cT kp L f1522765 hW.2.2.2 _ h0 x1522768 u1 y1522681 rh0 (by omega)) rh0 (by decide) rfl wk_X11_worstOf tw_1281 rfl ⟨Nat.le_of_ble_eq_true rfl, Nat.le_of_ble_eq_true rfl⟩ ⟨rfl, rfl⟩ hl.1 rfl (Nat.le_of_ble_eq_true rfl) dX11_choose_75 ⟨Nat.le_of_ble_eq_true rfl, Nat.le_of_ble_eq_true rfl⟩ (fun v1522770 f1522771 H locs q1522772 hW => ?_)
                      obtain ⟨⟨x1522774, rfl, p1522775⟩, g1522773⟩ := q1522772
                      have hF := FM.tr hF g1522773 rfl
                      refine lv_istore (lv' := [(7, .int x1522774), (6, .int x1522768), (5, .int y1522678), (4, .int y1515683), (3, .int y1522680), (2, .int y1522681), (0, .ref h0), (1, .int u1)]) hx hb dX11_choose_78 hl (by decide) rfl (fun ls hl => ?_)
                      refine lv_iload hx hb dX11_choose_80 (lv_at hl 0 rfl) ?_
                      refine lv_iload_n hx hb dX11_choose_82 rfl (lv_at hl 5 rfl) ?_
                      refine q_icmp_ge (tgt := 92) hx hb dX11_choose_83 (by decide) rfl rfl (fun c1522776 => ?_) (fun c1522776 => ?_)
                      · exact J1522760 f1522771 y1522680 y1522681 ((fm_I g1522773 rh0 rfl).trans ((fm_I g1522767 rh0 rfl).trans ((fm_I g1522739 rh0 rfl).trans m1522685))) (by omega) _ _ _ hW hF (lv_sub hl [2, 3, 4, 5, 6, 7] rfl)
                      · refine lv_iload hx hb dX11_choose_86 (lv_at hl 0 rfl) ?_
                        refine lv_istore_n (lv' := [(2, .int x1522774), (7, .int x1522774), (6, .int x1522768), (5, .int y1522678), (4, .int y1515683), (3, .int y1522680), (0, .ref h0), (1, .int u1)]) hx hb dX11_choose_88 rfl hl (by decide) rfl (fun ls hl => ?_)
                        refine lv_iload hx hb dX11_choose_89 (lv_at hl 2 rfl) ?_
                        refine lv_istore_n (lv' := [(3, .int x1522768), (2, .int x1522774), (7, .int x1522774), (6, .int x1522768), (5, .int y1522678), (4, .int y1515683), (0, .ref h0), (1, .int u1)]) hx hb dX11_choose_91 rfl hl (by decide) rfl (fun ls hl => ?_)
                        exact J1522760 f1522771 x1522768 x1522774 ((fm_I g1522773 rh0 rfl).trans ((fm_I g1522767 rh0 rfl).trans ((fm_I g1522739 rh0 rfl).trans m1522685))) (by omega) _ _ _ hW hF (lv_sub hl [4, 5, 0, 1, 6, 7] rfl)
                    · refine lv_goto (tgt := 92) hx hb dX11_choose_59 (by decide) ?_
                      exact J1522760 f1522737 y1522680 y1522681 ((fm_I g1522739 rh0 rfl).trans m1522685) (by omega) _ _ _ hW hF (lv_sub hl [0, 1, 2, 3, 4, 5] rfl)
            have hk1522777 : (0 : Int32).toInt = 0 := rfl
            exact L1522683 2147483648 f1515682 0 y1515685 y1515686 m1515690 (by decide) (by omega) (by omega) _ _ _ hW hF (lv_sub hl [0, 1, 2, 3, 4, 5] rfl)
    have hk1522778 : (0 : Int32).toInt = 0 := rfl
    have hk1522779 : (0 : Int32).toInt = 0 := rfl
    have hk1522780 : (41 : Int32).toInt = 41 := rfl
    exact L1515688 8 f1487986 0 0 41 (by decide) (by decide) (by omega) _ _ _ hW hF (lv_sub hl [0, 1, 2, 3, 4] rfl)
  · refine lv_iconst (v := (-1)) hx hb dX11_choose_8 (by decide) ?_
    exact e_I E hW rfl ⟨⟨_, rfl, (by have hk : ((-1) : Int32).toInt = -1 := rfl; first | decide | omega)⟩, hF⟩ dX11_choose_9
def ms_X11_chosen : List (Nat × Nat) := []
def po_X11_chosen (kp : Nat → Nat) (L : List Nat) (f0 : Nat → va_E) (h0 : Nat) (u1 : Int32) : Option Value → (Nat → va_E) → Prop := fun v f => (∃ r : Int32, v = some (.int r) ∧ (True)) ∧ FM kp L ms_X11_chosen f0 f
set_option maxHeartbeats 4000000 in
set_option maxRecDepth 100000 in
theorem c_X11_chosen (l : Launch) (G : va_G) (cI cJ cZ cD cR cT : ClassId) (kp : Nat → Nat) (L : List Nat) (f0 : Nat → va_E) (hTH : TH cI cJ cZ cD cR cT kp L f0) (sz : Nat) (h0 : Nat) (u1 : Int32) (rh0 : RK kp L h0 11) : Met l yX11_chosen (Cond.code yX11_chosen cX11_chosen 2 (some .int) :: wTab) ({ frames := 2, cells := 0, slots := 0, locals := 62 }) (va_Pc [.ref h0, .int u1] (PreW G (tys6 cI cJ cZ cD cR cT) (va_pl L f0) sz)) (QT (po_X11_chosen kp L f0 h0 u1) G cI cJ cZ cD cR cT (va_A (va_pl L f0) sz) kp L) 0 0 (va_A (va_pl L f0) sz) := by
  refine metT (by decide) (Nat.le_of_ble_eq_true rfl) hTH ?_
  intro p e s m below meth c A ls E hW hl
  obtain ⟨hx, hb, -, hml, hown, hts, -, -, -⟩ := id E
  have hF : FM kp L ms_X11_chosen f0 f0 := FM.rf
  have hl : lv_has ls 2 [(0, .ref h0), (1, .int u1)] := hl
  refine lv_iload_n hx hb dX11_chosen_0 rfl (lv_at hl 1 rfl) ?_
  refine lv_iconst (v := 0) hx hb dX11_chosen_1 (by decide) ?_
  refine lv_aload_n hx hb dX11_chosen_2 rfl (lv_at hl 0 rfl) ?_
  refine fg_RX11_329 E hW rh0 dX11_chosen_3 (fun y1522781 m1522782 b1522783 => ?_)
  refine lv_iconst (v := 1) hx hb dX11_chosen_6 (by decide) ?_
  refine q_isub (Y := 1) hx hb dX11_chosen_7 rfl rfl (by omega) (fun x1522784 h1522785 => ?_)
  refine t_callS (As := [.int u1, .int 0, .int x1522784]) (rest := []) E hW (c_X11_within l G cI cJ cZ cD cR cT kp L f0 hW.2.2.2 _ u1 0 x1522784 (by decide)) wk_X11_within tw_599 rfl ⟨Nat.le_of_ble_eq_true rfl, Nat.le_of_ble_eq_true rfl⟩ ⟨rfl, rfl⟩ hl.1 rfl (Nat.le_of_ble_eq_true rfl) dX11_chosen_8 ⟨Nat.le_of_ble_eq_true rfl, Nat.le_of_ble_eq_true rfl⟩ (fun v1522786 f1522787 H locs q1522788 hW => ?_)
  obtain ⟨⟨x1522790, rfl, p1522791⟩, g1522789⟩ := q1522788
  have p1522791 : (x1522790.toInt = 1 ∧ 0 ≤ u1.toInt ∧ u1.toInt ≤ x1522784.toInt) ∨ (x1522790.toInt = 0 ∧ (u1.toInt < 0 ∨ x1522784.toInt < u1.toInt)) := p1522791
  have hF := FM.tr hF g1522789 rfl
  have J1522799 : ∀ (y1522798 : Int32) (H : Heap) (locs : List Loc) (ls : Array Slot), WS G cI cJ cZ cD cR cT A kp L f1522787 s H locs → FM kp L ms_X11_chosen f0 f1522787 → lv_has ls 2 [(0, .ref h0), (1, .int u1)] → W p l e ({ frames := 2, cells := 0, slots := 0, locals := 62 }) s m ([.ref h0, .int u1] : List Value).toArray below meth c H locs 0 0 (MQ below (QT (po_X11_chosen kp L f0 h0 u1) G cI cJ cZ cD cR cT A kp L) ([.ref h0, .int u1] : List Value).toArray s 0 0 A) (F0 m 24 ls [.int y1522798]) := by
    intro y1522798 H locs ls hW hF hl
    exact e_I E hW rfl ⟨⟨_, rfl, trivial⟩, hF⟩ dX11_chosen_24
  refine q_if_eq (tgt := 23) hx hb dX11_chosen_11 (by decide) rfl (fun c1522800 => ?_) (fun c1522800 => ?_)
  · have q1522801 : (u1.toInt < 0 ∨ x1522784.toInt < u1.toInt) := by omega
    clear p1522791
    refine lv_iconst (v := (-1)) hx hb dX11_chosen_23 (by decide) ?_
    exact J1522799 (-1)  _ _ _ hW hF (lv_sub hl [0, 1] rfl)
  · have q1522802 : 0 ≤ u1.toInt ∧ u1.toInt ≤ x1522784.toInt := by omega
    clear p1522791
    refine lv_aload_n hx hb dX11_chosen_14 rfl (lv_at hl 0 rfl) ?_
    refine fg_RX11_51 E hW rh0 dX11_chosen_15 (fun a1522803 m1522804 r1522805 => ?_)
    refine lv_iload_n hx hb dX11_chosen_18 rfl (lv_at hl 1 rfl) ?_
    refine gl_773 E hW r1522805 ⟨by omega, by omega⟩ dX11_chosen_19 (fun y1522806 m1522807 => ?_)
    refine lv_goto (tgt := 24) hx hb dX11_chosen_20 (by decide) ?_
    exact J1522799 y1522806  _ _ _ hW hF (lv_sub hl [0, 1] rfl)
def ms_X11_clear : List (Nat × Nat) := [(11, 9), (11, 12)]
def po_X11_clear (kp : Nat → Nat) (L : List Nat) (f0 : Nat → va_E) (h0 : Nat) : Option Value → (Nat → va_E) → Prop := fun v f => (∃ r : Int32, v = some (.int r) ∧ ((0 : Int) ≤ r.toInt ∧ r.toInt ≤ 6)) ∧ FM kp L ms_X11_clear f0 f
set_option maxHeartbeats 4000000 in
set_option maxRecDepth 100000 in
theorem c_X11_clear (l : Launch) (G : va_G) (cI cJ cZ cD cR cT : ClassId) (kp : Nat → Nat) (L : List Nat) (f0 : Nat → va_E) (hTH : TH cI cJ cZ cD cR cT kp L f0) (sz : Nat) (h0 : Nat) (rh0 : RK kp L h0 11) : Met l yX11_clear (Cond.code yX11_clear cX11_clear 2 (some .int) :: wTab) ({ frames := 1, cells := 0, slots := 0, locals := 40 }) (va_Pc [.ref h0] (PreW G (tys6 cI cJ cZ cD cR cT) (va_pl L f0) sz)) (QT (po_X11_clear kp L f0 h0) G cI cJ cZ cD cR cT (va_A (va_pl L f0) sz) kp L) 0 0 (va_A (va_pl L f0) sz) := by
  refine metT (by decide) (Nat.le_of_ble_eq_true rfl) hTH ?_
  intro p e s m below meth c A ls E hW hl
  obtain ⟨hx, hb, -, hml, hown, hts, -, -, -⟩ := id E
  have hF : FM kp L ms_X11_clear f0 f0 := FM.rf
  have hl : lv_has ls 2 [(0, .ref h0)] := hl
  refine lv_aload_n hx hb dX11_clear_0 rfl (lv_at hl 0 rfl) ?_
  refine fg_RX11_309 E hW rh0 dX11_clear_1 (fun y1522809 m1522810 b1522811 => ?_)
  refine lv_istore_n (lv' := [(1, .int y1522809), (0, .ref h0)]) hx hb dX11_clear_4 rfl hl (by decide) rfl (fun ls hl => ?_)
  refine lv_aload_n hx hb dX11_clear_5 rfl (lv_at hl 1 rfl) ?_
  refine lv_iconst (v := 0) hx hb dX11_clear_6 (by decide) ?_
  refine fp_RX11_309 E hW rh0 (by decide) dX11_clear_7 (fun f1522812 H locs e1522813 n1522814 g1522815 hW => ?_)
  have hF := FM.tr hF g1522815 rfl
  refine lv_aload_n hx hb dX11_clear_10 rfl (lv_at hl 1 rfl) ?_
  refine lv_iconst (v := 0) hx hb dX11_clear_11 (by decide) ?_
  refine fp_RX11_312 E hW rh0 (by decide) dX11_clear_12 (fun f1522816 H locs e1522817 n1522818 g1522819 hW => ?_)
  have hF := FM.tr hF g1522819 rfl
  refine lv_iload_n hx hb dX11_clear_15 rfl (lv_at hl 0 rfl) ?_
  exact e_I E hW rfl ⟨⟨_, rfl, (by first | omega | trivial)⟩, hF⟩ dX11_clear_16
def ms_X11_coin : List (Nat × Nat) := [(11, 15), (342, 0)]
def po_X11_coin (kp : Nat → Nat) (L : List Nat) (f0 : Nat → va_E) (h0 : Nat) (u1 : Int32) (u2 : Int32) : Option Value → (Nat → va_E) → Prop := fun v f => (∃ r : Int32, v = some (.int r) ∧ (True)) ∧ FM kp L ms_X11_coin f0 f
set_option maxHeartbeats 4000000 in
set_option maxRecDepth 100000 in
theorem c_X11_coin (l : Launch) (G : va_G) (cI cJ cZ cD cR cT : ClassId) (kp : Nat → Nat) (L : List Nat) (f0 : Nat → va_E) (hTH : TH cI cJ cZ cD cR cT kp L f0) (sz : Nat) (h0 : Nat) (u1 : Int32) (u2 : Int32) (rh0 : RK kp L h0 11) : Met l yX11_coin (Cond.code yX11_coin cX11_coin 4 (some .int) :: wTab) ({ frames := 2, cells := 0, slots := 0, locals := 82 }) (va_Pc [.ref h0, .int u1, .int u2] (PreW G (tys6 cI cJ cZ cD cR cT) (va_pl L f0) sz)) (QT (po_X11_coin kp L f0 h0 u1 u2) G cI cJ cZ cD cR cT (va_A (va_pl L f0) sz) kp L) 0 0 (va_A (va_pl L f0) sz) := by
  refine metT (by decide) (Nat.le_of_ble_eq_true rfl) hTH ?_
  intro p e s m below meth c A ls E hW hl
  obtain ⟨hx, hb, -, hml, hown, hts, -, -, -⟩ := id E
  have hF : FM kp L ms_X11_coin f0 f0 := FM.rf
  have hl : lv_has ls 4 [(0, .ref h0), (1, .int u1), (2, .int u2)] := hl
  refine lv_aload_n hx hb dX11_coin_0 rfl (lv_at hl 0 rfl) ?_
  refine fg_RX11_12 E hW rh0 dX11_coin_1 (fun a1522820 m1522821 r1522822 => ?_)
  refine fg_RX11_63 E hW r1522822 dX11_coin_4 (fun a1522823 m1522824 r1522825 => ?_)
  refine lv_astore_n (lv' := [(3, .ref a1522823), (0, .ref h0), (1, .int u1), (2, .int u2)]) hx hb dX11_coin_7 rfl hl (by decide) rfl (fun ls hl => ?_)
  refine lv_iload_n hx hb dX11_coin_8 rfl (lv_at hl 3 rfl) ?_
  refine lv_iconst (v := 0) hx hb dX11_coin_9 (by decide) ?_
  refine lv_ldc (v := 1000000) hx hb hown (hts _ tw_602) dX11_coin_10 ?_
  refine t_callS (As := [.int u2, .int 0, .int 1000000]) (rest := []) E hW (c_X11_within l G cI cJ cZ cD cR cT kp L f0 hW.2.2.2 _ u2 0 1000000 (by decide)) wk_X11_within tw_599 rfl ⟨Nat.le_of_ble_eq_true rfl, Nat.le_of_ble_eq_true rfl⟩ ⟨rfl, rfl⟩ hl.1 rfl (Nat.le_of_ble_eq_true rfl) dX11_coin_12 ⟨Nat.le_of_ble_eq_true rfl, Nat.le_of_ble_eq_true rfl⟩ (fun v1522826 f1522827 H locs q1522828 hW => ?_)
  obtain ⟨⟨x1522830, rfl, p1522831⟩, g1522829⟩ := q1522828
  have p1522831 : (x1522830.toInt = 1 ∧ 0 ≤ u2.toInt ∧ u2.toInt ≤ 1000000) ∨ (x1522830.toInt = 0 ∧ (u2.toInt < 0 ∨ 1000000 < u2.toInt)) := p1522831
  have hF := FM.tr hF g1522829 rfl
  refine q_if_ne (tgt := 24) hx hb dX11_coin_15 (by decide) rfl (fun c1522832 => ?_) (fun c1522832 => ?_)
  · have q1522833 : 0 ≤ u2.toInt ∧ u2.toInt ≤ 1000000 := by omega
    clear p1522831
    refine lv_aload_n hx hb dX11_coin_24 rfl (lv_at hl 0 rfl) ?_
    refine lv_iload_n hx hb dX11_coin_25 rfl (lv_at hl 2 rfl) ?_
    refine t_callV (As := [.int u1]) (rest := []) E hW (c_X4_has l G cI cJ cZ cD cR cT kp L f1522827 hW.2.2.2 _ a1522823 u1 r1522825) r1522825 (by decide) rfl wk_X4_has tw_619 rfl ⟨Nat.le_of_ble_eq_true rfl, Nat.le_of_ble_eq_true rfl⟩ ⟨rfl, rfl⟩ hl.1 rfl (Nat.le_of_ble_eq_true rfl) dX11_coin_26 ⟨Nat.le_of_ble_eq_true rfl, Nat.le_of_ble_eq_true rfl⟩ (fun v1522834 f1522835 H locs q1522836 hW => ?_)
    obtain ⟨⟨x1522838, rfl, p1522839⟩, g1522837⟩ := q1522836
    have hF := FM.tr hF g1522837 rfl
    refine q_if_ne (tgt := 39) hx hb dX11_coin_29 (by decide) rfl (fun c1522840 => ?_) (fun c1522840 => ?_)
    · have q1522841 : 0 ≤ u1.toInt ∧ u1.toInt ≤ 39 := by omega
      clear p1522839
      refine lv_aload_n hx hb dX11_coin_39 rfl (lv_at hl 0 rfl) ?_
      refine lv_iload_n hx hb dX11_coin_40 rfl (lv_at hl 2 rfl) ?_
      refine lv_iload_n hx hb dX11_coin_41 rfl (lv_at hl 3 rfl) ?_
      refine t_callV (As := [.int u1, .int u2]) (rest := []) E hW (c_X4_gain l G cI cJ cZ cD cR cT kp L f1522835 hW.2.2.2 _ a1522823 u1 u2 r1522825 (by omega) (by omega)) r1522825 (by decide) rfl wk_X4_gain tw_631 rfl ⟨Nat.le_of_ble_eq_true rfl, Nat.le_of_ble_eq_true rfl⟩ ⟨rfl, rfl⟩ hl.1 rfl (Nat.le_of_ble_eq_true rfl) dX11_coin_42 ⟨Nat.le_of_ble_eq_true rfl, Nat.le_of_ble_eq_true rfl⟩ (fun v1522842 f1522843 H locs q1522844 hW => ?_)
      obtain ⟨rfl, g1522845⟩ := q1522844
      have hF := FM.tr hF g1522845 rfl
      refine lv_aload_n hx hb dX11_coin_45 rfl (lv_at hl 1 rfl) ?_
      refine lv_aload_n hx hb dX11_coin_46 rfl (lv_at hl 0 rfl) ?_
      refine fg_RX11_94 E hW r1522825 dX11_coin_47 (fun a1522846 m1522847 r1522848 => ?_)
      refine lv_iload_n hx hb dX11_coin_50 rfl (lv_at hl 2 rfl) ?_
      refine gl_342 E hW r1522848 ⟨by omega, by omega⟩ dX11_coin_51 (fun y1522849 m1522850 => ?_)
      refine t_callV (As := [.int y1522849]) (rest := []) E hW (c_X11_accept l G cI cJ cZ cD cR cT kp L f1522843 hW.2.2.2 _ h0 y1522849 rh0) rh0 (by decide) rfl wk_X11_accept tw_611 rfl ⟨Nat.le_of_ble_eq_true rfl, Nat.le_of_ble_eq_true rfl⟩ ⟨rfl, rfl⟩ hl.1 rfl (Nat.le_of_ble_eq_true rfl) dX11_coin_52 ⟨Nat.le_of_ble_eq_true rfl, Nat.le_of_ble_eq_true rfl⟩ (fun v1522852 f1522853 H locs q1522854 hW => ?_)
      obtain ⟨⟨x1522856, rfl, p1522857⟩, g1522855⟩ := q1522854
      clear p1522857
      have hF := FM.tr hF g1522855 rfl
      exact e_I E hW rfl ⟨⟨_, rfl, trivial⟩, hF⟩ dX11_coin_55
    · clear p1522839
      refine lv_aload_n hx hb dX11_coin_32 rfl (lv_at hl 1 rfl) ?_
      refine lv_bipush (v := (-2)) hx hb dX11_coin_33 (by decide) ?_
      refine t_callV (As := [.int (-2)]) (rest := []) E hW (c_X11_refuse l G cI cJ cZ cD cR cT kp L f1522835 hW.2.2.2 _ h0 (-2) rh0 (by decide)) rh0 (by decide) rfl wk_X11_refuse tw_603 rfl ⟨Nat.le_of_ble_eq_true rfl, Nat.le_of_ble_eq_true rfl⟩ ⟨rfl, rfl⟩ hl.1 rfl (Nat.le_of_ble_eq_true rfl) dX11_coin_35 ⟨Nat.le_of_ble_eq_true rfl, Nat.le_of_ble_eq_true rfl⟩ (fun v1522858 f1522859 H locs q1522860 hW => ?_)
      obtain ⟨⟨x1522862, rfl, p1522863⟩, g1522861⟩ := q1522860
      have p1522863 : (-6 : Int) ≤ x1522862.toInt ∧ x1522862.toInt ≤ -1 := p1522863
      have hF := FM.tr hF g1522861 rfl
      exact e_I E hW rfl ⟨⟨_, rfl, trivial⟩, hF⟩ dX11_coin_38
  · have q1522864 : (u2.toInt < 0 ∨ 1000000 < u2.toInt) := by omega
    clear p1522831
    refine lv_aload_n hx hb dX11_coin_18 rfl (lv_at hl 1 rfl) ?_
    refine lv_iconst (v := (-1)) hx hb dX11_coin_19 (by decide) ?_
    refine t_callV (As := [.int (-1)]) (rest := []) E hW (c_X11_refuse l G cI cJ cZ cD cR cT kp L f1522827 hW.2.2.2 _ h0 (-1) rh0 (by decide)) rh0 (by decide) rfl wk_X11_refuse tw_603 rfl ⟨Nat.le_of_ble_eq_true rfl, Nat.le_of_ble_eq_true rfl⟩ ⟨rfl, rfl⟩ hl.1 rfl (Nat.le_of_ble_eq_true rfl) dX11_coin_20 ⟨Nat.le_of_ble_eq_true rfl, Nat.le_of_ble_eq_true rfl⟩ (fun v1522865 f1522866 H locs q1522867 hW => ?_)
    obtain ⟨⟨x1522869, rfl, p1522870⟩, g1522868⟩ := q1522867
    have p1522870 : (-6 : Int) ≤ x1522869.toInt ∧ x1522869.toInt ≤ -1 := p1522870
    have hF := FM.tr hF g1522868 rfl
    exact e_I E hW rfl ⟨⟨_, rfl, trivial⟩, hF⟩ dX11_coin_23
def ms_X11_count : List (Nat × Nat) := []
def po_X11_count (kp : Nat → Nat) (L : List Nat) (f0 : Nat → va_E) (h0 : Nat) (u1 : Int32) : Option Value → (Nat → va_E) → Prop := fun v f => (∃ r : Int32, v = some (.int r) ∧ (True)) ∧ FM kp L ms_X11_count f0 f
set_option maxHeartbeats 4000000 in
set_option maxRecDepth 100000 in
theorem c_X11_count (l : Launch) (G : va_G) (cI cJ cZ cD cR cT : ClassId) (kp : Nat → Nat) (L : List Nat) (f0 : Nat → va_E) (hTH : TH cI cJ cZ cD cR cT kp L f0) (sz : Nat) (h0 : Nat) (u1 : Int32) (rh0 : RK kp L h0 11) : Met l yX11_count (Cond.code yX11_count cX11_count 2 (some .int) :: wTab) ({ frames := 1, cells := 0, slots := 0, locals := 40 }) (va_Pc [.ref h0, .int u1] (PreW G (tys6 cI cJ cZ cD cR cT) (va_pl L f0) sz)) (QT (po_X11_count kp L f0 h0 u1) G cI cJ cZ cD cR cT (va_A (va_pl L f0) sz) kp L) 0 0 (va_A (va_pl L f0) sz) := by
  refine metT (by decide) (Nat.le_of_ble_eq_true rfl) hTH ?_
  intro p e s m below meth c A ls E hW hl
  obtain ⟨hx, hb, -, hml, hown, hts, -, -, -⟩ := id E
  have hF : FM kp L ms_X11_count f0 f0 := FM.rf
  have hl : lv_has ls 2 [(0, .ref h0), (1, .int u1)] := hl
  refine lv_iload_n hx hb dX11_count_0 rfl (lv_at hl 1 rfl) ?_
  by_cases c1522871 : u1.toInt = 0
  · refine lv_tableIn (tgt := 56) hx hb dX11_count_1 (by omega) (by omega) (by rw [c1522871]; rfl) (by decide) ?_
    refine lv_aload_n hx hb dX11_count_56 rfl (lv_at hl 0 rfl) ?_
    refine fg_RX11_12 E hW rh0 dX11_count_57 (fun a1522872 m1522873 r1522874 => ?_)
    refine fg_RX11_255 E hW r1522874 dX11_count_60 (fun y1522875 m1522876 b1522877 => ?_)
    exact e_I E hW rfl ⟨⟨_, rfl, trivial⟩, hF⟩ dX11_count_63
  by_cases c1522878 : u1.toInt = 1
  · refine lv_tableIn (tgt := 64) hx hb dX11_count_1 (by omega) (by omega) (by rw [c1522878]; rfl) (by decide) ?_
    refine lv_aload_n hx hb dX11_count_64 rfl (lv_at hl 0 rfl) ?_
    refine fg_RX11_12 E hW rh0 dX11_count_65 (fun a1522879 m1522880 r1522881 => ?_)
    refine fg_RX11_63 E hW r1522881 dX11_count_68 (fun a1522882 m1522883 r1522884 => ?_)
    refine fg_RX11_67 E hW r1522884 dX11_count_71 (fun y1522885 m1522886 b1522887 => ?_)
    exact e_I E hW rfl ⟨⟨_, rfl, trivial⟩, hF⟩ dX11_count_74
  by_cases c1522888 : u1.toInt = 2
  · refine lv_tableIn (tgt := 75) hx hb dX11_count_1 (by omega) (by omega) (by rw [c1522888]; rfl) (by decide) ?_
    refine lv_aload_n hx hb dX11_count_75 rfl (lv_at hl 0 rfl) ?_
    refine fg_RX11_12 E hW rh0 dX11_count_76 (fun a1522889 m1522890 r1522891 => ?_)
    refine fg_RX11_114 E hW r1522891 dX11_count_79 (fun a1522892 m1522893 r1522894 => ?_)
    refine fg_RX11_118 E hW r1522894 dX11_count_82 (fun y1522895 m1522896 b1522897 => ?_)
    exact e_I E hW rfl ⟨⟨_, rfl, trivial⟩, hF⟩ dX11_count_85
  by_cases c1522898 : u1.toInt = 3
  · refine lv_tableIn (tgt := 86) hx hb dX11_count_1 (by omega) (by omega) (by rw [c1522898]; rfl) (by decide) ?_
    refine lv_aload_n hx hb dX11_count_86 rfl (lv_at hl 0 rfl) ?_
    refine fg_RX11_12 E hW rh0 dX11_count_87 (fun a1522899 m1522900 r1522901 => ?_)
    refine fg_RX11_114 E hW r1522901 dX11_count_90 (fun a1522902 m1522903 r1522904 => ?_)
    refine fg_RX11_130 E hW r1522904 dX11_count_93 (fun y1522905 m1522906 b1522907 => ?_)
    exact e_I E hW rfl ⟨⟨_, rfl, trivial⟩, hF⟩ dX11_count_96
  by_cases c1522908 : u1.toInt = 4
  · refine lv_tableIn (tgt := 97) hx hb dX11_count_1 (by omega) (by omega) (by rw [c1522908]; rfl) (by decide) ?_
    refine lv_aload_n hx hb dX11_count_97 rfl (lv_at hl 0 rfl) ?_
    refine fg_RX11_12 E hW rh0 dX11_count_98 (fun a1522909 m1522910 r1522911 => ?_)
    refine fg_RX11_219 E hW r1522911 dX11_count_101 (fun a1522912 m1522913 r1522914 => ?_)
    refine fg_RX11_223 E hW r1522914 dX11_count_104 (fun y1522915 m1522916 b1522917 => ?_)
    exact e_I E hW rfl ⟨⟨_, rfl, trivial⟩, hF⟩ dX11_count_107
  by_cases c1522918 : u1.toInt = 5
  · refine lv_tableIn (tgt := 108) hx hb dX11_count_1 (by omega) (by omega) (by rw [c1522918]; rfl) (by decide) ?_
    refine lv_aload_n hx hb dX11_count_108 rfl (lv_at hl 0 rfl) ?_
    refine fg_RX11_12 E hW rh0 dX11_count_109 (fun a1522919 m1522920 r1522921 => ?_)
    refine fg_RX11_170 E hW r1522921 dX11_count_112 (fun a1522922 m1522923 r1522924 => ?_)
    refine fg_RX11_251 E hW r1522924 dX11_count_115 (fun y1522925 m1522926 b1522927 => ?_)
    exact e_I E hW rfl ⟨⟨_, rfl, trivial⟩, hF⟩ dX11_count_118
  by_cases c1522928 : u1.toInt = 6
  · refine lv_tableIn (tgt := 119) hx hb dX11_count_1 (by omega) (by omega) (by rw [c1522928]; rfl) (by decide) ?_
    refine lv_aload_n hx hb dX11_count_119 rfl (lv_at hl 0 rfl) ?_
    refine fg_RX11_12 E hW rh0 dX11_count_120 (fun a1522929 m1522930 r1522931 => ?_)
    refine fg_RX11_98 E hW r1522931 dX11_count_123 (fun a1522932 m1522933 r1522934 => ?_)
    refine fg_RX11_288 E hW r1522934 dX11_count_126 (fun y1522935 m1522936 => ?_)
    exact e_I E hW rfl ⟨⟨_, rfl, trivial⟩, hF⟩ dX11_count_129
  by_cases c1522938 : u1.toInt = 7
  · refine lv_tableIn (tgt := 130) hx hb dX11_count_1 (by omega) (by omega) (by rw [c1522938]; rfl) (by decide) ?_
    refine lv_aload_n hx hb dX11_count_130 rfl (lv_at hl 0 rfl) ?_
    refine fg_RX11_12 E hW rh0 dX11_count_131 (fun a1522939 m1522940 r1522941 => ?_)
    refine fg_RX11_98 E hW r1522941 dX11_count_134 (fun a1522942 m1522943 r1522944 => ?_)
    refine fg_RX11_297 E hW r1522944 dX11_count_137 (fun y1522945 m1522946 b1522947 => ?_)
    exact e_I E hW rfl ⟨⟨_, rfl, trivial⟩, hF⟩ dX11_count_140
  by_cases c1522948 : u1.toInt = 8
  · refine lv_tableIn (tgt := 141) hx hb dX11_count_1 (by omega) (by omega) (by rw [c1522948]; rfl) (by decide) ?_
    refine lv_aload_n hx hb dX11_count_141 rfl (lv_at hl 0 rfl) ?_
    refine fg_RX11_309 E hW rh0 dX11_count_142 (fun y1522949 m1522950 b1522951 => ?_)
    exact e_I E hW rfl ⟨⟨_, rfl, trivial⟩, hF⟩ dX11_count_145
  by_cases c1522952 : u1.toInt = 9
  · refine lv_tableIn (tgt := 146) hx hb dX11_count_1 (by omega) (by omega) (by rw [c1522952]; rfl) (by decide) ?_
    refine lv_aload_n hx hb dX11_count_146 rfl (lv_at hl 0 rfl) ?_
    refine fg_RX11_30 E hW rh0 dX11_count_147 (fun a1522953 m1522954 r1522955 => ?_)
    refine fg_RX11_209 E hW r1522955 dX11_count_150 (fun y1522956 m1522957 b1522958 => ?_)
    exact e_I E hW rfl ⟨⟨_, rfl, trivial⟩, hF⟩ dX11_count_153
  refine lv_tableOut (tgt := 154) hx hb dX11_count_1 (by omega) (by decide) ?_
  refine lv_iconst (v := (-1)) hx hb dX11_count_154 (by decide) ?_
  exact e_I E hW rfl ⟨⟨_, rfl, trivial⟩, hF⟩ dX11_count_155
def ms_X11_isWeek : List (Nat × Nat) := []
def po_X11_isWeek (kp : Nat → Nat) (L : List Nat) (f0 : Nat → va_E) (u1 : Int32) : Option Value → (Nat → va_E) → Prop := fun v f => (∃ r : Int32, v = some (.int r) ∧ ((r.toInt = 1 ∧ 0 ≤ u1.toInt ∧ u1.toInt ≤ 399) ∨ (r.toInt = 0 ∧ (u1.toInt < 0 ∨ 399 < u1.toInt)))) ∧ FM kp L ms_X11_isWeek f0 f
set_option maxHeartbeats 4000000 in
set_option maxRecDepth 100000 in
theorem c_X11_isWeek (l : Launch) (G : va_G) (cI cJ cZ cD cR cT : ClassId) (kp : Nat → Nat) (L : List Nat) (f0 : Nat → va_E) (hTH : TH cI cJ cZ cD cR cT kp L f0) (sz : Nat) (u1 : Int32) : Met l yX11_isWeek (Cond.code yX11_isWeek cX11_isWeek 1 (some .boolean) :: wTab) ({ frames := 1, cells := 0, slots := 0, locals := 40 }) (va_Pc [.int u1] (PreW G (tys6 cI cJ cZ cD cR cT) (va_pl L f0) sz)) (QT (po_X11_isWeek kp L f0 u1) G cI cJ cZ cD cR cT (va_A (va_pl L f0) sz) kp L) 0 0 (va_A (va_pl L f0) sz) := by
  refine metT (by decide) (Nat.le_of_ble_eq_true rfl) hTH ?_
  intro p e s m below meth c A ls E hW hl
  obtain ⟨hx, hb, -, hml, hown, hts, -, -, -⟩ := id E
  have hF : FM kp L ms_X11_isWeek f0 f0 := FM.rf
  have hl : lv_has ls 1 [(0, .int u1)] := hl
  refine lv_iload_n hx hb dX11_isWeek_0 rfl (lv_at hl 0 rfl) ?_
  refine q_if_lt (tgt := 15) hx hb dX11_isWeek_1 (by decide) rfl (fun c1522959 => ?_) (fun c1522959 => ?_)
  · refine lv_iconst (v := 0) hx hb dX11_isWeek_15 (by decide) ?_
    exact e_Z E hW rfl (by decide) ⟨⟨_, rfl, (by have hk : (0 : Int32).toInt = 0 := rfl; first | decide | omega)⟩, hF⟩ dX11_isWeek_16
  · refine lv_iload_n hx hb dX11_isWeek_4 rfl (lv_at hl 0 rfl) ?_
    refine lv_sipush (v := 399) hx hb dX11_isWeek_5 (by decide) ?_
    refine q_icmp_gt (Y := 399) (tgt := 15) hx hb dX11_isWeek_8 (by decide) rfl rfl (fun c1522960 => ?_) (fun c1522960 => ?_)
    · refine lv_iconst (v := 0) hx hb dX11_isWeek_15 (by decide) ?_
      exact e_Z E hW rfl (by decide) ⟨⟨_, rfl, (by have hk : (0 : Int32).toInt = 0 := rfl; first | decide | omega)⟩, hF⟩ dX11_isWeek_16
    · refine lv_iconst (v := 1) hx hb dX11_isWeek_11 (by decide) ?_
      refine lv_goto (tgt := 16) hx hb dX11_isWeek_12 (by decide) ?_
      exact e_Z E hW rfl (by decide) ⟨⟨_, rfl, (by have hk : (1 : Int32).toInt = 1 := rfl; first | decide | omega)⟩, hF⟩ dX11_isWeek_16
def ms_X11_crop : List (Nat × Nat) := []
def po_X11_crop (kp : Nat → Nat) (L : List Nat) (f0 : Nat → va_E) (h0 : Nat) (u1 : Int32) (u2 : Int32) : Option Value → (Nat → va_E) → Prop := fun v f => (∃ r : Int32, v = some (.int r) ∧ (True)) ∧ FM kp L ms_X11_crop f0 f
set_option maxHeartbeats 4000000 in
set_option maxRecDepth 100000 in
theorem c_X11_crop (l : Launch) (G : va_G) (cI cJ cZ cD cR cT : ClassId) (kp : Nat → Nat) (L : List Nat) (f0 : Nat → va_E) (hTH : TH cI cJ cZ cD cR cT kp L f0) (sz : Nat) (h0 : Nat) (u1 : Int32) (u2 : Int32) (rh0 : RK kp L h0 11) : Met l yX11_crop (Cond.code yX11_crop cX11_crop 3 (some .int) :: wTab) ({ frames := 2, cells := 0, slots := 0, locals := 63 }) (va_Pc [.ref h0, .int u1, .int u2] (PreW G (tys6 cI cJ cZ cD cR cT) (va_pl L f0) sz)) (QT (po_X11_crop kp L f0 h0 u1 u2) G cI cJ cZ cD cR cT (va_A (va_pl L f0) sz) kp L) 0 0 (va_A (va_pl L f0) sz) := by
  refine metT (by decide) (Nat.le_of_ble_eq_true rfl) hTH ?_
  intro p e s m below meth c A ls E hW hl
  obtain ⟨hx, hb, -, hml, hown, hts, -, -, -⟩ := id E
  have hF : FM kp L ms_X11_crop f0 f0 := FM.rf
  have hl : lv_has ls 3 [(0, .ref h0), (1, .int u1), (2, .int u2)] := hl
  refine lv_aload_n hx hb dX11_crop_0 rfl (lv_at hl 0 rfl) ?_
  refine fg_RX11_12 E hW rh0 dX11_crop_1 (fun a1522961 m1522962 r1522963 => ?_)
  refine fg_RX11_114 E hW r1522963 dX11_crop_4 (fun a1522964 m1522965 r1522966 => ?_)
  refine lv_iload_n hx hb dX11_crop_7 rfl (lv_at hl 1 rfl) ?_
  refine t_callV (As := [.int u1]) (rest := []) E hW (c_X1_has l G cI cJ cZ cD cR cT kp L f0 hW.2.2.2 _ a1522964 u1 r1522966) r1522966 (by decide) rfl wk_X1_has tw_683 rfl ⟨Nat.le_of_ble_eq_true rfl, Nat.le_of_ble_eq_true rfl⟩ ⟨rfl, rfl⟩ hl.1 rfl (Nat.le_of_ble_eq_true rfl) dX11_crop_8 ⟨Nat.le_of_ble_eq_true rfl, Nat.le_of_ble_eq_true rfl⟩ (fun v1522967 f1522968 H locs q1522969 hW => ?_)
  obtain ⟨⟨x1522971, rfl, p1522972⟩, g1522970⟩ := q1522969
  have hF := FM.tr hF g1522970 rfl
  refine q_if_eq (tgt := 21) hx hb dX11_crop_11 (by decide) rfl (fun c1522973 => ?_) (fun c1522973 => ?_)
  · clear p1522972
    refine lv_iconst (v := (-1)) hx hb dX11_crop_21 (by decide) ?_
    exact e_I E hW rfl ⟨⟨_, rfl, trivial⟩, hF⟩ dX11_crop_22
  · have q1522974 : 0 ≤ u1.toInt ∧ u1.toInt ≤ 39 := by omega
    clear p1522972
    refine lv_iload_n hx hb dX11_crop_14 rfl (lv_at hl 2 rfl) ?_
    refine t_callS (As := [.int u2]) (rest := []) E hW (c_X11_isWeek l G cI cJ cZ cD cR cT kp L f1522968 hW.2.2.2 _ u2) wk_X11_isWeek tw_780 rfl ⟨Nat.le_of_ble_eq_true rfl, Nat.le_of_ble_eq_true rfl⟩ ⟨rfl, rfl⟩ hl.1 rfl (Nat.le_of_ble_eq_true rfl) dX11_crop_15 ⟨Nat.le_of_ble_eq_true rfl, Nat.le_of_ble_eq_true rfl⟩ (fun v1522975 f1522976 H locs q1522977 hW => ?_)
    obtain ⟨⟨x1522979, rfl, p1522980⟩, g1522978⟩ := q1522977
    have hF := FM.tr hF g1522978 rfl
    refine q_if_ne (tgt := 23) hx hb dX11_crop_18 (by decide) rfl (fun c1522981 => ?_) (fun c1522981 => ?_)
    · have q1522982 : 0 ≤ u2.toInt ∧ u2.toInt ≤ 399 := by omega
      clear p1522980
      refine lv_aload_n hx hb dX11_crop_23 rfl (lv_at hl 0 rfl) ?_
      refine fg_RX11_12 E hW rh0 dX11_crop_24 (fun a1522983 m1522984 r1522985 => ?_)
      obtain rfl : a1522961 = a1522983 := (((fm_R g1522978 rh0 rfl).trans ((fm_R g1522970 rh0 rfl).trans m1522962))).symm.trans m1522984
      refine fg_RX11_194 E hW r1522963 dX11_crop_27 (fun a1522986 m1522987 r1522988 => ?_)
      refine lv_iload_n hx hb dX11_crop_30 rfl (lv_at hl 1 rfl) ?_
      refine lv_iload_n hx hb dX11_crop_31 rfl (lv_at hl 2 rfl) ?_
      refine t_callV (As := [.int u1, .int u2]) (rest := []) E hW (c_X7_sacksOf l G cI cJ cZ cD cR cT kp L f1522976 hW.2.2.2 _ a1522986 u1 u2 r1522988 (by omega) (by omega)) r1522988 (by decide) rfl wk_X7_sacksOf tw_843 rfl ⟨Nat.le_of_ble_eq_true rfl, Nat.le_of_ble_eq_true rfl⟩ ⟨rfl, rfl⟩ hl.1 rfl (Nat.le_of_ble_eq_true rfl) dX11_crop_32 ⟨Nat.le_of_ble_eq_true rfl, Nat.le_of_ble_eq_true rfl⟩ (fun v1522989 f1522990 H locs q1522991 hW => ?_)
      obtain ⟨⟨x1522993, rfl, p1522994⟩, g1522992⟩ := q1522991
      clear p1522994
      have hF := FM.tr hF g1522992 rfl
      exact e_I E hW rfl ⟨⟨_, rfl, trivial⟩, hF⟩ dX11_crop_35
    · have q1522995 : (u2.toInt < 0 ∨ 399 < u2.toInt) := by omega
      clear p1522980
      refine lv_iconst (v := (-1)) hx hb dX11_crop_21 (by decide) ?_
      exact e_I E hW rfl ⟨⟨_, rfl, trivial⟩, hF⟩ dX11_crop_22
def ms_X11_crops : List (Nat × Nat) := [(11, 12), (11, 15), (770, 0), (771, 0)]
def po_X11_crops (kp : Nat → Nat) (L : List Nat) (f0 : Nat → va_E) (h0 : Nat) (u1 : Int32) (u2 : Int32) : Option Value → (Nat → va_E) → Prop := fun v f => (∃ r : Int32, v = some (.int r) ∧ (True)) ∧ FM kp L ms_X11_crops f0 f
set_option maxHeartbeats 4000000 in
set_option maxRecDepth 100000 in
theorem c_X11_crops (l : Launch) (G : va_G) (cI cJ cZ cD cR cT : ClassId) (kp : Nat → Nat) (L : List Nat) (f0 : Nat → va_E) (hTH : TH cI cJ cZ cD cR cT kp L f0) (sz : Nat) (h0 : Nat) (u1 : Int32) (u2 : Int32) (rh0 : RK kp L h0 11) : Met l yX11_crops (Cond.code yX11_crops cX11_crops 3 (some .int) :: wTab) ({ frames := 2, cells := 0, slots := 0, locals := 62 }) (va_Pc [.ref h0, .int u1, .int u2] (PreW G (tys6 cI cJ cZ cD cR cT) (va_pl L f0) sz)) (QT (po_X11_crops kp L f0 h0 u1 u2) G cI cJ cZ cD cR cT (va_A (va_pl L f0) sz) kp L) 0 0 (va_A (va_pl L f0) sz) := by
  refine metT (by decide) (Nat.le_of_ble_eq_true rfl) hTH ?_
  intro p e s m below meth c A ls E hW hl
  obtain ⟨hx, hb, -, hml, hown, hts, -, -, -⟩ := id E
  have hF : FM kp L ms_X11_crops f0 f0 := FM.rf
  have hl : lv_has ls 3 [(0, .ref h0), (1, .int u1), (2, .int u2)] := hl
  refine lv_iload_n hx hb dX11_crops_0 rfl (lv_at hl 1 rfl) ?_
  refine lv_iconst (v := 0) hx hb dX11_crops_1 (by decide) ?_
  refine lv_sipush (v := 10000) hx hb dX11_crops_2 (by decide) ?_
  refine t_callS (As := [.int u1, .int 0, .int 10000]) (rest := []) E hW (c_X11_within l G cI cJ cZ cD cR cT kp L f0 hW.2.2.2 _ u1 0 10000 (by decide)) wk_X11_within tw_599 rfl ⟨Nat.le_of_ble_eq_true rfl, Nat.le_of_ble_eq_true rfl⟩ ⟨rfl, rfl⟩ hl.1 rfl (Nat.le_of_ble_eq_true rfl) dX11_crops_5 ⟨Nat.le_of_ble_eq_true rfl, Nat.le_of_ble_eq_true rfl⟩ (fun v1522996 f1522997 H locs q1522998 hW => ?_)
  obtain ⟨⟨x1523000, rfl, p1523001⟩, g1522999⟩ := q1522998
  have p1523001 : (x1523000.toInt = 1 ∧ 0 ≤ u1.toInt ∧ u1.toInt ≤ 10000) ∨ (x1523000.toInt = 0 ∧ (u1.toInt < 0 ∨ 10000 < u1.toInt)) := p1523001
  have hF := FM.tr hF g1522999 rfl
  refine q_if_eq (tgt := 22) hx hb dX11_crops_8 (by decide) rfl (fun c1523002 => ?_) (fun c1523002 => ?_)
  · have q1523003 : (u1.toInt < 0 ∨ 10000 < u1.toInt) := by omega
    clear p1523001
    refine lv_aload_n hx hb dX11_crops_22 rfl (lv_at hl 0 rfl) ?_
    refine lv_iconst (v := (-1)) hx hb dX11_crops_23 (by decide) ?_
    refine t_callV (As := [.int (-1)]) (rest := []) E hW (c_X11_refuse l G cI cJ cZ cD cR cT kp L f1522997 hW.2.2.2 _ h0 (-1) rh0 (by decide)) rh0 (by decide) rfl wk_X11_refuse tw_603 rfl ⟨Nat.le_of_ble_eq_true rfl, Nat.le_of_ble_eq_true rfl⟩ ⟨rfl, rfl⟩ hl.1 rfl (Nat.le_of_ble_eq_true rfl) dX11_crops_24 ⟨Nat.le_of_ble_eq_true rfl, Nat.le_of_ble_eq_true rfl⟩ (fun v1523004 f1523005 H locs q1523006 hW => ?_)
    obtain ⟨⟨x1523008, rfl, p1523009⟩, g1523007⟩ := q1523006
    have p1523009 : (-6 : Int) ≤ x1523008.toInt ∧ x1523008.toInt ≤ -1 := p1523009
    have hF := FM.tr hF g1523007 rfl
    exact e_I E hW rfl ⟨⟨_, rfl, trivial⟩, hF⟩ dX11_crops_27
  · have q1523010 : 0 ≤ u1.toInt ∧ u1.toInt ≤ 10000 := by omega
    clear p1523001
    refine lv_iload_n hx hb dX11_crops_11 rfl (lv_at hl 2 rfl) ?_
    refine lv_iconst (v := 0) hx hb dX11_crops_12 (by decide) ?_
    refine lv_sipush (v := 10000) hx hb dX11_crops_13 (by decide) ?_
    refine t_callS (As := [.int u2, .int 0, .int 10000]) (rest := []) E hW (c_X11_within l G cI cJ cZ cD cR cT kp L f1522997 hW.2.2.2 _ u2 0 10000 (by decide)) wk_X11_within tw_599 rfl ⟨Nat.le_of_ble_eq_true rfl, Nat.le_of_ble_eq_true rfl⟩ ⟨rfl, rfl⟩ hl.1 rfl (Nat.le_of_ble_eq_true rfl) dX11_crops_16 ⟨Nat.le_of_ble_eq_true rfl, Nat.le_of_ble_eq_true rfl⟩ (fun v1523011 f1523012 H locs q1523013 hW => ?_)
    obtain ⟨⟨x1523015, rfl, p1523016⟩, g1523014⟩ := q1523013
    have p1523016 : (x1523015.toInt = 1 ∧ 0 ≤ u2.toInt ∧ u2.toInt ≤ 10000) ∨ (x1523015.toInt = 0 ∧ (u2.toInt < 0 ∨ 10000 < u2.toInt)) := p1523016
    have hF := FM.tr hF g1523014 rfl
    refine q_if_ne (tgt := 28) hx hb dX11_crops_19 (by decide) rfl (fun c1523017 => ?_) (fun c1523017 => ?_)
    · have q1523018 : 0 ≤ u2.toInt ∧ u2.toInt ≤ 10000 := by omega
      clear p1523016
      refine lv_aload_n hx hb dX11_crops_28 rfl (lv_at hl 0 rfl) ?_
      refine fg_RX11_312 E hW rh0 dX11_crops_29 (fun y1523019 m1523020 b1523021 => ?_)
      refine lv_iconst (v := 3) hx hb dX11_crops_32 (by decide) ?_
      refine q_icmp_lt (Y := 3) (tgt := 43) hx hb dX11_crops_33 (by decide) rfl rfl (fun c1523022 => ?_) (fun c1523022 => ?_)
      · refine lv_aload_n hx hb dX11_crops_43 rfl (lv_at hl 0 rfl) ?_
        refine fg_RX11_45 E hW rh0 dX11_crops_44 (fun a1523023 m1523024 r1523025 => ?_)
        refine lv_aload_n hx hb dX11_crops_47 rfl (lv_at hl 0 rfl) ?_
        refine fg_RX11_312 E hW rh0 dX11_crops_48 (fun y1523026 m1523027 b1523028 => ?_)
        obtain rfl : y1523019 = y1523026 := (m1523020).symm.trans m1523027
        refine lv_iload_n hx hb dX11_crops_51 rfl (lv_at hl 1 rfl) ?_
        refine gs_770 E hW r1523025 ⟨by omega, by omega⟩ dX11_crops_52 (fun f1523029 H locs e1523030 n1523031 g1523032 hW => ?_)
        have hF := FM.tr hF g1523032 rfl
        refine lv_aload_n hx hb dX11_crops_53 rfl (lv_at hl 0 rfl) ?_
        refine fg_RX11_48 E hW rh0 dX11_crops_54 (fun a1523033 m1523034 r1523035 => ?_)
        refine lv_aload_n hx hb dX11_crops_57 rfl (lv_at hl 0 rfl) ?_
        refine fg_RX11_312 E hW rh0 dX11_crops_58 (fun y1523036 m1523037 b1523038 => ?_)
        obtain rfl : y1523019 = y1523036 := (((fm_I g1523032 rh0 rfl).trans m1523027)).symm.trans m1523037
        refine lv_iload_n hx hb dX11_crops_61 rfl (lv_at hl 2 rfl) ?_
        refine gs_771 E hW r1523035 ⟨by omega, by omega⟩ dX11_crops_62 (fun f1523039 H locs e1523040 n1523041 g1523042 hW => ?_)
        have hF := FM.tr hF g1523042 rfl
        refine lv_aload_n hx hb dX11_crops_63 rfl (lv_at hl 0 rfl) ?_
        refine lv_dup hx hb dX11_crops_64 rfl ?_
        refine fg_RX11_312 E hW rh0 dX11_crops_65 (fun y1523043 m1523044 b1523045 => ?_)
        obtain rfl : y1523019 = y1523043 := (((fm_I g1523042 rh0 rfl).trans m1523037)).symm.trans m1523044
        refine lv_iconst (v := 1) hx hb dX11_crops_68 (by decide) ?_
        refine q_iadd (Y := 1) hx hb dX11_crops_69 rfl rfl (by omega) (fun x1523046 h1523047 => ?_)
        refine fp_RX11_312 E hW rh0 (by omega) dX11_crops_70 (fun f1523048 H locs e1523049 n1523050 g1523051 hW => ?_)
        have hF := FM.tr hF g1523051 rfl
        refine lv_aload_n hx hb dX11_crops_73 rfl (lv_at hl 0 rfl) ?_
        refine lv_aload_n hx hb dX11_crops_74 rfl (lv_at hl 0 rfl) ?_
        refine fg_RX11_312 E hW rh0 dX11_crops_75 (fun y1523052 m1523053 b1523054 => ?_)
        obtain rfl : x1523046 = y1523052 := (e1523049).symm.trans m1523053
        refine t_callV (As := [.int x1523046]) (rest := []) E hW (c_X11_accept l G cI cJ cZ cD cR cT kp L f1523048 hW.2.2.2 _ h0 x1523046 rh0) rh0 (by decide) rfl wk_X11_accept tw_611 rfl ⟨Nat.le_of_ble_eq_true rfl, Nat.le_of_ble_eq_true rfl⟩ ⟨rfl, rfl⟩ hl.1 rfl (Nat.le_of_ble_eq_true rfl) dX11_crops_78 ⟨Nat.le_of_ble_eq_true rfl, Nat.le_of_ble_eq_true rfl⟩ (fun v1523055 f1523056 H locs q1523057 hW => ?_)
        obtain ⟨⟨x1523059, rfl, p1523060⟩, g1523058⟩ := q1523057
        clear p1523060
        have hF := FM.tr hF g1523058 rfl
        exact e_I E hW rfl ⟨⟨_, rfl, trivial⟩, hF⟩ dX11_crops_81
      · refine lv_aload_n hx hb dX11_crops_36 rfl (lv_at hl 0 rfl) ?_
        refine lv_bipush (v := (-5)) hx hb dX11_crops_37 (by decide) ?_
        refine t_callV (As := [.int (-5)]) (rest := []) E hW (c_X11_refuse l G cI cJ cZ cD cR cT kp L f1523012 hW.2.2.2 _ h0 (-5) rh0 (by decide)) rh0 (by decide) rfl wk_X11_refuse tw_603 rfl ⟨Nat.le_of_ble_eq_true rfl, Nat.le_of_ble_eq_true rfl⟩ ⟨rfl, rfl⟩ hl.1 rfl (Nat.le_of_ble_eq_true rfl) dX11_crops_39 ⟨Nat.le_of_ble_eq_true rfl, Nat.le_of_ble_eq_true rfl⟩ (fun v1523061 f1523062 H locs q1523063 hW => ?_)
        obtain ⟨⟨x1523065, rfl, p1523066⟩, g1523064⟩ := q1523063
        have p1523066 : (-6 : Int) ≤ x1523065.toInt ∧ x1523065.toInt ≤ -1 := p1523066
        have hF := FM.tr hF g1523064 rfl
        exact e_I E hW rfl ⟨⟨_, rfl, trivial⟩, hF⟩ dX11_crops_42
    · have q1523067 : (u2.toInt < 0 ∨ 10000 < u2.toInt) := by omega
      clear p1523016
      refine lv_aload_n hx hb dX11_crops_22 rfl (lv_at hl 0 rfl) ?_
      refine lv_iconst (v := (-1)) hx hb dX11_crops_23 (by decide) ?_
      refine t_callV (As := [.int (-1)]) (rest := []) E hW (c_X11_refuse l G cI cJ cZ cD cR cT kp L f1523012 hW.2.2.2 _ h0 (-1) rh0 (by decide)) rh0 (by decide) rfl wk_X11_refuse tw_603 rfl ⟨Nat.le_of_ble_eq_true rfl, Nat.le_of_ble_eq_true rfl⟩ ⟨rfl, rfl⟩ hl.1 rfl (Nat.le_of_ble_eq_true rfl) dX11_crops_24 ⟨Nat.le_of_ble_eq_true rfl, Nat.le_of_ble_eq_true rfl⟩ (fun v1523068 f1523069 H locs q1523070 hW => ?_)
      obtain ⟨⟨x1523072, rfl, p1523073⟩, g1523071⟩ := q1523070
      have p1523073 : (-6 : Int) ≤ x1523072.toInt ∧ x1523072.toInt ≤ -1 := p1523073
      have hF := FM.tr hF g1523071 rfl
      exact e_I E hW rfl ⟨⟨_, rfl, trivial⟩, hF⟩ dX11_crops_27
def ms_X11_deal : List (Nat × Nat) := [(3, 2), (11, 15), (342, 0)]
def po_X11_deal (kp : Nat → Nat) (L : List Nat) (f0 : Nat → va_E) (h0 : Nat) (u1 : Int32) (u2 : Int32) (u3 : Int32) : Option Value → (Nat → va_E) → Prop := fun v f => (∃ r : Int32, v = some (.int r) ∧ (True)) ∧ FM kp L ms_X11_deal f0 f
set_option maxHeartbeats 4000000 in
set_option maxRecDepth 100000 in
theorem c_X11_deal (l : Launch) (G : va_G) (cI cJ cZ cD cR cT : ClassId) (kp : Nat → Nat) (L : List Nat) (f0 : Nat → va_E) (hTH : TH cI cJ cZ cD cR cT kp L f0) (sz : Nat) (h0 : Nat) (u1 : Int32) (u2 : Int32) (u3 : Int32) (rh0 : RK kp L h0 11) : Met l yX11_deal (Cond.code yX11_deal cX11_deal 6 (some .int) :: wTab) ({ frames := 3, cells := 0, slots := 0, locals := 86 }) (va_Pc [.ref h0, .int u1, .int u2, .int u3] (PreW G (tys6 cI cJ cZ cD cR cT) (va_pl L f0) sz)) (QT (po_X11_deal kp L f0 h0 u1 u2 u3) G cI cJ cZ cD cR cT (va_A (va_pl L f0) sz) kp L) 0 0 (va_A (va_pl L f0) sz) := by
  refine metT (by decide) (Nat.le_of_ble_eq_true rfl) hTH ?_
  intro p e s m below meth c A ls E hW hl
  obtain ⟨hx, hb, -, hml, hown, hts, -, -, -⟩ := id E
  have hF : FM kp L ms_X11_deal f0 f0 := FM.rf
  have hl : lv_has ls 6 [(0, .ref h0), (1, .int u1), (2, .int u2), (3, .int u3)] := hl
  refine lv_aload_n hx hb dX11_deal_0 rfl (lv_at hl 0 rfl) ?_
  refine fg_RX11_12 E hW rh0 dX11_deal_1 (fun a1523074 m1523075 r1523076 => ?_)
  refine fg_RX11_63 E hW r1523076 dX11_deal_4 (fun a1523077 m1523078 r1523079 => ?_)
  refine lv_astore (lv' := [(4, .ref a1523077), (0, .ref h0), (1, .int u1), (2, .int u2), (3, .int u3)]) hx hb dX11_deal_7 hl (by decide) rfl (fun ls hl => ?_)
  refine lv_aload_n hx hb dX11_deal_9 rfl (lv_at hl 1 rfl) ?_
  refine fg_RX11_12 E hW rh0 dX11_deal_10 (fun a1523080 m1523081 r1523082 => ?_)
  obtain rfl : a1523074 = a1523080 := (m1523075).symm.trans m1523081
  refine fg_RX11_98 E hW r1523076 dX11_deal_13 (fun a1523083 m1523084 r1523085 => ?_)
  refine lv_astore (lv' := [(5, .ref a1523083), (4, .ref a1523077), (0, .ref h0), (1, .int u1), (2, .int u2), (3, .int u3)]) hx hb dX11_deal_16 hl (by decide) rfl (fun ls hl => ?_)
  refine lv_iload_n hx hb dX11_deal_18 rfl (lv_at hl 5 rfl) ?_
  refine lv_iconst (v := 1) hx hb dX11_deal_19 (by decide) ?_
  refine lv_sipush (v := 10000) hx hb dX11_deal_20 (by decide) ?_
  refine t_callS (As := [.int u3, .int 1, .int 10000]) (rest := []) E hW (c_X11_within l G cI cJ cZ cD cR cT kp L f0 hW.2.2.2 _ u3 1 10000 (by decide)) wk_X11_within tw_599 rfl ⟨Nat.le_of_ble_eq_true rfl, Nat.le_of_ble_eq_true rfl⟩ ⟨rfl, rfl⟩ hl.1 rfl (Nat.le_of_ble_eq_true rfl) dX11_deal_23 ⟨Nat.le_of_ble_eq_true rfl, Nat.le_of_ble_eq_true rfl⟩ (fun v1523086 f1523087 H locs q1523088 hW => ?_)
  obtain ⟨⟨x1523090, rfl, p1523091⟩, g1523089⟩ := q1523088
  have p1523091 : (x1523090.toInt = 1 ∧ 1 ≤ u3.toInt ∧ u3.toInt ≤ 10000) ∨ (x1523090.toInt = 0 ∧ (u3.toInt < 1 ∨ 10000 < u3.toInt)) := p1523091
  have hF := FM.tr hF g1523089 rfl
  refine q_if_ne (tgt := 35) hx hb dX11_deal_26 (by decide) rfl (fun c1523092 => ?_) (fun c1523092 => ?_)
  · have q1523093 : 1 ≤ u3.toInt ∧ u3.toInt ≤ 10000 := by omega
    clear p1523091
    refine lv_aload hx hb dX11_deal_35 (lv_at hl 1 rfl) ?_
    refine lv_iload_n hx hb dX11_deal_37 rfl (lv_at hl 3 rfl) ?_
    refine t_callV (As := [.int u1]) (rest := []) E hW (c_X4_has l G cI cJ cZ cD cR cT kp L f1523087 hW.2.2.2 _ a1523077 u1 r1523079) r1523079 (by decide) rfl wk_X4_has tw_619 rfl ⟨Nat.le_of_ble_eq_true rfl, Nat.le_of_ble_eq_true rfl⟩ ⟨rfl, rfl⟩ hl.1 rfl (Nat.le_of_ble_eq_true rfl) dX11_deal_38 ⟨Nat.le_of_ble_eq_true rfl, Nat.le_of_ble_eq_true rfl⟩ (fun v1523094 f1523095 H locs q1523096 hW => ?_)
    obtain ⟨⟨x1523098, rfl, p1523099⟩, g1523097⟩ := q1523096
    have hF := FM.tr hF g1523097 rfl
    refine q_if_eq (tgt := 53) hx hb dX11_deal_41 (by decide) rfl (fun c1523100 => ?_) (fun c1523100 => ?_)
    · clear p1523099
      refine lv_aload_n hx hb dX11_deal_53 rfl (lv_at hl 2 rfl) ?_
      refine lv_bipush (v := (-2)) hx hb dX11_deal_54 (by decide) ?_
      refine t_callV (As := [.int (-2)]) (rest := []) E hW (c_X11_refuse l G cI cJ cZ cD cR cT kp L f1523095 hW.2.2.2 _ h0 (-2) rh0 (by decide)) rh0 (by decide) rfl wk_X11_refuse tw_603 rfl ⟨Nat.le_of_ble_eq_true rfl, Nat.le_of_ble_eq_true rfl⟩ ⟨rfl, rfl⟩ hl.1 rfl (Nat.le_of_ble_eq_true rfl) dX11_deal_56 ⟨Nat.le_of_ble_eq_true rfl, Nat.le_of_ble_eq_true rfl⟩ (fun v1523101 f1523102 H locs q1523103 hW => ?_)
      obtain ⟨⟨x1523105, rfl, p1523106⟩, g1523104⟩ := q1523103
      have p1523106 : (-6 : Int) ≤ x1523105.toInt ∧ x1523105.toInt ≤ -1 := p1523106
      have hF := FM.tr hF g1523104 rfl
      exact e_I E hW rfl ⟨⟨_, rfl, trivial⟩, hF⟩ dX11_deal_59
    · have q1523107 : 0 ≤ u1.toInt ∧ u1.toInt ≤ 39 := by omega
      clear p1523099
      refine lv_aload hx hb dX11_deal_44 (lv_at hl 1 rfl) ?_
      refine lv_iload_n hx hb dX11_deal_46 rfl (lv_at hl 4 rfl) ?_
      refine t_callV (As := [.int u2]) (rest := []) E hW (c_X4_has l G cI cJ cZ cD cR cT kp L f1523095 hW.2.2.2 _ a1523077 u2 r1523079) r1523079 (by decide) rfl wk_X4_has tw_619 rfl ⟨Nat.le_of_ble_eq_true rfl, Nat.le_of_ble_eq_true rfl⟩ ⟨rfl, rfl⟩ hl.1 rfl (Nat.le_of_ble_eq_true rfl) dX11_deal_47 ⟨Nat.le_of_ble_eq_true rfl, Nat.le_of_ble_eq_true rfl⟩ (fun v1523108 f1523109 H locs q1523110 hW => ?_)
      obtain ⟨⟨x1523112, rfl, p1523113⟩, g1523111⟩ := q1523110
      have hF := FM.tr hF g1523111 rfl
      refine q_if_ne (tgt := 60) hx hb dX11_deal_50 (by decide) rfl (fun c1523114 => ?_) (fun c1523114 => ?_)
      · have q1523115 : 0 ≤ u2.toInt ∧ u2.toInt ≤ 39 := by omega
        clear p1523113
        refine lv_iload_n hx hb dX11_deal_60 rfl (lv_at hl 3 rfl) ?_
        refine lv_iload_n hx hb dX11_deal_61 rfl (lv_at hl 4 rfl) ?_
        refine q_icmp_eq (tgt := 120) hx hb dX11_deal_62 (by decide) rfl rfl (fun c1523116 => ?_) (fun c1523116 => ?_)
        · refine lv_aload_n hx hb dX11_deal_120 rfl (lv_at hl 2 rfl) ?_
          refine lv_bipush (v := (-3)) hx hb dX11_deal_121 (by decide) ?_
          refine t_callV (As := [.int (-3)]) (rest := []) E hW (c_X11_refuse l G cI cJ cZ cD cR cT kp L f1523109 hW.2.2.2 _ h0 (-3) rh0 (by decide)) rh0 (by decide) rfl wk_X11_refuse tw_603 rfl ⟨Nat.le_of_ble_eq_true rfl, Nat.le_of_ble_eq_true rfl⟩ ⟨rfl, rfl⟩ hl.1 rfl (Nat.le_of_ble_eq_true rfl) dX11_deal_123 ⟨Nat.le_of_ble_eq_true rfl, Nat.le_of_ble_eq_true rfl⟩ (fun v1523117 f1523118 H locs q1523119 hW => ?_)
          obtain ⟨⟨x1523121, rfl, p1523122⟩, g1523120⟩ := q1523119
          have p1523122 : (-6 : Int) ≤ x1523121.toInt ∧ x1523121.toInt ≤ -1 := p1523122
          have hF := FM.tr hF g1523120 rfl
          exact e_I E hW rfl ⟨⟨_, rfl, trivial⟩, hF⟩ dX11_deal_126
        · refine lv_aload hx hb dX11_deal_65 (lv_at hl 1 rfl) ?_
          refine fg_RX11_94 E hW r1523079 dX11_deal_67 (fun a1523123 m1523124 r1523125 => ?_)
          refine lv_iload_n hx hb dX11_deal_70 rfl (lv_at hl 4 rfl) ?_
          refine gl_342 E hW r1523125 ⟨by omega, by omega⟩ dX11_deal_71 (fun y1523126 m1523127 => ?_)
          refine lv_iload_n hx hb dX11_deal_72 rfl (lv_at hl 5 rfl) ?_
          refine q_icmp_lt (tgt := 120) hx hb dX11_deal_73 (by decide) rfl rfl (fun c1523129 => ?_) (fun c1523129 => ?_)
          · refine lv_aload_n hx hb dX11_deal_120 rfl (lv_at hl 2 rfl) ?_
            refine lv_bipush (v := (-3)) hx hb dX11_deal_121 (by decide) ?_
            refine t_callV (As := [.int (-3)]) (rest := []) E hW (c_X11_refuse l G cI cJ cZ cD cR cT kp L f1523109 hW.2.2.2 _ h0 (-3) rh0 (by decide)) rh0 (by decide) rfl wk_X11_refuse tw_603 rfl ⟨Nat.le_of_ble_eq_true rfl, Nat.le_of_ble_eq_true rfl⟩ ⟨rfl, rfl⟩ hl.1 rfl (Nat.le_of_ble_eq_true rfl) dX11_deal_123 ⟨Nat.le_of_ble_eq_true rfl, Nat.le_of_ble_eq_true rfl⟩ (fun v1523130 f1523131 H locs q1523132 hW => ?_)
            obtain ⟨⟨x1523134, rfl, p1523135⟩, g1523133⟩ := q1523132
            have p1523135 : (-6 : Int) ≤ x1523134.toInt ∧ x1523134.toInt ≤ -1 := p1523135
            have hF := FM.tr hF g1523133 rfl
            exact e_I E hW rfl ⟨⟨_, rfl, trivial⟩, hF⟩ dX11_deal_126
          · refine lv_aload hx hb dX11_deal_76 (lv_at hl 1 rfl) ?_
            refine lv_iload_n hx hb dX11_deal_78 rfl (lv_at hl 3 rfl) ?_
            refine t_callV (As := [.int u1]) (rest := []) E hW (c_X4_isAbout l G cI cJ cZ cD cR cT kp L f1523109 hW.2.2.2 _ a1523077 u1 r1523079 (by omega)) r1523079 (by decide) rfl wk_X4_isAbout tw_1180 rfl ⟨Nat.le_of_ble_eq_true rfl, Nat.le_of_ble_eq_true rfl⟩ ⟨rfl, rfl⟩ hl.1 rfl (Nat.le_of_ble_eq_true rfl) dX11_deal_79 ⟨Nat.le_of_ble_eq_true rfl, Nat.le_of_ble_eq_true rfl⟩ (fun v1523136 f1523137 H locs q1523138 hW => ?_)
            obtain ⟨⟨x1523140, rfl, p1523141⟩, g1523139⟩ := q1523138
            have hF := FM.tr hF g1523139 rfl
            refine q_if_eq (tgt := 120) hx hb dX11_deal_82 (by decide) rfl (fun c1523142 => ?_) (fun c1523142 => ?_)
            · refine lv_aload_n hx hb dX11_deal_120 rfl (lv_at hl 2 rfl) ?_
              refine lv_bipush (v := (-3)) hx hb dX11_deal_121 (by decide) ?_
              refine t_callV (As := [.int (-3)]) (rest := []) E hW (c_X11_refuse l G cI cJ cZ cD cR cT kp L f1523137 hW.2.2.2 _ h0 (-3) rh0 (by decide)) rh0 (by decide) rfl wk_X11_refuse tw_603 rfl ⟨Nat.le_of_ble_eq_true rfl, Nat.le_of_ble_eq_true rfl⟩ ⟨rfl, rfl⟩ hl.1 rfl (Nat.le_of_ble_eq_true rfl) dX11_deal_123 ⟨Nat.le_of_ble_eq_true rfl, Nat.le_of_ble_eq_true rfl⟩ (fun v1523143 f1523144 H locs q1523145 hW => ?_)
              obtain ⟨⟨x1523147, rfl, p1523148⟩, g1523146⟩ := q1523145
              have p1523148 : (-6 : Int) ≤ x1523147.toInt ∧ x1523147.toInt ≤ -1 := p1523148
              have hF := FM.tr hF g1523146 rfl
              exact e_I E hW rfl ⟨⟨_, rfl, trivial⟩, hF⟩ dX11_deal_126
            · refine lv_aload hx hb dX11_deal_85 (lv_at hl 1 rfl) ?_
              refine lv_iload_n hx hb dX11_deal_87 rfl (lv_at hl 4 rfl) ?_
              refine t_callV (As := [.int u2]) (rest := []) E hW (c_X4_isAbout l G cI cJ cZ cD cR cT kp L f1523137 hW.2.2.2 _ a1523077 u2 r1523079 (by omega)) r1523079 (by decide) rfl wk_X4_isAbout tw_1180 rfl ⟨Nat.le_of_ble_eq_true rfl, Nat.le_of_ble_eq_true rfl⟩ ⟨rfl, rfl⟩ hl.1 rfl (Nat.le_of_ble_eq_true rfl) dX11_deal_88 ⟨Nat.le_of_ble_eq_true rfl, Nat.le_of_ble_eq_true rfl⟩ (fun v1523149 f1523150 H locs q1523151 hW => ?_)
              obtain ⟨⟨x1523153, rfl, p1523154⟩, g1523152⟩ := q1523151
              have hF := FM.tr hF g1523152 rfl
              refine q_if_eq (tgt := 120) hx hb dX11_deal_91 (by decide) rfl (fun c1523155 => ?_) (fun c1523155 => ?_)
              · refine lv_aload_n hx hb dX11_deal_120 rfl (lv_at hl 2 rfl) ?_
                refine lv_bipush (v := (-3)) hx hb dX11_deal_121 (by decide) ?_
                refine t_callV (As := [.int (-3)]) (rest := []) E hW (c_X11_refuse l G cI cJ cZ cD cR cT kp L f1523150 hW.2.2.2 _ h0 (-3) rh0 (by decide)) rh0 (by decide) rfl wk_X11_refuse tw_603 rfl ⟨Nat.le_of_ble_eq_true rfl, Nat.le_of_ble_eq_true rfl⟩ ⟨rfl, rfl⟩ hl.1 rfl (Nat.le_of_ble_eq_true rfl) dX11_deal_123 ⟨Nat.le_of_ble_eq_true rfl, Nat.le_of_ble_eq_true rfl⟩ (fun v1523156 f1523157 H locs q1523158 hW => ?_)
                obtain ⟨⟨x1523160, rfl, p1523161⟩, g1523159⟩ := q1523158
                have p1523161 : (-6 : Int) ≤ x1523160.toInt ∧ x1523160.toInt ≤ -1 := p1523161
                have hF := FM.tr hF g1523159 rfl
                exact e_I E hW rfl ⟨⟨_, rfl, trivial⟩, hF⟩ dX11_deal_126
              · refine lv_aload hx hb dX11_deal_94 (lv_at hl 1 rfl) ?_
                refine fg_RX11_141 E hW r1523079 dX11_deal_96 (fun a1523162 m1523163 r1523164 => ?_)
                refine lv_iload_n hx hb dX11_deal_99 rfl (lv_at hl 4 rfl) ?_
                refine gl_348 E hW r1523164 ⟨by omega, by omega⟩ dX11_deal_100 (fun y1523165 m1523166 => ?_)
                refine lv_iconst (v := 1) hx hb dX11_deal_101 (by decide) ?_
                refine q_icmp_ne (Y := 1) (tgt := 127) hx hb dX11_deal_102 (by decide) rfl rfl (fun c1523168 => ?_) (fun c1523168 => ?_)
                · refine lv_aload hx hb dX11_deal_127 (lv_at hl 0 rfl) ?_
                  refine fg_RX11_288 E hW r1523085 dX11_deal_129 (fun y1523169 m1523170 => ?_)
                  refine lv_sipush (v := 200) hx hb dX11_deal_132 (by decide) ?_
                  refine q_icmp_lt (Y := 200) (tgt := 145) hx hb dX11_deal_135 (by decide) rfl rfl (fun c1523172 => ?_) (fun c1523172 => ?_)
                  · refine lv_aload hx hb dX11_deal_145 (lv_at hl 1 rfl) ?_
                    refine fg_RX11_94 E hW r1523079 dX11_deal_147 (fun a1523173 m1523174 r1523175 => ?_)
                    obtain rfl : a1523123 = a1523173 := (((fm_R g1523152 r1523079 rfl).trans ((fm_R g1523139 r1523079 rfl).trans m1523124))).symm.trans m1523174
                    refine lv_iload_n hx hb dX11_deal_150 rfl (lv_at hl 4 rfl) ?_
                    refine lv_dup2_11 hx hb dX11_deal_151 rfl rfl ?_
                    refine gl_342 E hW r1523125 ⟨by omega, by omega⟩ dX11_deal_152 (fun y1523176 m1523177 => ?_)
                    obtain rfl : y1523126 = y1523176 := (((congrArg (fun z => aI z (u2 : Int32).toNatClampNeg) (fm_A g1523152 r1523125 (by decide) rfl)).trans ((congrArg (fun z => aI z (u2 : Int32).toNatClampNeg) (fm_A g1523139 r1523125 (by decide) rfl)).trans m1523127))).symm.trans m1523177
                    refine lv_iload_n hx hb dX11_deal_153 rfl (lv_at hl 5 rfl) ?_
                    have hb1523181 : -2147483648 ≤ y1523126.toInt ∧ y1523126.toInt ≤ 2147483647 := i32_b y1523126
                    refine q_isub hx hb dX11_deal_154 rfl rfl (by omega) (fun x1523179 h1523180 => ?_)
                    refine gs_342 E hW r1523125 ⟨by omega, by omega⟩ dX11_deal_155 (fun f1523182 H locs e1523183 n1523184 g1523185 hW => ?_)
                    have hF := FM.tr hF g1523185 rfl
                    refine lv_aload hx hb dX11_deal_156 (lv_at hl 1 rfl) ?_
                    refine lv_iload_n hx hb dX11_deal_158 rfl (lv_at hl 3 rfl) ?_
                    refine lv_iload_n hx hb dX11_deal_159 rfl (lv_at hl 5 rfl) ?_
                    refine t_callV (As := [.int u1, .int u3]) (rest := []) E hW (c_X4_gain l G cI cJ cZ cD cR cT kp L f1523182 hW.2.2.2 _ a1523077 u1 u3 r1523079 (by omega) (by omega)) r1523079 (by decide) rfl wk_X4_gain tw_631 rfl ⟨Nat.le_of_ble_eq_true rfl, Nat.le_of_ble_eq_true rfl⟩ ⟨rfl, rfl⟩ hl.1 rfl (Nat.le_of_ble_eq_true rfl) dX11_deal_160 ⟨Nat.le_of_ble_eq_true rfl, Nat.le_of_ble_eq_true rfl⟩ (fun v1523186 f1523187 H locs q1523188 hW => ?_)
                    obtain ⟨rfl, g1523189⟩ := q1523188
                    have hF := FM.tr hF g1523189 rfl
                    refine lv_aload hx hb dX11_deal_163 (lv_at hl 0 rfl) ?_
                    refine lv_dup hx hb dX11_deal_165 rfl ?_
                    refine fg_RX11_288 E hW r1523085 dX11_deal_166 (fun y1523190 m1523191 => ?_)
                    obtain rfl : y1523169 = y1523190 := (((fm_I g1523189 r1523085 rfl).trans ((fm_I g1523185 r1523085 rfl).trans m1523170))).symm.trans m1523191
                    refine lv_iconst (v := 1) hx hb dX11_deal_169 (by decide) ?_
                    have hb1523195 : -2147483648 ≤ y1523169.toInt ∧ y1523169.toInt ≤ 2147483647 := i32_b y1523169
                    refine q_iadd (Y := 1) hx hb dX11_deal_170 rfl rfl (by omega) (fun x1523193 h1523194 => ?_)
                    refine fp_RX11_288 E hW r1523085 dX11_deal_171 (fun f1523196 H locs e1523197 n1523198 g1523199 hW => ?_)
                    have hF := FM.tr hF g1523199 rfl
                    refine lv_aload_n hx hb dX11_deal_174 rfl (lv_at hl 2 rfl) ?_
                    refine lv_aload hx hb dX11_deal_175 (lv_at hl 0 rfl) ?_
                    refine fg_RX11_288 E hW r1523085 dX11_deal_177 (fun y1523200 m1523201 => ?_)
                    obtain rfl : x1523193 = y1523200 := (e1523197).symm.trans m1523201
                    refine t_callV (As := [.int x1523193]) (rest := []) E hW (c_X11_accept l G cI cJ cZ cD cR cT kp L f1523196 hW.2.2.2 _ h0 x1523193 rh0) rh0 (by decide) rfl wk_X11_accept tw_611 rfl ⟨Nat.le_of_ble_eq_true rfl, Nat.le_of_ble_eq_true rfl⟩ ⟨rfl, rfl⟩ hl.1 rfl (Nat.le_of_ble_eq_true rfl) dX11_deal_180 ⟨Nat.le_of_ble_eq_true rfl, Nat.le_of_ble_eq_true rfl⟩ (fun v1523203 f1523204 H locs q1523205 hW => ?_)
                    obtain ⟨⟨x1523207, rfl, p1523208⟩, g1523206⟩ := q1523205
                    clear p1523208
                    have hF := FM.tr hF g1523206 rfl
                    exact e_I E hW rfl ⟨⟨_, rfl, trivial⟩, hF⟩ dX11_deal_183
                  · refine lv_aload_n hx hb dX11_deal_138 rfl (lv_at hl 2 rfl) ?_
                    refine lv_bipush (v := (-5)) hx hb dX11_deal_139 (by decide) ?_
                    refine t_callV (As := [.int (-5)]) (rest := []) E hW (c_X11_refuse l G cI cJ cZ cD cR cT kp L f1523150 hW.2.2.2 _ h0 (-5) rh0 (by decide)) rh0 (by decide) rfl wk_X11_refuse tw_603 rfl ⟨Nat.le_of_ble_eq_true rfl, Nat.le_of_ble_eq_true rfl⟩ ⟨rfl, rfl⟩ hl.1 rfl (Nat.le_of_ble_eq_true rfl) dX11_deal_141 ⟨Nat.le_of_ble_eq_true rfl, Nat.le_of_ble_eq_true rfl⟩ (fun v1523209 f1523210 H locs q1523211 hW => ?_)
                    obtain ⟨⟨x1523213, rfl, p1523214⟩, g1523212⟩ := q1523211
                    have p1523214 : (-6 : Int) ≤ x1523213.toInt ∧ x1523213.toInt ≤ -1 := p1523214
                    have hF := FM.tr hF g1523212 rfl
                    exact e_I E hW rfl ⟨⟨_, rfl, trivial⟩, hF⟩ dX11_deal_144
                · refine lv_aload hx hb dX11_deal_105 (lv_at hl 1 rfl) ?_
                  refine lv_iload_n hx hb dX11_deal_107 rfl (lv_at hl 3 rfl) ?_
                  refine lv_iload_n hx hb dX11_deal_108 rfl (lv_at hl 4 rfl) ?_
                  refine lv_aload hx hb dX11_deal_109 (lv_at hl 0 rfl) ?_
                  refine fg_RX11_282 E hW r1523085 dX11_deal_111 (fun y1523215 m1523216 => ?_)
                  refine t_callV (As := [.int u1, .int u2, .int y1523215]) (rest := []) E hW (c_X4_keepsBan l G cI cJ cZ cD cR cT kp L f1523150 hW.2.2.2 _ a1523077 u1 u2 y1523215 r1523079 (by omega) (by omega)) r1523079 (by decide) rfl wk_X4_keepsBan tw_1184 rfl ⟨Nat.le_of_ble_eq_true rfl, Nat.le_of_ble_eq_true rfl⟩ ⟨rfl, rfl⟩ hl.1 rfl (Nat.le_of_ble_eq_true rfl) dX11_deal_114 ⟨Nat.le_of_ble_eq_true rfl, Nat.le_of_ble_eq_true rfl⟩ (fun v1523218 f1523219 H locs q1523220 hW => ?_)
                  obtain ⟨⟨x1523222, rfl, p1523223⟩, g1523221⟩ := q1523220
                  have hF := FM.tr hF g1523221 rfl
                  refine q_if_eq (tgt := 127) hx hb dX11_deal_117 (by decide) rfl (fun c1523224 => ?_) (fun c1523224 => ?_)
                  · refine lv_aload hx hb dX11_deal_127 (lv_at hl 0 rfl) ?_
                    refine fg_RX11_288 E hW r1523085 dX11_deal_129 (fun y1523225 m1523226 => ?_)
                    refine lv_sipush (v := 200) hx hb dX11_deal_132 (by decide) ?_
                    refine q_icmp_lt (Y := 200) (tgt := 145) hx hb dX11_deal_135 (by decide) rfl rfl (fun c1523228 => ?_) (fun c1523228 => ?_)
                    · refine lv_aload hx hb dX11_deal_145 (lv_at hl 1 rfl) ?_
                      refine fg_RX11_94 E hW r1523079 dX11_deal_147 (fun a1523229 m1523230 r1523231 => ?_)
                      obtain rfl : a1523123 = a1523229 := (((fm_R g1523221 r1523079 rfl).trans ((fm_R g1523152 r1523079 rfl).trans ((fm_R g1523139 r1523079 rfl).trans m1523124)))).symm.trans m1523230
                      refine lv_iload_n hx hb dX11_deal_150 rfl (lv_at hl 4 rfl) ?_
                      refine lv_dup2_11 hx hb dX11_deal_151 rfl rfl ?_
                      refine gl_342 E hW r1523125 ⟨by omega, by omega⟩ dX11_deal_152 (fun y1523232 m1523233 => ?_)
                      obtain rfl : y1523126 = y1523232 := (((congrArg (fun z => aI z (u2 : Int32).toNatClampNeg) (fm_A g1523221 r1523125 (by decide) rfl)).trans ((congrArg (fun z => aI z (u2 : Int32).toNatClampNeg) (fm_A g1523152 r1523125 (by decide) rfl)).trans ((congrArg (fun z => aI z (u2 : Int32).toNatClampNeg) (fm_A g1523139 r1523125 (by decide) rfl)).trans m1523127)))).symm.trans m1523233
                      refine lv_iload_n hx hb dX11_deal_153 rfl (lv_at hl 5 rfl) ?_
                      have hb1523237 : -2147483648 ≤ y1523126.toInt ∧ y1523126.toInt ≤ 2147483647 := i32_b y1523126
                      refine q_isub hx hb dX11_deal_154 rfl rfl (by omega) (fun x1523235 h1523236 => ?_)
                      refine gs_342 E hW r1523125 ⟨by omega, by omega⟩ dX11_deal_155 (fun f1523238 H locs e1523239 n1523240 g1523241 hW => ?_)
                      have hF := FM.tr hF g1523241 rfl
                      refine lv_aload hx hb dX11_deal_156 (lv_at hl 1 rfl) ?_
                      refine lv_iload_n hx hb dX11_deal_158 rfl (lv_at hl 3 rfl) ?_
                      refine lv_iload_n hx hb dX11_deal_159 rfl (lv_at hl 5 rfl) ?_
                      refine t_callV (As := [.int u1, .int u3]) (rest := []) E hW (c_X4_gain l G cI cJ cZ cD cR cT kp L f1523238 hW.2.2.2 _ a1523077 u1 u3 r1523079 (by omega) (by omega)) r1523079 (by decide) rfl wk_X4_gain tw_631 rfl ⟨Nat.le_of_ble_eq_true rfl, Nat.le_of_ble_eq_true rfl⟩ ⟨rfl, rfl⟩ hl.1 rfl (Nat.le_of_ble_eq_true rfl) dX11_deal_160 ⟨Nat.le_of_ble_eq_true rfl, Nat.le_of_ble_eq_true rfl⟩ (fun v1523242 f1523243 H locs q1523244 hW => ?_)
                      obtain ⟨rfl, g1523245⟩ := q1523244
                      have hF := FM.tr hF g1523245 rfl
                      refine lv_aload hx hb dX11_deal_163 (lv_at hl 0 rfl) ?_
                      refine lv_dup hx hb dX11_deal_165 rfl ?_
                      refine fg_RX11_288 E hW r1523085 dX11_deal_166 (fun y1523246 m1523247 => ?_)
                      obtain rfl : y1523225 = y1523246 := (((fm_I g1523245 r1523085 rfl).trans ((fm_I g1523241 r1523085 rfl).trans m1523226))).symm.trans m1523247
                      refine lv_iconst (v := 1) hx hb dX11_deal_169 (by decide) ?_
                      have hb1523251 : -2147483648 ≤ y1523225.toInt ∧ y1523225.toInt ≤ 2147483647 := i32_b y1523225
                      refine q_iadd (Y := 1) hx hb dX11_deal_170 rfl rfl (by omega) (fun x1523249 h1523250 => ?_)
                      refine fp_RX11_288 E hW r1523085 dX11_deal_171 (fun f1523252 H locs e1523253 n1523254 g1523255 hW => ?_)
                      have hF := FM.tr hF g1523255 rfl
                      refine lv_aload_n hx hb dX11_deal_174 rfl (lv_at hl 2 rfl) ?_
                      refine lv_aload hx hb dX11_deal_175 (lv_at hl 0 rfl) ?_
                      refine fg_RX11_288 E hW r1523085 dX11_deal_177 (fun y1523256 m1523257 => ?_)
                      obtain rfl : x1523249 = y1523256 := (e1523253).symm.trans m1523257
                      refine t_callV (As := [.int x1523249]) (rest := []) E hW (c_X11_accept l G cI cJ cZ cD cR cT kp L f1523252 hW.2.2.2 _ h0 x1523249 rh0) rh0 (by decide) rfl wk_X11_accept tw_611 rfl ⟨Nat.le_of_ble_eq_true rfl, Nat.le_of_ble_eq_true rfl⟩ ⟨rfl, rfl⟩ hl.1 rfl (Nat.le_of_ble_eq_true rfl) dX11_deal_180 ⟨Nat.le_of_ble_eq_true rfl, Nat.le_of_ble_eq_true rfl⟩ (fun v1523259 f1523260 H locs q1523261 hW => ?_)
                      obtain ⟨⟨x1523263, rfl, p1523264⟩, g1523262⟩ := q1523261
                      clear p1523264
                      have hF := FM.tr hF g1523262 rfl
                      exact e_I E hW rfl ⟨⟨_, rfl, trivial⟩, hF⟩ dX11_deal_183
                    · refine lv_aload_n hx hb dX11_deal_138 rfl (lv_at hl 2 rfl) ?_
                      refine lv_bipush (v := (-5)) hx hb dX11_deal_139 (by decide) ?_
                      refine t_callV (As := [.int (-5)]) (rest := []) E hW (c_X11_refuse l G cI cJ cZ cD cR cT kp L f1523219 hW.2.2.2 _ h0 (-5) rh0 (by decide)) rh0 (by decide) rfl wk_X11_refuse tw_603 rfl ⟨Nat.le_of_ble_eq_true rfl, Nat.le_of_ble_eq_true rfl⟩ ⟨rfl, rfl⟩ hl.1 rfl (Nat.le_of_ble_eq_true rfl) dX11_deal_141 ⟨Nat.le_of_ble_eq_true rfl, Nat.le_of_ble_eq_true rfl⟩ (fun v1523265 f1523266 H locs q1523267 hW => ?_)
                      obtain ⟨⟨x1523269, rfl, p1523270⟩, g1523268⟩ := q1523267
                      have p1523270 : (-6 : Int) ≤ x1523269.toInt ∧ x1523269.toInt ≤ -1 := p1523270
                      have hF := FM.tr hF g1523268 rfl
                      exact e_I E hW rfl ⟨⟨_, rfl, trivial⟩, hF⟩ dX11_deal_144
                  · refine lv_aload_n hx hb dX11_deal_120 rfl (lv_at hl 2 rfl) ?_
                    refine lv_bipush (v := (-3)) hx hb dX11_deal_121 (by decide) ?_
                    refine t_callV (As := [.int (-3)]) (rest := []) E hW (c_X11_refuse l G cI cJ cZ cD cR cT kp L f1523219 hW.2.2.2 _ h0 (-3) rh0 (by decide)) rh0 (by decide) rfl wk_X11_refuse tw_603 rfl ⟨Nat.le_of_ble_eq_true rfl, Nat.le_of_ble_eq_true rfl⟩ ⟨rfl, rfl⟩ hl.1 rfl (Nat.le_of_ble_eq_true rfl) dX11_deal_123 ⟨Nat.le_of_ble_eq_true rfl, Nat.le_of_ble_eq_true rfl⟩ (fun v1523271 f1523272 H locs q1523273 hW => ?_)
                    obtain ⟨⟨x1523275, rfl, p1523276⟩, g1523274⟩ := q1523273
                    have p1523276 : (-6 : Int) ≤ x1523275.toInt ∧ x1523275.toInt ≤ -1 := p1523276
                    have hF := FM.tr hF g1523274 rfl
                    exact e_I E hW rfl ⟨⟨_, rfl, trivial⟩, hF⟩ dX11_deal_126
      · clear p1523113
        refine lv_aload_n hx hb dX11_deal_53 rfl (lv_at hl 2 rfl) ?_
        refine lv_bipush (v := (-2)) hx hb dX11_deal_54 (by decide) ?_
        refine t_callV (As := [.int (-2)]) (rest := []) E hW (c_X11_refuse l G cI cJ cZ cD cR cT kp L f1523109 hW.2.2.2 _ h0 (-2) rh0 (by decide)) rh0 (by decide) rfl wk_X11_refuse tw_603 rfl ⟨Nat.le_of_ble_eq_true rfl, Nat.le_of_ble_eq_true rfl⟩ ⟨rfl, rfl⟩ hl.1 rfl (Nat.le_of_ble_eq_true rfl) dX11_deal_56 ⟨Nat.le_of_ble_eq_true rfl, Nat.le_of_ble_eq_true rfl⟩ (fun v1523277 f1523278 H locs q1523279 hW => ?_)
        obtain ⟨⟨x1523281, rfl, p1523282⟩, g1523280⟩ := q1523279
        have p1523282 : (-6 : Int) ≤ x1523281.toInt ∧ x1523281.toInt ≤ -1 := p1523282
        have hF := FM.tr hF g1523280 rfl
        exact e_I E hW rfl ⟨⟨_, rfl, trivial⟩, hF⟩ dX11_deal_59
  · have q1523283 : (u3.toInt < 1 ∨ 10000 < u3.toInt) := by omega
    clear p1523091
    refine lv_aload_n hx hb dX11_deal_29 rfl (lv_at hl 2 rfl) ?_
    refine lv_iconst (v := (-1)) hx hb dX11_deal_30 (by decide) ?_
    refine t_callV (As := [.int (-1)]) (rest := []) E hW (c_X11_refuse l G cI cJ cZ cD cR cT kp L f1523087 hW.2.2.2 _ h0 (-1) rh0 (by decide)) rh0 (by decide) rfl wk_X11_refuse tw_603 rfl ⟨Nat.le_of_ble_eq_true rfl, Nat.le_of_ble_eq_true rfl⟩ ⟨rfl, rfl⟩ hl.1 rfl (Nat.le_of_ble_eq_true rfl) dX11_deal_31 ⟨Nat.le_of_ble_eq_true rfl, Nat.le_of_ble_eq_true rfl⟩ (fun v1523284 f1523285 H locs q1523286 hW => ?_)
    obtain ⟨⟨x1523288, rfl, p1523289⟩, g1523287⟩ := q1523286
    have p1523289 : (-6 : Int) ≤ x1523288.toInt ∧ x1523288.toInt ≤ -1 := p1523289
    have hF := FM.tr hF g1523287 rfl
    exact e_I E hW rfl ⟨⟨_, rfl, trivial⟩, hF⟩ dX11_deal_34
def ms_X11_end : List (Nat × Nat) := [(8, 0)]
def po_X11_end (kp : Nat → Nat) (L : List Nat) (f0 : Nat → va_E) (h0 : Nat) (u1 : Int32) : Option Value → (Nat → va_E) → Prop := fun v f => (∃ r : Int32, v = some (.int r) ∧ ((-1 : Int) ≤ r.toInt ∧ r.toInt ≤ 400)) ∧ FM kp L ms_X11_end f0 f
set_option maxHeartbeats 4000000 in
set_option maxRecDepth 100000 in
theorem c_X11_end (l : Launch) (G : va_G) (cI cJ cZ cD cR cT : ClassId) (kp : Nat → Nat) (L : List Nat) (f0 : Nat → va_E) (hTH : TH cI cJ cZ cD cR cT kp L f0) (sz : Nat) (h0 : Nat) (u1 : Int32) (rh0 : RK kp L h0 11) : Met l yX11_end (Cond.code yX11_end cX11_end 2 (some .int) :: wTab) ({ frames := 2, cells := 0, slots := 0, locals := 62 }) (va_Pc [.ref h0, .int u1] (PreW G (tys6 cI cJ cZ cD cR cT) (va_pl L f0) sz)) (QT (po_X11_end kp L f0 h0 u1) G cI cJ cZ cD cR cT (va_A (va_pl L f0) sz) kp L) 0 0 (va_A (va_pl L f0) sz) := by
  refine metT (by decide) (Nat.le_of_ble_eq_true rfl) hTH ?_
  intro p e s m below meth c A ls E hW hl
  obtain ⟨hx, hb, -, hml, hown, hts, -, -, -⟩ := id E
  have hF : FM kp L ms_X11_end f0 f0 := FM.rf
  have hl : lv_has ls 2 [(0, .ref h0), (1, .int u1)] := hl
  refine lv_iload_n hx hb dX11_end_0 rfl (lv_at hl 1 rfl) ?_
  refine lv_iconst (v := 0) hx hb dX11_end_1 (by decide) ?_
  refine lv_aload_n hx hb dX11_end_2 rfl (lv_at hl 0 rfl) ?_
  refine fg_RX11_30 E hW rh0 dX11_end_3 (fun a1523290 m1523291 r1523292 => ?_)
  refine fg_RX11_209 E hW r1523292 dX11_end_6 (fun y1523293 m1523294 b1523295 => ?_)
  refine t_callS (As := [.int u1, .int 0, .int y1523293]) (rest := []) E hW (c_X11_within l G cI cJ cZ cD cR cT kp L f0 hW.2.2.2 _ u1 0 y1523293 (by decide)) wk_X11_within tw_599 rfl ⟨Nat.le_of_ble_eq_true rfl, Nat.le_of_ble_eq_true rfl⟩ ⟨rfl, rfl⟩ hl.1 rfl (Nat.le_of_ble_eq_true rfl) dX11_end_9 ⟨Nat.le_of_ble_eq_true rfl, Nat.le_of_ble_eq_true rfl⟩ (fun v1523296 f1523297 H locs q1523298 hW => ?_)
  obtain ⟨⟨x1523300, rfl, p1523301⟩, g1523299⟩ := q1523298
  have p1523301 : (x1523300.toInt = 1 ∧ 0 ≤ u1.toInt ∧ u1.toInt ≤ y1523293.toInt) ∨ (x1523300.toInt = 0 ∧ (u1.toInt < 0 ∨ y1523293.toInt < u1.toInt)) := p1523301
  have hF := FM.tr hF g1523299 rfl
  refine q_if_ne (tgt := 17) hx hb dX11_end_12 (by decide) rfl (fun c1523302 => ?_) (fun c1523302 => ?_)
  · have q1523303 : 0 ≤ u1.toInt ∧ u1.toInt ≤ y1523293.toInt := by omega
    clear p1523301
    refine lv_aload_n hx hb dX11_end_17 rfl (lv_at hl 0 rfl) ?_
    refine fg_RX11_30 E hW rh0 dX11_end_18 (fun a1523304 m1523305 r1523306 => ?_)
    obtain rfl : a1523290 = a1523304 := (((fm_R g1523299 rh0 rfl).trans m1523291)).symm.trans m1523305
    refine lv_iload_n hx hb dX11_end_21 rfl (lv_at hl 1 rfl) ?_
    refine fp_RX11_209 E hW r1523292 (by omega) dX11_end_22 (fun f1523307 H locs e1523308 n1523309 g1523310 hW => ?_)
    have hF := FM.tr hF g1523310 rfl
    refine lv_iload_n hx hb dX11_end_25 rfl (lv_at hl 1 rfl) ?_
    exact e_I E hW rfl ⟨⟨_, rfl, (by first | omega | trivial)⟩, hF⟩ dX11_end_26
  · have q1523311 : (u1.toInt < 0 ∨ y1523293.toInt < u1.toInt) := by omega
    clear p1523301
    refine lv_iconst (v := (-1)) hx hb dX11_end_15 (by decide) ?_
    exact e_I E hW rfl ⟨⟨_, rfl, (by have hk : ((-1) : Int32).toInt = -1 := rfl; first | decide | omega)⟩, hF⟩ dX11_end_16
def ms_X11_estate : List (Nat × Nat) := [(1, 8), (11, 15), (169, 0), (170, 0), (171, 0)]
def po_X11_estate (kp : Nat → Nat) (L : List Nat) (f0 : Nat → va_E) (h0 : Nat) (u1 : Int32) (u2 : Int32) : Option Value → (Nat → va_E) → Prop := fun v f => (∃ r : Int32, v = some (.int r) ∧ (True)) ∧ FM kp L ms_X11_estate f0 f
set_option maxHeartbeats 4000000 in
set_option maxRecDepth 100000 in
theorem c_X11_estate (l : Launch) (G : va_G) (cI cJ cZ cD cR cT : ClassId) (kp : Nat → Nat) (L : List Nat) (f0 : Nat → va_E) (hTH : TH cI cJ cZ cD cR cT kp L f0) (sz : Nat) (h0 : Nat) (u1 : Int32) (u2 : Int32) (rh0 : RK kp L h0 11) : Met l yX11_estate (Cond.code yX11_estate cX11_estate 3 (some .int) :: wTab) ({ frames := 2, cells := 0, slots := 0, locals := 63 }) (va_Pc [.ref h0, .int u1, .int u2] (PreW G (tys6 cI cJ cZ cD cR cT) (va_pl L f0) sz)) (QT (po_X11_estate kp L f0 h0 u1 u2) G cI cJ cZ cD cR cT (va_A (va_pl L f0) sz) kp L) 0 0 (va_A (va_pl L f0) sz) := by
  refine metT (by decide) (Nat.le_of_ble_eq_true rfl) hTH ?_
  intro p e s m below meth c A ls E hW hl
  obtain ⟨hx, hb, -, hml, hown, hts, -, -, -⟩ := id E
  have hF : FM kp L ms_X11_estate f0 f0 := FM.rf
  have hl : lv_has ls 3 [(0, .ref h0), (1, .int u1), (2, .int u2)] := hl
  refine lv_iload_n hx hb dX11_estate_0 rfl (lv_at hl 1 rfl) ?_
  refine lv_iconst (v := 0) hx hb dX11_estate_1 (by decide) ?_
  refine lv_ldc (v := 10000000) hx hb hown (hts _ tw_643) dX11_estate_2 ?_
  refine t_callS (As := [.int u1, .int 0, .int 10000000]) (rest := []) E hW (c_X11_within l G cI cJ cZ cD cR cT kp L f0 hW.2.2.2 _ u1 0 10000000 (by decide)) wk_X11_within tw_599 rfl ⟨Nat.le_of_ble_eq_true rfl, Nat.le_of_ble_eq_true rfl⟩ ⟨rfl, rfl⟩ hl.1 rfl (Nat.le_of_ble_eq_true rfl) dX11_estate_4 ⟨Nat.le_of_ble_eq_true rfl, Nat.le_of_ble_eq_true rfl⟩ (fun v1523312 f1523313 H locs q1523314 hW => ?_)
  obtain ⟨⟨x1523316, rfl, p1523317⟩, g1523315⟩ := q1523314
  have p1523317 : (x1523316.toInt = 1 ∧ 0 ≤ u1.toInt ∧ u1.toInt ≤ 10000000) ∨ (x1523316.toInt = 0 ∧ (u1.toInt < 0 ∨ 10000000 < u1.toInt)) := p1523317
  have hF := FM.tr hF g1523315 rfl
  refine q_if_eq (tgt := 20) hx hb dX11_estate_7 (by decide) rfl (fun c1523318 => ?_) (fun c1523318 => ?_)
  · have q1523319 : (u1.toInt < 0 ∨ 10000000 < u1.toInt) := by omega
    clear p1523317
    refine lv_aload_n hx hb dX11_estate_20 rfl (lv_at hl 0 rfl) ?_
    refine lv_iconst (v := (-1)) hx hb dX11_estate_21 (by decide) ?_
    refine t_callV (As := [.int (-1)]) (rest := []) E hW (c_X11_refuse l G cI cJ cZ cD cR cT kp L f1523313 hW.2.2.2 _ h0 (-1) rh0 (by decide)) rh0 (by decide) rfl wk_X11_refuse tw_603 rfl ⟨Nat.le_of_ble_eq_true rfl, Nat.le_of_ble_eq_true rfl⟩ ⟨rfl, rfl⟩ hl.1 rfl (Nat.le_of_ble_eq_true rfl) dX11_estate_22 ⟨Nat.le_of_ble_eq_true rfl, Nat.le_of_ble_eq_true rfl⟩ (fun v1523320 f1523321 H locs q1523322 hW => ?_)
    obtain ⟨⟨x1523324, rfl, p1523325⟩, g1523323⟩ := q1523322
    have p1523325 : (-6 : Int) ≤ x1523324.toInt ∧ x1523324.toInt ≤ -1 := p1523325
    have hF := FM.tr hF g1523323 rfl
    exact e_I E hW rfl ⟨⟨_, rfl, trivial⟩, hF⟩ dX11_estate_25
  · have q1523326 : 0 ≤ u1.toInt ∧ u1.toInt ≤ 10000000 := by omega
    clear p1523317
    refine lv_iload_n hx hb dX11_estate_10 rfl (lv_at hl 2 rfl) ?_
    refine lv_iconst (v := 0) hx hb dX11_estate_11 (by decide) ?_
    refine lv_ldc (v := 1000000) hx hb hown (hts _ tw_602) dX11_estate_12 ?_
    refine t_callS (As := [.int u2, .int 0, .int 1000000]) (rest := []) E hW (c_X11_within l G cI cJ cZ cD cR cT kp L f1523313 hW.2.2.2 _ u2 0 1000000 (by decide)) wk_X11_within tw_599 rfl ⟨Nat.le_of_ble_eq_true rfl, Nat.le_of_ble_eq_true rfl⟩ ⟨rfl, rfl⟩ hl.1 rfl (Nat.le_of_ble_eq_true rfl) dX11_estate_14 ⟨Nat.le_of_ble_eq_true rfl, Nat.le_of_ble_eq_true rfl⟩ (fun v1523327 f1523328 H locs q1523329 hW => ?_)
    obtain ⟨⟨x1523331, rfl, p1523332⟩, g1523330⟩ := q1523329
    have p1523332 : (x1523331.toInt = 1 ∧ 0 ≤ u2.toInt ∧ u2.toInt ≤ 1000000) ∨ (x1523331.toInt = 0 ∧ (u2.toInt < 0 ∨ 1000000 < u2.toInt)) := p1523332
    have hF := FM.tr hF g1523330 rfl
    refine q_if_ne (tgt := 26) hx hb dX11_estate_17 (by decide) rfl (fun c1523333 => ?_) (fun c1523333 => ?_)
    · have q1523334 : 0 ≤ u2.toInt ∧ u2.toInt ≤ 1000000 := by omega
      clear p1523332
      refine lv_aload_n hx hb dX11_estate_26 rfl (lv_at hl 0 rfl) ?_
      refine fg_RX11_12 E hW rh0 dX11_estate_27 (fun a1523335 m1523336 r1523337 => ?_)
      refine fg_RX11_114 E hW r1523337 dX11_estate_30 (fun a1523338 m1523339 r1523340 => ?_)
      refine fg_RX11_118 E hW r1523340 dX11_estate_33 (fun y1523341 m1523342 b1523343 => ?_)
      refine lv_bipush (v := 8) hx hb dX11_estate_36 (by decide) ?_
      refine q_icmp_lt (Y := 8) (tgt := 48) hx hb dX11_estate_38 (by decide) rfl rfl (fun c1523344 => ?_) (fun c1523344 => ?_)
      · refine lv_aload_n hx hb dX11_estate_48 rfl (lv_at hl 0 rfl) ?_
        refine lv_aload_n hx hb dX11_estate_49 rfl (lv_at hl 0 rfl) ?_
        refine fg_RX11_12 E hW rh0 dX11_estate_50 (fun a1523345 m1523346 r1523347 => ?_)
        obtain rfl : a1523335 = a1523345 := (m1523336).symm.trans m1523346
        refine fg_RX11_114 E hW r1523337 dX11_estate_53 (fun a1523348 m1523349 r1523350 => ?_)
        obtain rfl : a1523338 = a1523348 := (m1523339).symm.trans m1523349
        refine lv_iload_n hx hb dX11_estate_56 rfl (lv_at hl 1 rfl) ?_
        refine lv_iload_n hx hb dX11_estate_57 rfl (lv_at hl 2 rfl) ?_
        refine t_callV (As := [.int u1, .int u2]) (rest := [.ref h0]) E hW (c_X1_addEstate l G cI cJ cZ cD cR cT kp L f1523328 hW.2.2.2 _ a1523338 u1 u2 r1523340 (by omega) (by omega)) r1523340 (by decide) rfl wk_X1_addEstate tw_650 rfl ⟨Nat.le_of_ble_eq_true rfl, Nat.le_of_ble_eq_true rfl⟩ ⟨rfl, rfl⟩ hl.1 rfl (Nat.le_of_ble_eq_true rfl) dX11_estate_58 ⟨Nat.le_of_ble_eq_true rfl, Nat.le_of_ble_eq_true rfl⟩ (fun v1523351 f1523352 H locs q1523353 hW => ?_)
        obtain ⟨⟨x1523355, rfl, p1523356⟩, g1523354⟩ := q1523353
        have hF := FM.tr hF g1523354 rfl
        refine t_callV (As := [.int x1523355]) (rest := []) E hW (c_X11_accept l G cI cJ cZ cD cR cT kp L f1523352 hW.2.2.2 _ h0 x1523355 rh0) rh0 (by decide) rfl wk_X11_accept tw_611 rfl ⟨Nat.le_of_ble_eq_true rfl, Nat.le_of_ble_eq_true rfl⟩ ⟨rfl, rfl⟩ hl.1 rfl (Nat.le_of_ble_eq_true rfl) dX11_estate_61 ⟨Nat.le_of_ble_eq_true rfl, Nat.le_of_ble_eq_true rfl⟩ (fun v1523357 f1523358 H locs q1523359 hW => ?_)
        obtain ⟨⟨x1523361, rfl, p1523362⟩, g1523360⟩ := q1523359
        clear p1523362
        have hF := FM.tr hF g1523360 rfl
        exact e_I E hW rfl ⟨⟨_, rfl, trivial⟩, hF⟩ dX11_estate_64
      · refine lv_aload_n hx hb dX11_estate_41 rfl (lv_at hl 0 rfl) ?_
        refine lv_bipush (v := (-5)) hx hb dX11_estate_42 (by decide) ?_
        refine t_callV (As := [.int (-5)]) (rest := []) E hW (c_X11_refuse l G cI cJ cZ cD cR cT kp L f1523328 hW.2.2.2 _ h0 (-5) rh0 (by decide)) rh0 (by decide) rfl wk_X11_refuse tw_603 rfl ⟨Nat.le_of_ble_eq_true rfl, Nat.le_of_ble_eq_true rfl⟩ ⟨rfl, rfl⟩ hl.1 rfl (Nat.le_of_ble_eq_true rfl) dX11_estate_44 ⟨Nat.le_of_ble_eq_true rfl, Nat.le_of_ble_eq_true rfl⟩ (fun v1523363 f1523364 H locs q1523365 hW => ?_)
        obtain ⟨⟨x1523367, rfl, p1523368⟩, g1523366⟩ := q1523365
        have p1523368 : (-6 : Int) ≤ x1523367.toInt ∧ x1523367.toInt ≤ -1 := p1523368
        have hF := FM.tr hF g1523366 rfl
        exact e_I E hW rfl ⟨⟨_, rfl, trivial⟩, hF⟩ dX11_estate_47
    · have q1523369 : (u2.toInt < 0 ∨ 1000000 < u2.toInt) := by omega
      clear p1523332
      refine lv_aload_n hx hb dX11_estate_20 rfl (lv_at hl 0 rfl) ?_
      refine lv_iconst (v := (-1)) hx hb dX11_estate_21 (by decide) ?_
      refine t_callV (As := [.int (-1)]) (rest := []) E hW (c_X11_refuse l G cI cJ cZ cD cR cT kp L f1523328 hW.2.2.2 _ h0 (-1) rh0 (by decide)) rh0 (by decide) rfl wk_X11_refuse tw_603 rfl ⟨Nat.le_of_ble_eq_true rfl, Nat.le_of_ble_eq_true rfl⟩ ⟨rfl, rfl⟩ hl.1 rfl (Nat.le_of_ble_eq_true rfl) dX11_estate_22 ⟨Nat.le_of_ble_eq_true rfl, Nat.le_of_ble_eq_true rfl⟩ (fun v1523370 f1523371 H locs q1523372 hW => ?_)
      obtain ⟨⟨x1523374, rfl, p1523375⟩, g1523373⟩ := q1523372
      have p1523375 : (-6 : Int) ≤ x1523374.toInt ∧ x1523374.toInt ≤ -1 := p1523375
      have hF := FM.tr hF g1523373 rfl
      exact e_I E hW rfl ⟨⟨_, rfl, trivial⟩, hF⟩ dX11_estate_25
def ms_X11_fault : List (Nat × Nat) := []
def po_X11_fault (kp : Nat → Nat) (L : List Nat) (f0 : Nat → va_E) (h0 : Nat) : Option Value → (Nat → va_E) → Prop := fun v f => (∃ r : Int32, v = some (.int r) ∧ (True)) ∧ FM kp L ms_X11_fault f0 f
set_option maxHeartbeats 4000000 in
set_option maxRecDepth 100000 in
theorem c_X11_fault (l : Launch) (G : va_G) (cI cJ cZ cD cR cT : ClassId) (kp : Nat → Nat) (L : List Nat) (f0 : Nat → va_E) (hTH : TH cI cJ cZ cD cR cT kp L f0) (sz : Nat) (h0 : Nat) (rh0 : RK kp L h0 11) : Met l yX11_fault (Cond.code yX11_fault cX11_fault 1 (some .int) :: wTab) ({ frames := 1, cells := 0, slots := 0, locals := 40 }) (va_Pc [.ref h0] (PreW G (tys6 cI cJ cZ cD cR cT) (va_pl L f0) sz)) (QT (po_X11_fault kp L f0 h0) G cI cJ cZ cD cR cT (va_A (va_pl L f0) sz) kp L) 0 0 (va_A (va_pl L f0) sz) := by
  refine metT (by decide) (Nat.le_of_ble_eq_true rfl) hTH ?_
  intro p e s m below meth c A ls E hW hl
  obtain ⟨hx, hb, -, hml, hown, hts, -, -, -⟩ := id E
  have hF : FM kp L ms_X11_fault f0 f0 := FM.rf
  have hl : lv_has ls 1 [(0, .ref h0)] := hl
  refine lv_aload_n hx hb dX11_fault_0 rfl (lv_at hl 0 rfl) ?_
  refine fg_RX11_37 E hW rh0 dX11_fault_1 (fun a1523376 m1523377 r1523378 => ?_)
  refine fg_RX11_233 E hW r1523378 dX11_fault_4 (fun y1523379 m1523380 => ?_)
  exact e_I E hW rfl ⟨⟨_, rfl, trivial⟩, hF⟩ dX11_fault_7
def ms_X8_append : List (Nat × Nat) := [(8, 0), (581, 0)]
def po_X8_append (kp : Nat → Nat) (L : List Nat) (f0 : Nat → va_E) (h0 : Nat) (u1 : Int32) : Option Value → (Nat → va_E) → Prop := fun v f => v = none ∧ FM kp L ms_X8_append f0 f
set_option maxHeartbeats 4000000 in
set_option maxRecDepth 100000 in
theorem c_X8_append (l : Launch) (G : va_G) (cI cJ cZ cD cR cT : ClassId) (kp : Nat → Nat) (L : List Nat) (f0 : Nat → va_E) (hTH : TH cI cJ cZ cD cR cT kp L f0) (sz : Nat) (h0 : Nat) (u1 : Int32) (rh0 : RK kp L h0 8) : Met l yX8_append (Cond.code yX8_append cX8_append 3 none :: wTab) ({ frames := 1, cells := 0, slots := 0, locals := 40 }) (va_Pc [.ref h0, .int u1] (PreW G (tys6 cI cJ cZ cD cR cT) (va_pl L f0) sz)) (QT (po_X8_append kp L f0 h0 u1) G cI cJ cZ cD cR cT (va_A (va_pl L f0) sz) kp L) 0 0 (va_A (va_pl L f0) sz) := by
  refine metT (by decide) (Nat.le_of_ble_eq_true rfl) hTH ?_
  intro p e s m below meth c A ls E hW hl
  obtain ⟨hx, hb, -, hml, hown, hts, -, -, -⟩ := id E
  have hF : FM kp L ms_X8_append f0 f0 := FM.rf
  have hl : lv_has ls 3 [(0, .ref h0), (1, .int u1)] := hl
  refine lv_bipush (v := 24) hx hb dX8_append_0 (by decide) ?_
  refine lv_istore_n (lv' := [(2, .int 24), (0, .ref h0), (1, .int u1)]) hx hb dX8_append_2 rfl hl (by decide) rfl (fun ls hl => ?_)
  have L1523545 : ∀ (n : Nat), ∀ (f1523542 : Nat → va_E) (y1523543 : Int32) (b1523544 : (-8 : Int) ≤ y1523543.toInt ∧ y1523543.toInt ≤ 24) (hm : y1523543.toInt - (-9 : Int) ≤ n) (H : Heap) (locs : List Loc) (ls : Array Slot), WS G cI cJ cZ cD cR cT A kp L f1523542 s H locs → FM kp L ms_X8_append f0 f1523542 → lv_has ls 3 [(2, .int y1523543), (0, .ref h0), (1, .int u1)] → W p l e ({ frames := 1, cells := 0, slots := 0, locals := 40 }) s m ([.ref h0, .int u1] : List Value).toArray below meth c H locs 0 0 (MQ below (QT (po_X8_append kp L f0 h0 u1) G cI cJ cZ cD cR cT A kp L) ([.ref h0, .int u1] : List Value).toArray s 0 0 A) (F0 m 3 ls []) := by
    intro n
    induction n with
    | zero =>
      intro f1523542 y1523543 b1523544 hm H locs ls hW hF hl
      have hz := i32_b y1523543
      exfalso; omega
    | succ n ih =>
      intro f1523542 y1523543 b1523544 hm H locs ls hW hF hl
      have ih3 := ih
      refine lv_iload_n hx hb dX8_append_3 rfl (lv_at hl 0 rfl) ?_
      have J1523574 : ∀ (H : Heap) (locs : List Loc) (ls : Array Slot), WS G cI cJ cZ cD cR cT A kp L f1523542 s H locs → FM kp L ms_X8_append f0 f1523542 → lv_has ls 3 [(2, .int y1523543), (0, .ref h0), (1, .int u1)] → W p l e ({ frames := 1, cells := 0, slots := 0, locals := 40 }) s m ([.ref h0, .int u1] : List Value).toArray below meth c H locs 0 0 (MQ below (QT (po_X8_append kp L f0 h0 u1) G cI cJ cZ cD cR cT A kp L) ([.ref h0, .int u1] : List Value).toArray s 0 0 A) (F0 m 49 ls []) := by
        intro  H locs ls hW hF hl
        exact e_V E hW rfl ⟨rfl, hF⟩ dX8_append_49
      refine q_if_lt (tgt := 49) hx hb dX8_append_4 (by decide) rfl (fun c1523575 => ?_) (fun c1523575 => ?_)
      · exact J1523574   _ _ _ hW hF (lv_sub hl [0, 1, 2] rfl)
      · refine lv_aload_n hx hb dX8_append_7 rfl (lv_at hl 1 rfl) ?_
        refine fg_RX8_19 E hW rh0 dX8_append_8 (fun y1523576 m1523577 b1523578 => ?_)
        refine lv_sipush (v := 400) hx hb dX8_append_11 (by decide) ?_
        refine q_icmp_ge (Y := 400) (tgt := 49) hx hb dX8_append_14 (by decide) rfl rfl (fun c1523579 => ?_) (fun c1523579 => ?_)
        · exact J1523574   _ _ _ hW hF (lv_sub hl [0, 1, 2] rfl)
        · refine lv_aload_n hx hb dX8_append_17 rfl (lv_at hl 1 rfl) ?_
          refine fg_RX8_9 E hW rh0 dX8_append_18 (fun a1523580 m1523581 r1523582 => ?_)
          refine lv_aload_n hx hb dX8_append_21 rfl (lv_at hl 1 rfl) ?_
          refine fg_RX8_19 E hW rh0 dX8_append_22 (fun y1523583 m1523584 b1523585 => ?_)
          obtain rfl : y1523576 = y1523583 := (m1523577).symm.trans m1523584
          refine lv_iload_n hx hb dX8_append_25 rfl (lv_at hl 2 rfl) ?_
          refine lv_iload_n hx hb dX8_append_26 rfl (lv_at hl 0 rfl) ?_
          refine u_iushr hx hb dX8_append_27 (fun x1523586 => ?_)
          refine lv_sipush (v := 255) hx hb dX8_append_28 (by decide) ?_
          refine q_iand (M := 255) (k := 8) hx hb dX8_append_31 (by decide) (by decide) (by decide) (fun x1523587 h1523588 => ?_)
          refine gs_581 E hW r1523582 ⟨by omega, by omega⟩ dX8_append_32 (fun f1523589 H locs e1523590 n1523591 g1523592 hW => ?_)
          have hF := FM.tr hF g1523592 rfl
          refine lv_aload_n hx hb dX8_append_33 rfl (lv_at hl 1 rfl) ?_
          refine lv_dup hx hb dX8_append_34 rfl ?_
          refine fg_RX8_19 E hW rh0 dX8_append_35 (fun y1523593 m1523594 b1523595 => ?_)
          obtain rfl : y1523576 = y1523593 := (((fm_I g1523592 rh0 rfl).trans m1523584)).symm.trans m1523594
          refine lv_iconst (v := 1) hx hb dX8_append_38 (by decide) ?_
          refine q_iadd (Y := 1) hx hb dX8_append_39 rfl rfl (by omega) (fun x1523596 h1523597 => ?_)
          refine fp_RX8_19 E hW rh0 (by omega) dX8_append_40 (fun f1523598 H locs e1523599 n1523600 g1523601 hW => ?_)
          have hF := FM.tr hF g1523601 rfl
          refine q_iinc hx hb dX8_append_43 hl (k := 0) rfl rfl rfl (by omega) (by decide) (fun i1523602 ls h1523603 hl => ?_)
          have hl : lv_has ls 3 [(2, .int i1523602), (0, .ref h0), (1, .int u1)] := hl
          refine lv_goto (tgt := 3) hx hb dX8_append_46 (by decide) ?_
          exact ih3 f1523598 i1523602 (by omega) (by omega) _ _ _ hW hF (lv_sub hl [0, 1, 2] rfl)
  have hk1523604 : (24 : Int32).toInt = 24 := rfl
  exact L1523545 33 f0 24 (by decide) (by omega) _ _ _ hW hF (lv_sub hl [0, 1, 2] rfl)
def ms_X11_feed : List (Nat × Nat) := [(8, 0), (581, 0)]
def po_X11_feed (kp : Nat → Nat) (L : List Nat) (f0 : Nat → va_E) (h0 : Nat) (u1 : Int32) (u2 : Int32) (u3 : Int32) (u4 : Int32) (u5 : Int32) : Option Value → (Nat → va_E) → Prop := fun v f => (∃ r : Int32, v = some (.int r) ∧ ((-1 : Int) ≤ r.toInt ∧ r.toInt ≤ 400)) ∧ FM kp L ms_X11_feed f0 f
set_option maxHeartbeats 4000000 in
set_option maxRecDepth 100000 in
theorem c_X11_feed (l : Launch) (G : va_G) (cI cJ cZ cD cR cT : ClassId) (kp : Nat → Nat) (L : List Nat) (f0 : Nat → va_E) (hTH : TH cI cJ cZ cD cR cT kp L f0) (sz : Nat) (h0 : Nat) (u1 : Int32) (u2 : Int32) (u3 : Int32) (u4 : Int32) (u5 : Int32) (rh0 : RK kp L h0 11) : Met l yX11_feed (Cond.code yX11_feed cX11_feed 6 (some .int) :: wTab) ({ frames := 2, cells := 0, slots := 0, locals := 62 }) (va_Pc [.ref h0, .int u1, .int u2, .int u3, .int u4, .int u5] (PreW G (tys6 cI cJ cZ cD cR cT) (va_pl L f0) sz)) (QT (po_X11_feed kp L f0 h0 u1 u2 u3 u4 u5) G cI cJ cZ cD cR cT (va_A (va_pl L f0) sz) kp L) 0 0 (va_A (va_pl L f0) sz) := by
  refine metT (by decide) (Nat.le_of_ble_eq_true rfl) hTH ?_
  intro p e s m below meth c A ls E hW hl
  obtain ⟨hx, hb, -, hml, hown, hts, -, -, -⟩ := id E
  have hF : FM kp L ms_X11_feed f0 f0 := FM.rf
  have hl : lv_has ls 6 [(0, .ref h0), (1, .int u1), (2, .int u2), (3, .int u3), (4, .int u4), (5, .int u5)] := hl
  refine lv_aload_n hx hb dX11_feed_0 rfl (lv_at hl 0 rfl) ?_
  refine fg_RX11_30 E hW rh0 dX11_feed_1 (fun a1523605 m1523606 r1523607 => ?_)
  refine fg_RX11_209 E hW r1523607 dX11_feed_4 (fun y1523608 m1523609 b1523610 => ?_)
  refine lv_bipush (v := 20) hx hb dX11_feed_7 (by decide) ?_
  refine q_iadd (Y := 20) hx hb dX11_feed_9 rfl rfl (by omega) (fun x1523611 h1523612 => ?_)
  refine lv_sipush (v := 400) hx hb dX11_feed_10 (by decide) ?_
  refine q_icmp_le (Y := 400) (tgt := 18) hx hb dX11_feed_13 (by decide) rfl rfl (fun c1523613 => ?_) (fun c1523613 => ?_)
  · refine lv_aload_n hx hb dX11_feed_18 rfl (lv_at hl 0 rfl) ?_
    refine fg_RX11_30 E hW rh0 dX11_feed_19 (fun a1523614 m1523615 r1523616 => ?_)
    obtain rfl : a1523605 = a1523614 := (m1523606).symm.trans m1523615
    refine lv_iload_n hx hb dX11_feed_22 rfl (lv_at hl 1 rfl) ?_
    refine t_callV (As := [.int u1]) (rest := []) E hW (c_X8_append l G cI cJ cZ cD cR cT kp L f0 hW.2.2.2 _ a1523605 u1 r1523607) r1523607 (by decide) rfl wk_X8_append tw_851 rfl ⟨Nat.le_of_ble_eq_true rfl, Nat.le_of_ble_eq_true rfl⟩ ⟨rfl, rfl⟩ hl.1 rfl (Nat.le_of_ble_eq_true rfl) dX11_feed_23 ⟨Nat.le_of_ble_eq_true rfl, Nat.le_of_ble_eq_true rfl⟩ (fun v1523617 f1523618 H locs q1523619 hW => ?_)
    obtain ⟨rfl, g1523620⟩ := q1523619
    have hF := FM.tr hF g1523620 rfl
    refine lv_aload_n hx hb dX11_feed_26 rfl (lv_at hl 0 rfl) ?_
    refine fg_RX11_30 E hW rh0 dX11_feed_27 (fun a1523621 m1523622 r1523623 => ?_)
    obtain rfl : a1523605 = a1523621 := (((fm_R g1523620 rh0 rfl).trans m1523615)).symm.trans m1523622
    refine lv_iload_n hx hb dX11_feed_30 rfl (lv_at hl 2 rfl) ?_
    refine t_callV (As := [.int u2]) (rest := []) E hW (c_X8_append l G cI cJ cZ cD cR cT kp L f1523618 hW.2.2.2 _ a1523605 u2 r1523607) r1523607 (by decide) rfl wk_X8_append tw_851 rfl ⟨Nat.le_of_ble_eq_true rfl, Nat.le_of_ble_eq_true rfl⟩ ⟨rfl, rfl⟩ hl.1 rfl (Nat.le_of_ble_eq_true rfl) dX11_feed_31 ⟨Nat.le_of_ble_eq_true rfl, Nat.le_of_ble_eq_true rfl⟩ (fun v1523624 f1523625 H locs q1523626 hW => ?_)
    obtain ⟨rfl, g1523627⟩ := q1523626
    have hF := FM.tr hF g1523627 rfl
    refine lv_aload_n hx hb dX11_feed_34 rfl (lv_at hl 0 rfl) ?_
    refine fg_RX11_30 E hW rh0 dX11_feed_35 (fun a1523628 m1523629 r1523630 => ?_)
    obtain rfl : a1523605 = a1523628 := (((fm_R g1523627 rh0 rfl).trans m1523622)).symm.trans m1523629
    refine lv_iload_n hx hb dX11_feed_38 rfl (lv_at hl 3 rfl) ?_
    refine t_callV (As := [.int u3]) (rest := []) E hW (c_X8_append l G cI cJ cZ cD cR cT kp L f1523625 hW.2.2.2 _ a1523605 u3 r1523607) r1523607 (by decide) rfl wk_X8_append tw_851 rfl ⟨Nat.le_of_ble_eq_true rfl, Nat.le_of_ble_eq_true rfl⟩ ⟨rfl, rfl⟩ hl.1 rfl (Nat.le_of_ble_eq_true rfl) dX11_feed_39 ⟨Nat.le_of_ble_eq_true rfl, Nat.le_of_ble_eq_true rfl⟩ (fun v1523631 f1523632 H locs q1523633 hW => ?_)
    obtain ⟨rfl, g1523634⟩ := q1523633
    have hF := FM.tr hF g1523634 rfl
    refine lv_aload_n hx hb dX11_feed_42 rfl (lv_at hl 0 rfl) ?_
    refine fg_RX11_30 E hW rh0 dX11_feed_43 (fun a1523635 m1523636 r1523637 => ?_)
    obtain rfl : a1523605 = a1523635 := (((fm_R g1523634 rh0 rfl).trans m1523629)).symm.trans m1523636
    refine lv_iload hx hb dX11_feed_46 (lv_at hl 4 rfl) ?_
    refine t_callV (As := [.int u4]) (rest := []) E hW (c_X8_append l G cI cJ cZ cD cR cT kp L f1523632 hW.2.2.2 _ a1523605 u4 r1523607) r1523607 (by decide) rfl wk_X8_append tw_851 rfl ⟨Nat.le_of_ble_eq_true rfl, Nat.le_of_ble_eq_true rfl⟩ ⟨rfl, rfl⟩ hl.1 rfl (Nat.le_of_ble_eq_true rfl) dX11_feed_48 ⟨Nat.le_of_ble_eq_true rfl, Nat.le_of_ble_eq_true rfl⟩ (fun v1523638 f1523639 H locs q1523640 hW => ?_)
    obtain ⟨rfl, g1523641⟩ := q1523640
    have hF := FM.tr hF g1523641 rfl
    refine lv_aload_n hx hb dX11_feed_51 rfl (lv_at hl 0 rfl) ?_
    refine fg_RX11_30 E hW rh0 dX11_feed_52 (fun a1523642 m1523643 r1523644 => ?_)
    obtain rfl : a1523605 = a1523642 := (((fm_R g1523641 rh0 rfl).trans m1523636)).symm.trans m1523643
    refine lv_iload hx hb dX11_feed_55 (lv_at hl 5 rfl) ?_
    refine t_callV (As := [.int u5]) (rest := []) E hW (c_X8_append l G cI cJ cZ cD cR cT kp L f1523639 hW.2.2.2 _ a1523605 u5 r1523607) r1523607 (by decide) rfl wk_X8_append tw_851 rfl ⟨Nat.le_of_ble_eq_true rfl, Nat.le_of_ble_eq_true rfl⟩ ⟨rfl, rfl⟩ hl.1 rfl (Nat.le_of_ble_eq_true rfl) dX11_feed_57 ⟨Nat.le_of_ble_eq_true rfl, Nat.le_of_ble_eq_true rfl⟩ (fun v1523645 f1523646 H locs q1523647 hW => ?_)
    obtain ⟨rfl, g1523648⟩ := q1523647
    have hF := FM.tr hF g1523648 rfl
    refine lv_aload_n hx hb dX11_feed_60 rfl (lv_at hl 0 rfl) ?_
    refine fg_RX11_30 E hW rh0 dX11_feed_61 (fun a1523649 m1523650 r1523651 => ?_)
    obtain rfl : a1523605 = a1523649 := (((fm_R g1523648 rh0 rfl).trans m1523643)).symm.trans m1523650
    refine fg_RX11_209 E hW r1523607 dX11_feed_64 (fun y1523652 m1523653 b1523654 => ?_)
    exact e_I E hW rfl ⟨⟨_, rfl, (by first | omega | trivial)⟩, hF⟩ dX11_feed_67
  · refine lv_iconst (v := (-1)) hx hb dX11_feed_16 (by decide) ?_
    exact e_I E hW rfl ⟨⟨_, rfl, (by have hk : ((-1) : Int32).toInt = -1 := rfl; first | decide | omega)⟩, hF⟩ dX11_feed_17
def ms_X11_field : List (Nat × Nat) := [(1, 0), (11, 15), (161, 0), (162, 0), (163, 0), (164, 0), (165, 0), (166, 0), (167, 0), (347, 0)]
def po_X11_field (kp : Nat → Nat) (L : List Nat) (f0 : Nat → va_E) (h0 : Nat) (u1 : Int32) (u2 : Int32) (u3 : Int32) (u4 : Int32) : Option Value → (Nat → va_E) → Prop := fun v f => (∃ r : Int32, v = some (.int r) ∧ (True)) ∧ FM kp L ms_X11_field f0 f
set_option maxHeartbeats 4000000 in
set_option maxRecDepth 100000 in
theorem c_X11_field (l : Launch) (G : va_G) (cI cJ cZ cD cR cT : ClassId) (kp : Nat → Nat) (L : List Nat) (f0 : Nat → va_E) (hTH : TH cI cJ cZ cD cR cT kp L f0) (sz : Nat) (h0 : Nat) (u1 : Int32) (u2 : Int32) (u3 : Int32) (u4 : Int32) (rh0 : RK kp L h0 11) : Met l yX11_field (Cond.code yX11_field cX11_field 7 (some .int) :: wTab) ({ frames := 2, cells := 0, slots := 0, locals := 64 }) (va_Pc [.ref h0, .int u1, .int u2, .int u3, .int u4] (PreW G (tys6 cI cJ cZ cD cR cT) (va_pl L f0) sz)) (QT (po_X11_field kp L f0 h0 u1 u2 u3 u4) G cI cJ cZ cD cR cT (va_A (va_pl L f0) sz) kp L) 0 0 (va_A (va_pl L f0) sz) := by
  refine metT (by decide) (Nat.le_of_ble_eq_true rfl) hTH ?_
  intro p e s m below meth c A ls E hW hl
  obtain ⟨hx, hb, -, hml, hown, hts, -, -, -⟩ := id E
  have hF : FM kp L ms_X11_field f0 f0 := FM.rf
  have hl : lv_has ls 7 [(0, .ref h0), (1, .int u1), (2, .int u2), (3, .int u3), (4, .int u4)] := hl
  refine lv_aload_n hx hb dX11_field_0 rfl (lv_at hl 0 rfl) ?_
  refine fg_RX11_12 E hW rh0 dX11_field_1 (fun a1523655 m1523656 r1523657 => ?_)
  refine fg_RX11_63 E hW r1523657 dX11_field_4 (fun a1523658 m1523659 r1523660 => ?_)
  refine lv_astore (lv' := [(5, .ref a1523658), (0, .ref h0), (1, .int u1), (2, .int u2), (3, .int u3), (4, .int u4)]) hx hb dX11_field_7 hl (by decide) rfl (fun ls hl => ?_)
  refine lv_iload_n hx hb dX11_field_9 rfl (lv_at hl 3 rfl) ?_
  refine lv_iconst (v := 1) hx hb dX11_field_10 (by decide) ?_
  refine lv_sipush (v := 1000) hx hb dX11_field_11 (by decide) ?_
  refine t_callS (As := [.int u2, .int 1, .int 1000]) (rest := []) E hW (c_X11_within l G cI cJ cZ cD cR cT kp L f0 hW.2.2.2 _ u2 1 1000 (by decide)) wk_X11_within tw_599 rfl ⟨Nat.le_of_ble_eq_true rfl, Nat.le_of_ble_eq_true rfl⟩ ⟨rfl, rfl⟩ hl.1 rfl (Nat.le_of_ble_eq_true rfl) dX11_field_14 ⟨Nat.le_of_ble_eq_true rfl, Nat.le_of_ble_eq_true rfl⟩ (fun v1523661 f1523662 H locs q1523663 hW => ?_)
  obtain ⟨⟨x1523665, rfl, p1523666⟩, g1523664⟩ := q1523663
  have p1523666 : (x1523665.toInt = 1 ∧ 1 ≤ u2.toInt ∧ u2.toInt ≤ 1000) ∨ (x1523665.toInt = 0 ∧ (u2.toInt < 1 ∨ 1000 < u2.toInt)) := p1523666
  have hF := FM.tr hF g1523664 rfl
  refine q_if_eq (tgt := 30) hx hb dX11_field_17 (by decide) rfl (fun c1523667 => ?_) (fun c1523667 => ?_)
  · have q1523668 : (u2.toInt < 1 ∨ 1000 < u2.toInt) := by omega
    clear p1523666
    refine lv_aload_n hx hb dX11_field_30 rfl (lv_at hl 1 rfl) ?_
    refine lv_iconst (v := (-1)) hx hb dX11_field_31 (by decide) ?_
    refine t_callV (As := [.int (-1)]) (rest := []) E hW (c_X11_refuse l G cI cJ cZ cD cR cT kp L f1523662 hW.2.2.2 _ h0 (-1) rh0 (by decide)) rh0 (by decide) rfl wk_X11_refuse tw_603 rfl ⟨Nat.le_of_ble_eq_true rfl, Nat.le_of_ble_eq_true rfl⟩ ⟨rfl, rfl⟩ hl.1 rfl (Nat.le_of_ble_eq_true rfl) dX11_field_32 ⟨Nat.le_of_ble_eq_true rfl, Nat.le_of_ble_eq_true rfl⟩ (fun v1523669 f1523670 H locs q1523671 hW => ?_)
    obtain ⟨⟨x1523673, rfl, p1523674⟩, g1523672⟩ := q1523671
    have p1523674 : (-6 : Int) ≤ x1523673.toInt ∧ x1523673.toInt ≤ -1 := p1523674
    have hF := FM.tr hF g1523672 rfl
    exact e_I E hW rfl ⟨⟨_, rfl, trivial⟩, hF⟩ dX11_field_35
  · have q1523675 : 1 ≤ u2.toInt ∧ u2.toInt ≤ 1000 := by omega
    clear p1523666
    refine lv_iload_n hx hb dX11_field_20 rfl (lv_at hl 4 rfl) ?_
    refine lv_iconst (v := 0) hx hb dX11_field_21 (by decide) ?_
    refine lv_ldc (v := 100000) hx hb hown (hts _ tw_658) dX11_field_22 ?_
    refine t_callS (As := [.int u3, .int 0, .int 100000]) (rest := []) E hW (c_X11_within l G cI cJ cZ cD cR cT kp L f1523662 hW.2.2.2 _ u3 0 100000 (by decide)) wk_X11_within tw_599 rfl ⟨Nat.le_of_ble_eq_true rfl, Nat.le_of_ble_eq_true rfl⟩ ⟨rfl, rfl⟩ hl.1 rfl (Nat.le_of_ble_eq_true rfl) dX11_field_24 ⟨Nat.le_of_ble_eq_true rfl, Nat.le_of_ble_eq_true rfl⟩ (fun v1523676 f1523677 H locs q1523678 hW => ?_)
    obtain ⟨⟨x1523680, rfl, p1523681⟩, g1523679⟩ := q1523678
    have p1523681 : (x1523680.toInt = 1 ∧ 0 ≤ u3.toInt ∧ u3.toInt ≤ 100000) ∨ (x1523680.toInt = 0 ∧ (u3.toInt < 0 ∨ 100000 < u3.toInt)) := p1523681
    have hF := FM.tr hF g1523679 rfl
    refine q_if_ne (tgt := 36) hx hb dX11_field_27 (by decide) rfl (fun c1523682 => ?_) (fun c1523682 => ?_)
    · have q1523683 : 0 ≤ u3.toInt ∧ u3.toInt ≤ 100000 := by omega
      clear p1523681
      refine lv_aload_n hx hb dX11_field_36 rfl (lv_at hl 1 rfl) ?_
      refine fg_RX11_12 E hW rh0 dX11_field_37 (fun a1523684 m1523685 r1523686 => ?_)
      obtain rfl : a1523655 = a1523684 := (((fm_R g1523679 rh0 rfl).trans ((fm_R g1523664 rh0 rfl).trans m1523656))).symm.trans m1523685
      refine fg_RX11_114 E hW r1523657 dX11_field_40 (fun a1523687 m1523688 r1523689 => ?_)
      refine lv_iload_n hx hb dX11_field_43 rfl (lv_at hl 2 rfl) ?_
      refine t_callV (As := [.int u1]) (rest := []) E hW (c_X1_hasEstate l G cI cJ cZ cD cR cT kp L f1523677 hW.2.2.2 _ a1523687 u1 r1523689) r1523689 (by decide) rfl wk_X1_hasEstate tw_659 rfl ⟨Nat.le_of_ble_eq_true rfl, Nat.le_of_ble_eq_true rfl⟩ ⟨rfl, rfl⟩ hl.1 rfl (Nat.le_of_ble_eq_true rfl) dX11_field_44 ⟨Nat.le_of_ble_eq_true rfl, Nat.le_of_ble_eq_true rfl⟩ (fun v1523690 f1523691 H locs q1523692 hW => ?_)
      obtain ⟨⟨x1523694, rfl, p1523695⟩, g1523693⟩ := q1523692
      have hF := FM.tr hF g1523693 rfl
      refine q_if_eq (tgt := 66) hx hb dX11_field_47 (by decide) rfl (fun c1523696 => ?_) (fun c1523696 => ?_)
      · clear p1523695
        refine lv_aload_n hx hb dX11_field_66 rfl (lv_at hl 1 rfl) ?_
        refine lv_bipush (v := (-2)) hx hb dX11_field_67 (by decide) ?_
        refine t_callV (As := [.int (-2)]) (rest := []) E hW (c_X11_refuse l G cI cJ cZ cD cR cT kp L f1523691 hW.2.2.2 _ h0 (-2) rh0 (by decide)) rh0 (by decide) rfl wk_X11_refuse tw_603 rfl ⟨Nat.le_of_ble_eq_true rfl, Nat.le_of_ble_eq_true rfl⟩ ⟨rfl, rfl⟩ hl.1 rfl (Nat.le_of_ble_eq_true rfl) dX11_field_69 ⟨Nat.le_of_ble_eq_true rfl, Nat.le_of_ble_eq_true rfl⟩ (fun v1523697 f1523698 H locs q1523699 hW => ?_)
        obtain ⟨⟨x1523701, rfl, p1523702⟩, g1523700⟩ := q1523699
        have p1523702 : (-6 : Int) ≤ x1523701.toInt ∧ x1523701.toInt ≤ -1 := p1523702
        have hF := FM.tr hF g1523700 rfl
        exact e_I E hW rfl ⟨⟨_, rfl, trivial⟩, hF⟩ dX11_field_72
      · have q1523703 : 0 ≤ u1.toInt ∧ u1.toInt ≤ 7 := by omega
        clear p1523695
        refine lv_iload hx hb dX11_field_50 (lv_at hl 5 rfl) ?_
        refine lv_iconst (v := (-1)) hx hb dX11_field_52 (by decide) ?_
        refine q_icmp_eq (Y := -1) (tgt := 73) hx hb dX11_field_53 (by decide) rfl rfl (fun c1523704 => ?_) (fun c1523704 => ?_)
        · refine lv_iload hx hb dX11_field_73 (lv_at hl 5 rfl) ?_
          refine lv_iconst (v := (-1)) hx hb dX11_field_75 (by decide) ?_
          refine q_icmp_eq (Y := -1) (tgt := 97) hx hb dX11_field_76 (by decide) rfl rfl (fun c1523705 => ?_) (fun c1523705 => ?_)
          · refine lv_aload_n hx hb dX11_field_97 rfl (lv_at hl 1 rfl) ?_
            refine fg_RX11_12 E hW rh0 dX11_field_98 (fun a1523706 m1523707 r1523708 => ?_)
            obtain rfl : a1523655 = a1523706 := (((fm_R g1523693 rh0 rfl).trans m1523685)).symm.trans m1523707
            refine fg_RX11_114 E hW r1523657 dX11_field_101 (fun a1523709 m1523710 r1523711 => ?_)
            obtain rfl : a1523687 = a1523709 := (((fm_R g1523693 r1523657 rfl).trans m1523688)).symm.trans m1523710
            refine fg_RX11_130 E hW r1523689 dX11_field_104 (fun y1523712 m1523713 b1523714 => ?_)
            refine lv_bipush (v := 40) hx hb dX11_field_107 (by decide) ?_
            refine q_icmp_lt (Y := 40) (tgt := 119) hx hb dX11_field_109 (by decide) rfl rfl (fun c1523715 => ?_) (fun c1523715 => ?_)
            · refine lv_aload_n hx hb dX11_field_119 rfl (lv_at hl 1 rfl) ?_
              refine fg_RX11_12 E hW rh0 dX11_field_120 (fun a1523716 m1523717 r1523718 => ?_)
              obtain rfl : a1523655 = a1523716 := (m1523707).symm.trans m1523717
              refine fg_RX11_114 E hW r1523657 dX11_field_123 (fun a1523719 m1523720 r1523721 => ?_)
              obtain rfl : a1523687 = a1523719 := (m1523710).symm.trans m1523720
              refine lv_iload_n hx hb dX11_field_126 rfl (lv_at hl 2 rfl) ?_
              refine lv_iload_n hx hb dX11_field_127 rfl (lv_at hl 3 rfl) ?_
              refine lv_iload_n hx hb dX11_field_128 rfl (lv_at hl 4 rfl) ?_
              refine t_callV (As := [.int u1, .int u2, .int u3]) (rest := []) E hW (c_X1_addField l G cI cJ cZ cD cR cT kp L f1523691 hW.2.2.2 _ a1523687 u1 u2 u3 r1523689 (by omega) (by omega) (by omega)) r1523689 (by decide) rfl wk_X1_addField tw_663 rfl ⟨Nat.le_of_ble_eq_true rfl, Nat.le_of_ble_eq_true rfl⟩ ⟨rfl, rfl⟩ hl.1 rfl (Nat.le_of_ble_eq_true rfl) dX11_field_129 ⟨Nat.le_of_ble_eq_true rfl, Nat.le_of_ble_eq_true rfl⟩ (fun v1523722 f1523723 H locs q1523724 hW => ?_)
              obtain ⟨⟨x1523726, rfl, p1523727⟩, g1523725⟩ := q1523724
              rw [m1523713] at p1523727
              have q1523728 : 0 ≤ x1523726.toInt := by omega
              have hF := FM.tr hF g1523725 rfl
              refine lv_istore (lv' := [(6, .int x1523726), (5, .ref a1523658), (0, .ref h0), (1, .int u1), (2, .int u2), (3, .int u3), (4, .int u4)]) hx hb dX11_field_132 hl (by decide) rfl (fun ls hl => ?_)
              refine lv_iload hx hb dX11_field_134 (lv_at hl 6 rfl) ?_
              refine lv_iconst (v := (-1)) hx hb dX11_field_136 (by decide) ?_
              refine q_icmp_eq (Y := -1) (tgt := 152) hx hb dX11_field_137 (by decide) rfl rfl (fun c1523729 => ?_) (fun c1523729 => ?_)
              · refine lv_aload_n hx hb dX11_field_152 rfl (lv_at hl 2 rfl) ?_
                refine lv_iload hx hb dX11_field_153 (lv_at hl 0 rfl) ?_
                refine t_callV (As := [.int x1523726]) (rest := []) E hW (c_X11_accept l G cI cJ cZ cD cR cT kp L f1523723 hW.2.2.2 _ h0 x1523726 rh0) rh0 (by decide) rfl wk_X11_accept tw_611 rfl ⟨Nat.le_of_ble_eq_true rfl, Nat.le_of_ble_eq_true rfl⟩ ⟨rfl, rfl⟩ hl.1 rfl (Nat.le_of_ble_eq_true rfl) dX11_field_155 ⟨Nat.le_of_ble_eq_true rfl, Nat.le_of_ble_eq_true rfl⟩ (fun v1523730 f1523731 H locs q1523732 hW => ?_)
                obtain ⟨⟨x1523734, rfl, p1523735⟩, g1523733⟩ := q1523732
                clear p1523735
                have hF := FM.tr hF g1523733 rfl
                exact e_I E hW rfl ⟨⟨_, rfl, trivial⟩, hF⟩ dX11_field_158
              · exfalso; omega
            · refine lv_aload_n hx hb dX11_field_112 rfl (lv_at hl 1 rfl) ?_
              refine lv_bipush (v := (-5)) hx hb dX11_field_113 (by decide) ?_
              refine t_callV (As := [.int (-5)]) (rest := []) E hW (c_X11_refuse l G cI cJ cZ cD cR cT kp L f1523691 hW.2.2.2 _ h0 (-5) rh0 (by decide)) rh0 (by decide) rfl wk_X11_refuse tw_603 rfl ⟨Nat.le_of_ble_eq_true rfl, Nat.le_of_ble_eq_true rfl⟩ ⟨rfl, rfl⟩ hl.1 rfl (Nat.le_of_ble_eq_true rfl) dX11_field_115 ⟨Nat.le_of_ble_eq_true rfl, Nat.le_of_ble_eq_true rfl⟩ (fun v1523736 f1523737 H locs q1523738 hW => ?_)
              obtain ⟨⟨x1523740, rfl, p1523741⟩, g1523739⟩ := q1523738
              have p1523741 : (-6 : Int) ≤ x1523740.toInt ∧ x1523740.toInt ≤ -1 := p1523741
              have hF := FM.tr hF g1523739 rfl
              exact e_I E hW rfl ⟨⟨_, rfl, trivial⟩, hF⟩ dX11_field_118
          · exfalso; omega
        · refine lv_aload hx hb dX11_field_56 (lv_at hl 0 rfl) ?_
          refine lv_iload hx hb dX11_field_58 (lv_at hl 5 rfl) ?_
          refine t_callV (As := [.int u4]) (rest := []) E hW (c_X4_has l G cI cJ cZ cD cR cT kp L f1523691 hW.2.2.2 _ a1523658 u4 r1523660) r1523660 (by decide) rfl wk_X4_has tw_619 rfl ⟨Nat.le_of_ble_eq_true rfl, Nat.le_of_ble_eq_true rfl⟩ ⟨rfl, rfl⟩ hl.1 rfl (Nat.le_of_ble_eq_true rfl) dX11_field_60 ⟨Nat.le_of_ble_eq_true rfl, Nat.le_of_ble_eq_true rfl⟩ (fun v1523742 f1523743 H locs q1523744 hW => ?_)
          obtain ⟨⟨x1523746, rfl, p1523747⟩, g1523745⟩ := q1523744
          have hF := FM.tr hF g1523745 rfl
          refine q_if_ne (tgt := 73) hx hb dX11_field_63 (by decide) rfl (fun c1523748 => ?_) (fun c1523748 => ?_)
          · have q1523749 : 0 ≤ u4.toInt ∧ u4.toInt ≤ 39 := by omega
            clear p1523747
            refine lv_iload hx hb dX11_field_73 (lv_at hl 5 rfl) ?_
            refine lv_iconst (v := (-1)) hx hb dX11_field_75 (by decide) ?_
            refine q_icmp_eq (Y := -1) (tgt := 97) hx hb dX11_field_76 (by decide) rfl rfl (fun c1523750 => ?_) (fun c1523750 => ?_)
            · exfalso; omega
            · refine lv_aload hx hb dX11_field_79 (lv_at hl 0 rfl) ?_
              refine fg_RX11_87 E hW r1523660 dX11_field_81 (fun a1523751 m1523752 r1523753 => ?_)
              refine lv_iload hx hb dX11_field_84 (lv_at hl 5 rfl) ?_
              refine gl_346 E hW r1523753 ⟨by omega, by omega⟩ dX11_field_86 (fun y1523754 m1523755 => ?_)
              refine q_if_eq (tgt := 97) hx hb dX11_field_87 (by decide) rfl (fun c1523757 => ?_) (fun c1523757 => ?_)
              · refine lv_aload_n hx hb dX11_field_97 rfl (lv_at hl 1 rfl) ?_
                refine fg_RX11_12 E hW rh0 dX11_field_98 (fun a1523758 m1523759 r1523760 => ?_)
                obtain rfl : a1523655 = a1523758 := (((fm_R g1523745 rh0 rfl).trans ((fm_R g1523693 rh0 rfl).trans m1523685))).symm.trans m1523759
                refine fg_RX11_114 E hW r1523657 dX11_field_101 (fun a1523761 m1523762 r1523763 => ?_)
                obtain rfl : a1523687 = a1523761 := (((fm_R g1523745 r1523657 rfl).trans ((fm_R g1523693 r1523657 rfl).trans m1523688))).symm.trans m1523762
                refine fg_RX11_130 E hW r1523689 dX11_field_104 (fun y1523764 m1523765 b1523766 => ?_)
                refine lv_bipush (v := 40) hx hb dX11_field_107 (by decide) ?_
                refine q_icmp_lt (Y := 40) (tgt := 119) hx hb dX11_field_109 (by decide) rfl rfl (fun c1523767 => ?_) (fun c1523767 => ?_)
                · refine lv_aload_n hx hb dX11_field_119 rfl (lv_at hl 1 rfl) ?_
                  refine fg_RX11_12 E hW rh0 dX11_field_120 (fun a1523768 m1523769 r1523770 => ?_)
                  obtain rfl : a1523655 = a1523768 := (m1523759).symm.trans m1523769
                  refine fg_RX11_114 E hW r1523657 dX11_field_123 (fun a1523771 m1523772 r1523773 => ?_)
                  obtain rfl : a1523687 = a1523771 := (m1523762).symm.trans m1523772
                  refine lv_iload_n hx hb dX11_field_126 rfl (lv_at hl 2 rfl) ?_
                  refine lv_iload_n hx hb dX11_field_127 rfl (lv_at hl 3 rfl) ?_
                  refine lv_iload_n hx hb dX11_field_128 rfl (lv_at hl 4 rfl) ?_
                  refine t_callV (As := [.int u1, .int u2, .int u3]) (rest := []) E hW (c_X1_addField l G cI cJ cZ cD cR cT kp L f1523743 hW.2.2.2 _ a1523687 u1 u2 u3 r1523689 (by omega) (by omega) (by omega)) r1523689 (by decide) rfl wk_X1_addField tw_663 rfl ⟨Nat.le_of_ble_eq_true rfl, Nat.le_of_ble_eq_true rfl⟩ ⟨rfl, rfl⟩ hl.1 rfl (Nat.le_of_ble_eq_true rfl) dX11_field_129 ⟨Nat.le_of_ble_eq_true rfl, Nat.le_of_ble_eq_true rfl⟩ (fun v1523774 f1523775 H locs q1523776 hW => ?_)
                  obtain ⟨⟨x1523778, rfl, p1523779⟩, g1523777⟩ := q1523776
                  rw [m1523765] at p1523779
                  have q1523780 : 0 ≤ x1523778.toInt := by omega
                  have hF := FM.tr hF g1523777 rfl
                  refine lv_istore (lv' := [(6, .int x1523778), (5, .ref a1523658), (0, .ref h0), (1, .int u1), (2, .int u2), (3, .int u3), (4, .int u4)]) hx hb dX11_field_132 hl (by decide) rfl (fun ls hl => ?_)
                  refine lv_iload hx hb dX11_field_134 (lv_at hl 6 rfl) ?_
                  refine lv_iconst (v := (-1)) hx hb dX11_field_136 (by decide) ?_
                  refine q_icmp_eq (Y := -1) (tgt := 152) hx hb dX11_field_137 (by decide) rfl rfl (fun c1523788 => ?_) (fun c1523788 => ?_)
                  · exfalso; omega
                  · refine lv_aload_n hx hb dX11_field_140 rfl (lv_at hl 2 rfl) ?_
                    refine fg_RX11_12 E hW rh0 dX11_field_141 (fun a1523789 m1523790 r1523791 => ?_)
                    obtain rfl : a1523655 = a1523789 := (((fm_R g1523777 rh0 rfl).trans m1523769)).symm.trans m1523790
                    refine lv_iload hx hb dX11_field_144 (lv_at hl 6 rfl) ?_
                    refine lv_iload hx hb dX11_field_146 (lv_at hl 0 rfl) ?_
                    refine lv_iconst (v := 0) hx hb dX11_field_148 (by decide) ?_
                    refine t_callV (As := [.int u4, .int x1523778, .int 0]) (rest := []) E hW (c_X0_settle l G cI cJ cZ cD cR cT kp L f1523775 hW.2.2.2 _ a1523655 u4 x1523778 0 r1523657 (by omega) (by omega) (by decide)) r1523657 (by decide) rfl wk_X0_settle tw_667 rfl ⟨Nat.le_of_ble_eq_true rfl, Nat.le_of_ble_eq_true rfl⟩ ⟨rfl, rfl⟩ hl.1 rfl (Nat.le_of_ble_eq_true rfl) dX11_field_149 ⟨Nat.le_of_ble_eq_true rfl, Nat.le_of_ble_eq_true rfl⟩ (fun v1523792 f1523793 H locs q1523794 hW => ?_)
                    obtain ⟨rfl, g1523795⟩ := q1523794
                    have hF := FM.tr hF g1523795 rfl
                    refine lv_aload_n hx hb dX11_field_152 rfl (lv_at hl 2 rfl) ?_
                    refine lv_iload hx hb dX11_field_153 (lv_at hl 0 rfl) ?_
                    refine t_callV (As := [.int x1523778]) (rest := []) E hW (c_X11_accept l G cI cJ cZ cD cR cT kp L f1523793 hW.2.2.2 _ h0 x1523778 rh0) rh0 (by decide) rfl wk_X11_accept tw_611 rfl ⟨Nat.le_of_ble_eq_true rfl, Nat.le_of_ble_eq_true rfl⟩ ⟨rfl, rfl⟩ hl.1 rfl (Nat.le_of_ble_eq_true rfl) dX11_field_155 ⟨Nat.le_of_ble_eq_true rfl, Nat.le_of_ble_eq_true rfl⟩ (fun v1523796 f1523797 H locs q1523798 hW => ?_)
                    obtain ⟨⟨x1523800, rfl, p1523801⟩, g1523799⟩ := q1523798
                    clear p1523801
                    have hF := FM.tr hF g1523799 rfl
                    exact e_I E hW rfl ⟨⟨_, rfl, trivial⟩, hF⟩ dX11_field_158
                · refine lv_aload_n hx hb dX11_field_112 rfl (lv_at hl 1 rfl) ?_
                  refine lv_bipush (v := (-5)) hx hb dX11_field_113 (by decide) ?_
                  refine t_callV (As := [.int (-5)]) (rest := []) E hW (c_X11_refuse l G cI cJ cZ cD cR cT kp L f1523743 hW.2.2.2 _ h0 (-5) rh0 (by decide)) rh0 (by decide) rfl wk_X11_refuse tw_603 rfl ⟨Nat.le_of_ble_eq_true rfl, Nat.le_of_ble_eq_true rfl⟩ ⟨rfl, rfl⟩ hl.1 rfl (Nat.le_of_ble_eq_true rfl) dX11_field_115 ⟨Nat.le_of_ble_eq_true rfl, Nat.le_of_ble_eq_true rfl⟩ (fun v1523802 f1523803 H locs q1523804 hW => ?_)
                  obtain ⟨⟨x1523806, rfl, p1523807⟩, g1523805⟩ := q1523804
                  have p1523807 : (-6 : Int) ≤ x1523806.toInt ∧ x1523806.toInt ≤ -1 := p1523807
                  have hF := FM.tr hF g1523805 rfl
                  exact e_I E hW rfl ⟨⟨_, rfl, trivial⟩, hF⟩ dX11_field_118
              · refine lv_aload_n hx hb dX11_field_90 rfl (lv_at hl 1 rfl) ?_
                refine lv_bipush (v := (-3)) hx hb dX11_field_91 (by decide) ?_
                refine t_callV (As := [.int (-3)]) (rest := []) E hW (c_X11_refuse l G cI cJ cZ cD cR cT kp L f1523743 hW.2.2.2 _ h0 (-3) rh0 (by decide)) rh0 (by decide) rfl wk_X11_refuse tw_603 rfl ⟨Nat.le_of_ble_eq_true rfl, Nat.le_of_ble_eq_true rfl⟩ ⟨rfl, rfl⟩ hl.1 rfl (Nat.le_of_ble_eq_true rfl) dX11_field_93 ⟨Nat.le_of_ble_eq_true rfl, Nat.le_of_ble_eq_true rfl⟩ (fun v1523808 f1523809 H locs q1523810 hW => ?_)
                obtain ⟨⟨x1523812, rfl, p1523813⟩, g1523811⟩ := q1523810
                have p1523813 : (-6 : Int) ≤ x1523812.toInt ∧ x1523812.toInt ≤ -1 := p1523813
                have hF := FM.tr hF g1523811 rfl
                exact e_I E hW rfl ⟨⟨_, rfl, trivial⟩, hF⟩ dX11_field_96
          · clear p1523747
            refine lv_aload_n hx hb dX11_field_66 rfl (lv_at hl 1 rfl) ?_
            refine lv_bipush (v := (-2)) hx hb dX11_field_67 (by decide) ?_
            refine t_callV (As := [.int (-2)]) (rest := []) E hW (c_X11_refuse l G cI cJ cZ cD cR cT kp L f1523743 hW.2.2.2 _ h0 (-2) rh0 (by decide)) rh0 (by decide) rfl wk_X11_refuse tw_603 rfl ⟨Nat.le_of_ble_eq_true rfl, Nat.le_of_ble_eq_true rfl⟩ ⟨rfl, rfl⟩ hl.1 rfl (Nat.le_of_ble_eq_true rfl) dX11_field_69 ⟨Nat.le_of_ble_eq_true rfl, Nat.le_of_ble_eq_true rfl⟩ (fun v1523814 f1523815 H locs q1523816 hW => ?_)
            obtain ⟨⟨x1523818, rfl, p1523819⟩, g1523817⟩ := q1523816
            have p1523819 : (-6 : Int) ≤ x1523818.toInt ∧ x1523818.toInt ≤ -1 := p1523819
            have hF := FM.tr hF g1523817 rfl
            exact e_I E hW rfl ⟨⟨_, rfl, trivial⟩, hF⟩ dX11_field_72
    · have q1523820 : (u3.toInt < 0 ∨ 100000 < u3.toInt) := by omega
      clear p1523681
      refine lv_aload_n hx hb dX11_field_30 rfl (lv_at hl 1 rfl) ?_
      refine lv_iconst (v := (-1)) hx hb dX11_field_31 (by decide) ?_
      refine t_callV (As := [.int (-1)]) (rest := []) E hW (c_X11_refuse l G cI cJ cZ cD cR cT kp L f1523677 hW.2.2.2 _ h0 (-1) rh0 (by decide)) rh0 (by decide) rfl wk_X11_refuse tw_603 rfl ⟨Nat.le_of_ble_eq_true rfl, Nat.le_of_ble_eq_true rfl⟩ ⟨rfl, rfl⟩ hl.1 rfl (Nat.le_of_ble_eq_true rfl) dX11_field_32 ⟨Nat.le_of_ble_eq_true rfl, Nat.le_of_ble_eq_true rfl⟩ (fun v1523821 f1523822 H locs q1523823 hW => ?_)
      obtain ⟨⟨x1523825, rfl, p1523826⟩, g1523824⟩ := q1523823
      have p1523826 : (-6 : Int) ≤ x1523825.toInt ∧ x1523825.toInt ≤ -1 := p1523826
      have hF := FM.tr hF g1523824 rfl
      exact e_I E hW rfl ⟨⟨_, rfl, trivial⟩, hF⟩ dX11_field_35
def ms_X11_force : List (Nat × Nat) := [(222, 0), (223, 0)]
def po_X11_force (kp : Nat → Nat) (L : List Nat) (f0 : Nat → va_E) (h0 : Nat) (u1 : Int32) (u2 : Int32) (u3 : Int32) : Option Value → (Nat → va_E) → Prop := fun v f => (∃ r : Int32, v = some (.int r) ∧ ((-1 : Int) ≤ r.toInt ∧ r.toInt ≤ 1)) ∧ FM kp L ms_X11_force f0 f
set_option maxHeartbeats 4000000 in
set_option maxRecDepth 100000 in
theorem c_X11_force (l : Launch) (G : va_G) (cI cJ cZ cD cR cT : ClassId) (kp : Nat → Nat) (L : List Nat) (f0 : Nat → va_E) (hTH : TH cI cJ cZ cD cR cT kp L f0) (sz : Nat) (h0 : Nat) (u1 : Int32) (u2 : Int32) (u3 : Int32) (rh0 : RK kp L h0 11) : Met l yX11_force (Cond.code yX11_force cX11_force 5 (some .int) :: wTab) ({ frames := 3, cells := 0, slots := 0, locals := 88 }) (va_Pc [.ref h0, .int u1, .int u2, .int u3] (PreW G (tys6 cI cJ cZ cD cR cT) (va_pl L f0) sz)) (QT (po_X11_force kp L f0 h0 u1 u2 u3) G cI cJ cZ cD cR cT (va_A (va_pl L f0) sz) kp L) 0 0 (va_A (va_pl L f0) sz) := by
  refine metT (by decide) (Nat.le_of_ble_eq_true rfl) hTH ?_
  intro p e s m below meth c A ls E hW hl
  obtain ⟨hx, hb, -, hml, hown, hts, -, -, -⟩ := id E
  have hF : FM kp L ms_X11_force f0 f0 := FM.rf
  have hl : lv_has ls 5 [(0, .ref h0), (1, .int u1), (2, .int u2), (3, .int u3)] := hl
  refine lv_aload_n hx hb dX11_force_0 rfl (lv_at hl 0 rfl) ?_
  refine fg_RX11_12 E hW rh0 dX11_force_1 (fun a1523827 m1523828 r1523829 => ?_)
  refine fg_RX11_219 E hW r1523829 dX11_force_4 (fun a1523830 m1523831 r1523832 => ?_)
  refine lv_astore (lv' := [(4, .ref a1523830), (0, .ref h0), (1, .int u1), (2, .int u2), (3, .int u3)]) hx hb dX11_force_7 hl (by decide) rfl (fun ls hl => ?_)
  refine lv_aload hx hb dX11_force_9 (lv_at hl 0 rfl) ?_
  refine lv_iload_n hx hb dX11_force_11 rfl (lv_at hl 2 rfl) ?_
  refine lv_iload_n hx hb dX11_force_12 rfl (lv_at hl 3 rfl) ?_
  refine t_callV (As := [.int u1, .int u2]) (rest := []) E hW (c_X2_has l G cI cJ cZ cD cR cT kp L f0 hW.2.2.2 _ a1523830 u1 u2 r1523832) r1523832 (by decide) rfl wk_X2_has tw_1062 rfl ⟨Nat.le_of_ble_eq_true rfl, Nat.le_of_ble_eq_true rfl⟩ ⟨rfl, rfl⟩ hl.1 rfl (Nat.le_of_ble_eq_true rfl) dX11_force_13 ⟨Nat.le_of_ble_eq_true rfl, Nat.le_of_ble_eq_true rfl⟩ (fun v1523833 f1523834 H locs q1523835 hW => ?_)
  obtain ⟨⟨x1523838, rfl, p1523839⟩, g1523836, h1523837⟩ := q1523835
  have hF := FM.tr hF g1523836 rfl
  refine q_if_eq (tgt := 26) hx hb dX11_force_16 (by decide) rfl (fun c1523840 => ?_) (fun c1523840 => ?_)
  · clear p1523839
    refine lv_iconst (v := (-1)) hx hb dX11_force_26 (by decide) ?_
    exact e_I E hW rfl ⟨⟨_, rfl, (by have hk : ((-1) : Int32).toInt = -1 := rfl; first | decide | omega)⟩, hF⟩ dX11_force_27
  · have q1523841 : 0 ≤ u1.toInt ∧ u1.toInt ≤ 19 ∧ 0 ≤ u2.toInt ∧ u2.toInt ≤ 11 ∧ x1523838.toInt = 1 := by omega
    clear p1523839
    refine lv_iload_n hx hb dX11_force_19 rfl (lv_at hl 4 rfl) ?_
    refine t_callS (As := [.int u3]) (rest := []) E hW (c_X11_isWeek l G cI cJ cZ cD cR cT kp L f1523834 hW.2.2.2 _ u3) wk_X11_isWeek tw_780 rfl ⟨Nat.le_of_ble_eq_true rfl, Nat.le_of_ble_eq_true rfl⟩ ⟨rfl, rfl⟩ hl.1 rfl (Nat.le_of_ble_eq_true rfl) dX11_force_20 ⟨Nat.le_of_ble_eq_true rfl, Nat.le_of_ble_eq_true rfl⟩ (fun v1523842 f1523843 H locs q1523844 hW => ?_)
    obtain ⟨⟨x1523846, rfl, p1523847⟩, g1523845⟩ := q1523844
    have hF := FM.tr hF g1523845 rfl
    refine q_if_ne (tgt := 28) hx hb dX11_force_23 (by decide) rfl (fun c1523848 => ?_) (fun c1523848 => ?_)
    · have q1523849 : 0 ≤ u3.toInt ∧ u3.toInt ≤ 399 := by omega
      clear p1523847
      refine lv_aload hx hb dX11_force_28 (lv_at hl 0 rfl) ?_
      refine lv_iload_n hx hb dX11_force_30 rfl (lv_at hl 4 rfl) ?_
      refine t_callV (As := [.int u3]) (rest := []) E hW (c_X2_mark l G cI cJ cZ cD cR cT kp L f1523843 hW.2.2.2 _ a1523830 u3 r1523832 (by omega)) r1523832 (by decide) rfl wk_X2_mark tw_1066 rfl ⟨Nat.le_of_ble_eq_true rfl, Nat.le_of_ble_eq_true rfl⟩ ⟨rfl, rfl⟩ hl.1 rfl (Nat.le_of_ble_eq_true rfl) dX11_force_31 ⟨Nat.le_of_ble_eq_true rfl, Nat.le_of_ble_eq_true rfl⟩ (fun v1523850 f1523851 H locs q1523852 hW => ?_)
      obtain ⟨rfl, g1523853⟩ := q1523852
      have hF := FM.tr hF g1523853 rfl
      refine lv_aload hx hb dX11_force_34 (lv_at hl 0 rfl) ?_
      refine lv_iload_n hx hb dX11_force_36 rfl (lv_at hl 2 rfl) ?_
      refine lv_iload_n hx hb dX11_force_37 rfl (lv_at hl 3 rfl) ?_
      refine t_callV (As := [.int u1, .int u2]) (rest := []) E hW (c_X2_isInForce l G cI cJ cZ cD cR cT kp L f1523851 hW.2.2.2 _ a1523830 u1 u2 r1523832 (by omega) (by omega)) r1523832 (by decide) rfl wk_X2_isInForce tw_1067 rfl ⟨Nat.le_of_ble_eq_true rfl, Nat.le_of_ble_eq_true rfl⟩ ⟨rfl, rfl⟩ hl.1 rfl (Nat.le_of_ble_eq_true rfl) dX11_force_38 ⟨Nat.le_of_ble_eq_true rfl, Nat.le_of_ble_eq_true rfl⟩ (fun v1523854 f1523855 H locs q1523856 hW => ?_)
      obtain ⟨⟨x1523858, rfl, p1523859⟩, g1523857⟩ := q1523856
      have hF := FM.tr hF g1523857 rfl
      have J1523862 : ∀ (y1523860 : Int32) (b1523861 : (0 : Int) ≤ y1523860.toInt ∧ y1523860.toInt ≤ 1) (H : Heap) (locs : List Loc) (ls : Array Slot), WS G cI cJ cZ cD cR cT A kp L f1523855 s H locs → FM kp L ms_X11_force f0 f1523855 → lv_has ls 5 [(4, .ref a1523830), (0, .ref h0), (1, .int u1), (2, .int u2), (3, .int u3)] → W p l e ({ frames := 3, cells := 0, slots := 0, locals := 88 }) s m ([.ref h0, .int u1, .int u2, .int u3] : List Value).toArray below meth c H locs 0 0 (MQ below (QT (po_X11_force kp L f0 h0 u1 u2 u3) G cI cJ cZ cD cR cT A kp L) ([.ref h0, .int u1, .int u2, .int u3] : List Value).toArray s 0 0 A) (F0 m 49 ls [.int y1523860]) := by
        intro y1523860 b1523861 H locs ls hW hF hl
        clear c1523840 c1523848 p1523859
        exact e_I E hW rfl ⟨⟨_, rfl, (by first | omega | trivial)⟩, hF⟩ dX11_force_49
      refine q_if_eq (tgt := 48) hx hb dX11_force_41 (by decide) rfl (fun c1523863 => ?_) (fun c1523863 => ?_)
      · refine lv_iconst (v := 0) hx hb dX11_force_48 (by decide) ?_
        exact J1523862 0 (by decide) _ _ _ hW hF (lv_sub hl [0, 1, 2, 3, 4] rfl)
      · refine lv_iconst (v := 1) hx hb dX11_force_44 (by decide) ?_
        refine lv_goto (tgt := 49) hx hb dX11_force_45 (by decide) ?_
        exact J1523862 1 (by decide) _ _ _ hW hF (lv_sub hl [0, 1, 2, 3, 4] rfl)
    · have q1523864 : (u3.toInt < 0 ∨ 399 < u3.toInt) := by omega
      clear p1523847
      refine lv_iconst (v := (-1)) hx hb dX11_force_26 (by decide) ?_
      exact e_I E hW rfl ⟨⟨_, rfl, (by have hk : ((-1) : Int32).toInt = -1 := rfl; first | decide | omega)⟩, hF⟩ dX11_force_27
def ms_X11_found : List (Nat × Nat) := []
def po_X11_found (kp : Nat → Nat) (L : List Nat) (f0 : Nat → va_E) (h0 : Nat) : Option Value → (Nat → va_E) → Prop := fun v f => (∃ r : Int32, v = some (.int r) ∧ ((-3 : Int) ≤ r.toInt ∧ r.toInt ≤ 39)) ∧ FM kp L ms_X11_found f0 f
set_option maxHeartbeats 4000000 in
set_option maxRecDepth 100000 in
theorem c_X11_found (l : Launch) (G : va_G) (cI cJ cZ cD cR cT : ClassId) (kp : Nat → Nat) (L : List Nat) (f0 : Nat → va_E) (hTH : TH cI cJ cZ cD cR cT kp L f0) (sz : Nat) (h0 : Nat) (rh0 : RK kp L h0 11) : Met l yX11_found (Cond.code yX11_found cX11_found 1 (some .int) :: wTab) ({ frames := 3, cells := 0, slots := 0, locals := 88 }) (va_Pc [.ref h0] (PreW G (tys6 cI cJ cZ cD cR cT) (va_pl L f0) sz)) (QT (po_X11_found kp L f0 h0) G cI cJ cZ cD cR cT (va_A (va_pl L f0) sz) kp L) 0 0 (va_A (va_pl L f0) sz) := by
  refine metT (by decide) (Nat.le_of_ble_eq_true rfl) hTH ?_
  intro p e s m below meth c A ls E hW hl
  obtain ⟨hx, hb, -, hml, hown, hts, -, -, -⟩ := id E
  have hF : FM kp L ms_X11_found f0 f0 := FM.rf
  have hl : lv_has ls 1 [(0, .ref h0)] := hl
  refine lv_aload_n hx hb dX11_found_0 rfl (lv_at hl 0 rfl) ?_
  refine fg_RX11_12 E hW rh0 dX11_found_1 (fun a1523865 m1523866 r1523867 => ?_)
  refine fg_RX11_114 E hW r1523867 dX11_found_4 (fun a1523868 m1523869 r1523870 => ?_)
  refine t_callV (As := []) (rest := []) E hW (c_X1_findAltered l G cI cJ cZ cD cR cT kp L f0 hW.2.2.2 _ a1523868 r1523870) r1523870 (by decide) rfl wk_X1_findAltered tw_1364 rfl ⟨Nat.le_of_ble_eq_true rfl, Nat.le_of_ble_eq_true rfl⟩ ⟨rfl, rfl⟩ hl.1 rfl (Nat.le_of_ble_eq_true rfl) dX11_found_7 ⟨Nat.le_of_ble_eq_true rfl, Nat.le_of_ble_eq_true rfl⟩ (fun v1523871 f1523872 H locs q1523873 hW => ?_)
  obtain ⟨⟨x1523875, rfl, p1523876⟩, g1523874⟩ := q1523873
  have hF := FM.tr hF g1523874 rfl
  exact e_I E hW rfl ⟨⟨_, rfl, (by first | omega | trivial)⟩, hF⟩ dX11_found_10
def ms_X11_fund : List (Nat × Nat) := []
def po_X11_fund (kp : Nat → Nat) (L : List Nat) (f0 : Nat → va_E) (h0 : Nat) : Option Value → (Nat → va_E) → Prop := fun v f => (∃ r : Int32, v = some (.int r) ∧ (True)) ∧ FM kp L ms_X11_fund f0 f
set_option maxHeartbeats 4000000 in
set_option maxRecDepth 100000 in
theorem c_X11_fund (l : Launch) (G : va_G) (cI cJ cZ cD cR cT : ClassId) (kp : Nat → Nat) (L : List Nat) (f0 : Nat → va_E) (hTH : TH cI cJ cZ cD cR cT kp L f0) (sz : Nat) (h0 : Nat) (rh0 : RK kp L h0 11) : Met l yX11_fund (Cond.code yX11_fund cX11_fund 1 (some .int) :: wTab) ({ frames := 1, cells := 0, slots := 0, locals := 40 }) (va_Pc [.ref h0] (PreW G (tys6 cI cJ cZ cD cR cT) (va_pl L f0) sz)) (QT (po_X11_fund kp L f0 h0) G cI cJ cZ cD cR cT (va_A (va_pl L f0) sz) kp L) 0 0 (va_A (va_pl L f0) sz) := by
  refine metT (by decide) (Nat.le_of_ble_eq_true rfl) hTH ?_
  intro p e s m below meth c A ls E hW hl
  obtain ⟨hx, hb, -, hml, hown, hts, -, -, -⟩ := id E
  have hF : FM kp L ms_X11_fund f0 f0 := FM.rf
  have hl : lv_has ls 1 [(0, .ref h0)] := hl
  refine lv_aload_n hx hb dX11_fund_0 rfl (lv_at hl 0 rfl) ?_
  refine fg_RX11_12 E hW rh0 dX11_fund_1 (fun a1523877 m1523878 r1523879 => ?_)
  refine fg_RX11_98 E hW r1523879 dX11_fund_4 (fun a1523880 m1523881 r1523882 => ?_)
  refine fg_RX11_102 E hW r1523882 dX11_fund_7 (fun y1523883 m1523884 => ?_)
  exact e_I E hW rfl ⟨⟨_, rfl, trivial⟩, hF⟩ dX11_fund_10
def ms_X11_give : List (Nat × Nat) := [(3, 0), (11, 15)]
def po_X11_give (kp : Nat → Nat) (L : List Nat) (f0 : Nat → va_E) (h0 : Nat) (u1 : Int32) : Option Value → (Nat → va_E) → Prop := fun v f => (∃ r : Int32, v = some (.int r) ∧ (True)) ∧ FM kp L ms_X11_give f0 f
set_option maxHeartbeats 4000000 in
set_option maxRecDepth 100000 in
theorem c_X11_give (l : Launch) (G : va_G) (cI cJ cZ cD cR cT : ClassId) (kp : Nat → Nat) (L : List Nat) (f0 : Nat → va_E) (hTH : TH cI cJ cZ cD cR cT kp L f0) (sz : Nat) (h0 : Nat) (u1 : Int32) (rh0 : RK kp L h0 11) : Met l yX11_give (Cond.code yX11_give cX11_give 3 (some .int) :: wTab) ({ frames := 2, cells := 0, slots := 0, locals := 62 }) (va_Pc [.ref h0, .int u1] (PreW G (tys6 cI cJ cZ cD cR cT) (va_pl L f0) sz)) (QT (po_X11_give kp L f0 h0 u1) G cI cJ cZ cD cR cT (va_A (va_pl L f0) sz) kp L) 0 0 (va_A (va_pl L f0) sz) := by
  refine metT (by decide) (Nat.le_of_ble_eq_true rfl) hTH ?_
  intro p e s m below meth c A ls E hW hl
  obtain ⟨hx, hb, -, hml, hown, hts, -, -, -⟩ := id E
  have hF : FM kp L ms_X11_give f0 f0 := FM.rf
  have hl : lv_has ls 3 [(0, .ref h0), (1, .int u1)] := hl
  refine lv_iload_n hx hb dX11_give_0 rfl (lv_at hl 1 rfl) ?_
  refine lv_iconst (v := 0) hx hb dX11_give_1 (by decide) ?_
  refine lv_ldc (v := 10000000) hx hb hown (hts _ tw_643) dX11_give_2 ?_
  refine t_callS (As := [.int u1, .int 0, .int 10000000]) (rest := []) E hW (c_X11_within l G cI cJ cZ cD cR cT kp L f0 hW.2.2.2 _ u1 0 10000000 (by decide)) wk_X11_within tw_599 rfl ⟨Nat.le_of_ble_eq_true rfl, Nat.le_of_ble_eq_true rfl⟩ ⟨rfl, rfl⟩ hl.1 rfl (Nat.le_of_ble_eq_true rfl) dX11_give_4 ⟨Nat.le_of_ble_eq_true rfl, Nat.le_of_ble_eq_true rfl⟩ (fun v1523886 f1523887 H locs q1523888 hW => ?_)
  obtain ⟨⟨x1523890, rfl, p1523891⟩, g1523889⟩ := q1523888
  have p1523891 : (x1523890.toInt = 1 ∧ 0 ≤ u1.toInt ∧ u1.toInt ≤ 10000000) ∨ (x1523890.toInt = 0 ∧ (u1.toInt < 0 ∨ 10000000 < u1.toInt)) := p1523891
  have hF := FM.tr hF g1523889 rfl
  refine q_if_ne (tgt := 16) hx hb dX11_give_7 (by decide) rfl (fun c1523892 => ?_) (fun c1523892 => ?_)
  · have q1523893 : 0 ≤ u1.toInt ∧ u1.toInt ≤ 10000000 := by omega
    clear p1523891
    refine lv_aload_n hx hb dX11_give_16 rfl (lv_at hl 0 rfl) ?_
    refine fg_RX11_12 E hW rh0 dX11_give_17 (fun a1523894 m1523895 r1523896 => ?_)
    refine fg_RX11_98 E hW r1523896 dX11_give_20 (fun a1523897 m1523898 r1523899 => ?_)
    refine lv_astore_n (lv' := [(2, .ref a1523897), (0, .ref h0), (1, .int u1)]) hx hb dX11_give_23 rfl hl (by decide) rfl (fun ls hl => ?_)
    refine lv_aload_n hx hb dX11_give_24 rfl (lv_at hl 0 rfl) ?_
    refine lv_aload_n hx hb dX11_give_25 rfl (lv_at hl 0 rfl) ?_
    refine fg_RX11_102 E hW r1523899 dX11_give_26 (fun y1523900 m1523901 => ?_)
    refine lv_iload_n hx hb dX11_give_29 rfl (lv_at hl 2 rfl) ?_
    refine u_iadd hx hb dX11_give_30 (fun x1523903 => ?_)
    refine lv_ldc (v := 100000000) hx hb hown (hts _ tw_644) dX11_give_31 ?_
    refine t_min (Y := 100000000) (own := RX11) E tw_645 ⟨tw_637, tw_115, tw_638⟩ hl.1 ⟨Nat.le_of_ble_eq_true rfl, Nat.le_of_ble_eq_true rfl⟩ ⟨Nat.le_of_ble_eq_true rfl, Nat.le_of_ble_eq_true rfl⟩ rfl rfl dX11_give_33 (fun x1523904 h1523905 => ?_)
    refine fp_RX11_102 E hW r1523899 dX11_give_36 (fun f1523906 H locs e1523907 n1523908 g1523909 hW => ?_)
    have hF := FM.tr hF g1523909 rfl
    refine lv_aload_n hx hb dX11_give_39 rfl (lv_at hl 1 rfl) ?_
    refine lv_aload_n hx hb dX11_give_40 rfl (lv_at hl 0 rfl) ?_
    refine fg_RX11_102 E hW r1523899 dX11_give_41 (fun y1523910 m1523911 => ?_)
    obtain rfl : x1523904 = y1523910 := (e1523907).symm.trans m1523911
    refine t_callV (As := [.int x1523904]) (rest := []) E hW (c_X11_accept l G cI cJ cZ cD cR cT kp L f1523906 hW.2.2.2 _ h0 x1523904 rh0) rh0 (by decide) rfl wk_X11_accept tw_611 rfl ⟨Nat.le_of_ble_eq_true rfl, Nat.le_of_ble_eq_true rfl⟩ ⟨rfl, rfl⟩ hl.1 rfl (Nat.le_of_ble_eq_true rfl) dX11_give_44 ⟨Nat.le_of_ble_eq_true rfl, Nat.le_of_ble_eq_true rfl⟩ (fun v1523913 f1523914 H locs q1523915 hW => ?_)
    obtain ⟨⟨x1523917, rfl, p1523918⟩, g1523916⟩ := q1523915
    clear p1523918
    have hF := FM.tr hF g1523916 rfl
    exact e_I E hW rfl ⟨⟨_, rfl, trivial⟩, hF⟩ dX11_give_47
  · have q1523919 : (u1.toInt < 0 ∨ 10000000 < u1.toInt) := by omega
    clear p1523891
    refine lv_aload_n hx hb dX11_give_10 rfl (lv_at hl 0 rfl) ?_
    refine lv_iconst (v := (-1)) hx hb dX11_give_11 (by decide) ?_
    refine t_callV (As := [.int (-1)]) (rest := []) E hW (c_X11_refuse l G cI cJ cZ cD cR cT kp L f1523887 hW.2.2.2 _ h0 (-1) rh0 (by decide)) rh0 (by decide) rfl wk_X11_refuse tw_603 rfl ⟨Nat.le_of_ble_eq_true rfl, Nat.le_of_ble_eq_true rfl⟩ ⟨rfl, rfl⟩ hl.1 rfl (Nat.le_of_ble_eq_true rfl) dX11_give_12 ⟨Nat.le_of_ble_eq_true rfl, Nat.le_of_ble_eq_true rfl⟩ (fun v1523920 f1523921 H locs q1523922 hW => ?_)
    obtain ⟨⟨x1523924, rfl, p1523925⟩, g1523923⟩ := q1523922
    have p1523925 : (-6 : Int) ≤ x1523924.toInt ∧ x1523924.toInt ≤ -1 := p1523925
    have hF := FM.tr hF g1523923 rfl
    exact e_I E hW rfl ⟨⟨_, rfl, trivial⟩, hF⟩ dX11_give_15
def ms_X11_go : List (Nat × Nat) := [(0, 6), (0, 12), (0, 13), (0, 14), (3, 0), (10, 0), (11, 15), (115, 0), (164, 0), (165, 0), (166, 0), (167, 0), (169, 0), (171, 0), (222, 0), (223, 0), (342, 0), (345, 0), (346, 0), (347, 0), (348, 0), (349, 0), (701, 0), (702, 0), (703, 0), (704, 0), (705, 0), (706, 0)]
def po_X11_go (kp : Nat → Nat) (L : List Nat) (f0 : Nat → va_E) (h0 : Nat) (u1 : Int32) : Option Value → (Nat → va_E) → Prop := fun v f => (∃ r : Int32, v = some (.int r) ∧ (True)) ∧ FM kp L ms_X11_go f0 f
set_option maxHeartbeats 4000000 in
set_option maxRecDepth 100000 in
theorem c_X11_go (l : Launch) (G : va_G) (cI cJ cZ cD cR cT : ClassId) (kp : Nat → Nat) (L : List Nat) (f0 : Nat → va_E) (hTH : TH cI cJ cZ cD cR cT kp L f0) (sz : Nat) (h0 : Nat) (u1 : Int32) (rh0 : RK kp L h0 11) : Met l yX11_go (Cond.code yX11_go cX11_go 3 (some .int) :: wTab) ({ frames := 7, cells := 0, slots := 0, locals := 191 }) (va_Pc [.ref h0, .int u1] (PreW G (tys6 cI cJ cZ cD cR cT) (va_pl L f0) sz)) (QT (po_X11_go kp L f0 h0 u1) G cI cJ cZ cD cR cT (va_A (va_pl L f0) sz) kp L) 0 0 (va_A (va_pl L f0) sz) := by
  refine metT (by decide) (Nat.le_of_ble_eq_true rfl) hTH ?_
  intro p e s m below meth c A ls E hW hl
  obtain ⟨hx, hb, -, hml, hown, hts, -, -, -⟩ := id E
  have hF : FM kp L ms_X11_go f0 f0 := FM.rf
  have hl : lv_has ls 3 [(0, .ref h0), (1, .int u1)] := hl
  refine lv_aload_n hx hb dX11_go_0 rfl (lv_at hl 0 rfl) ?_
  refine lv_iload_n hx hb dX11_go_1 rfl (lv_at hl 1 rfl) ?_
  refine t_callV (As := [.int u1]) (rest := []) E hW (c_X11_canGo l G cI cJ cZ cD cR cT kp L f0 hW.2.2.2 _ h0 u1 rh0) rh0 (by decide) rfl wk_X11_canGo tw_1110 rfl ⟨Nat.le_of_ble_eq_true rfl, Nat.le_of_ble_eq_true rfl⟩ ⟨rfl, rfl⟩ hl.1 rfl (Nat.le_of_ble_eq_true rfl) dX11_go_2 ⟨Nat.le_of_ble_eq_true rfl, Nat.le_of_ble_eq_true rfl⟩ (fun v1523926 f1523927 H locs q1523928 hW => ?_)
  obtain ⟨⟨x1523930, rfl, p1523931⟩, g1523929⟩ := q1523928
  have hF := FM.tr hF g1523929 rfl
  refine q_if_ne (tgt := 14) hx hb dX11_go_5 (by decide) rfl (fun c1523932 => ?_) (fun c1523932 => ?_)
  · have q1523933 : 1 ≤ u1.toInt ∧ u1.toInt ≤ 104 := by omega
    clear p1523931
    refine lv_iconst (v := 0) hx hb dX11_go_14 (by decide) ?_
    refine lv_istore_n (lv' := [(2, .int 0), (0, .ref h0), (1, .int u1)]) hx hb dX11_go_15 rfl hl (by decide) rfl (fun ls hl => ?_)
    have L1524392 : ∀ (n : Nat), ∀ (f1524389 : Nat → va_E) (y1524390 : Int32) (b1524391 : (0 : Int) ≤ y1524390.toInt ∧ y1524390.toInt ≤ 104) (hm : (105 : Int) - y1524390.toInt ≤ n) (H : Heap) (locs : List Loc) (ls : Array Slot), WS G cI cJ cZ cD cR cT A kp L f1524389 s H locs → FM kp L ms_X11_go f0 f1524389 → lv_has ls 3 [(2, .int y1524390), (0, .ref h0), (1, .int u1)] → W p l e ({ frames := 7, cells := 0, slots := 0, locals := 191 }) s m ([.ref h0, .int u1] : List Value).toArray below meth c H locs 0 0 (MQ below (QT (po_X11_go kp L f0 h0 u1) G cI cJ cZ cD cR cT A kp L) ([.ref h0, .int u1] : List Value).toArray s 0 0 A) (F0 m 16 ls []) := by
      intro n
      induction n with
      | zero =>
        intro f1524389 y1524390 b1524391 hm H locs ls hW hF hl
        have hz := i32_b y1524390
        exfalso; omega
      | succ n ih =>
        intro f1524389 y1524390 b1524391 hm H locs ls hW hF hl
        clear c1523932
        have ih16 := ih
        refine lv_iload_n hx hb dX11_go_16 rfl (lv_at hl 0 rfl) ?_
        refine lv_iload_n hx hb dX11_go_17 rfl (lv_at hl 2 rfl) ?_
        refine q_icmp_ge (tgt := 34) hx hb dX11_go_18 (by decide) rfl rfl (fun c1524402 => ?_) (fun c1524402 => ?_)
        · refine lv_aload_n hx hb dX11_go_34 rfl (lv_at hl 1 rfl) ?_
          refine lv_aload_n hx hb dX11_go_35 rfl (lv_at hl 1 rfl) ?_
          refine fg_RX11_12 E hW rh0 dX11_go_36 (fun a1524403 m1524404 r1524405 => ?_)
          refine fg_RX11_255 E hW r1524405 dX11_go_39 (fun y1524406 m1524407 b1524408 => ?_)
          refine t_callV (As := [.int y1524406]) (rest := []) E hW (c_X11_accept l G cI cJ cZ cD cR cT kp L f1524389 hW.2.2.2 _ h0 y1524406 rh0) rh0 (by decide) rfl wk_X11_accept tw_611 rfl ⟨Nat.le_of_ble_eq_true rfl, Nat.le_of_ble_eq_true rfl⟩ ⟨rfl, rfl⟩ hl.1 rfl (Nat.le_of_ble_eq_true rfl) dX11_go_42 ⟨Nat.le_of_ble_eq_true rfl, Nat.le_of_ble_eq_true rfl⟩ (fun v1524409 f1524410 H locs q1524411 hW => ?_)
          obtain ⟨⟨x1524413, rfl, p1524414⟩, g1524412⟩ := q1524411
          clear p1524414
          have hF := FM.tr hF g1524412 rfl
          exact e_I E hW rfl ⟨⟨_, rfl, trivial⟩, hF⟩ dX11_go_45
        · refine lv_aload_n hx hb dX11_go_21 rfl (lv_at hl 1 rfl) ?_
          refine fg_RX11_12 E hW rh0 dX11_go_22 (fun a1524415 m1524416 r1524417 => ?_)
          refine t_callV (As := []) (rest := []) E hW (c_X0_passWeek l G cI cJ cZ cD cR cT kp L f1524389 hW.2.2.2 _ a1524415 r1524417) r1524417 (by decide) rfl wk_X0_passWeek tw_1114 rfl ⟨Nat.le_of_ble_eq_true rfl, Nat.le_of_ble_eq_true rfl⟩ ⟨rfl, rfl⟩ hl.1 rfl (Nat.le_of_ble_eq_true rfl) dX11_go_25 ⟨Nat.le_of_ble_eq_true rfl, Nat.le_of_ble_eq_true rfl⟩ (fun v1524418 f1524419 H locs q1524420 hW => ?_)
          obtain ⟨rfl, g1524421⟩ := q1524420
          have hF := FM.tr hF g1524421 rfl
          refine q_iinc hx hb dX11_go_28 hl (k := 0) rfl rfl rfl (by omega) (by decide) (fun i1524422 ls h1524423 hl => ?_)
          have hl : lv_has ls 3 [(2, .int i1524422), (0, .ref h0), (1, .int u1)] := hl
          refine lv_goto (tgt := 16) hx hb dX11_go_31 (by decide) ?_
          exact ih16 f1524419 i1524422 (by omega) (by omega) _ _ _ hW hF (lv_sub hl [0, 1, 2] rfl)
    have hk1524424 : (0 : Int32).toInt = 0 := rfl
    exact L1524392 105 f1523927 0 (by decide) (by omega) _ _ _ hW hF (lv_sub hl [0, 1, 2] rfl)
  · clear p1523931
    refine lv_aload_n hx hb dX11_go_8 rfl (lv_at hl 0 rfl) ?_
    refine lv_iconst (v := (-1)) hx hb dX11_go_9 (by decide) ?_
    refine t_callV (As := [.int (-1)]) (rest := []) E hW (c_X11_refuse l G cI cJ cZ cD cR cT kp L f1523927 hW.2.2.2 _ h0 (-1) rh0 (by decide)) rh0 (by decide) rfl wk_X11_refuse tw_603 rfl ⟨Nat.le_of_ble_eq_true rfl, Nat.le_of_ble_eq_true rfl⟩ ⟨rfl, rfl⟩ hl.1 rfl (Nat.le_of_ble_eq_true rfl) dX11_go_10 ⟨Nat.le_of_ble_eq_true rfl, Nat.le_of_ble_eq_true rfl⟩ (fun v1524425 f1524426 H locs q1524427 hW => ?_)
    obtain ⟨⟨x1524429, rfl, p1524430⟩, g1524428⟩ := q1524427
    have p1524430 : (-6 : Int) ≤ x1524429.toInt ∧ x1524429.toInt ≤ -1 := p1524430
    have hF := FM.tr hF g1524428 rfl
    exact e_I E hW rfl ⟨⟨_, rfl, trivial⟩, hF⟩ dX11_go_13
def ms_X11_goes : List (Nat × Nat) := [(11, 15), (346, 0)]
def po_X11_goes (kp : Nat → Nat) (L : List Nat) (f0 : Nat → va_E) (h0 : Nat) (u1 : Int32) (u2 : Int32) : Option Value → (Nat → va_E) → Prop := fun v f => (∃ r : Int32, v = some (.int r) ∧ (True)) ∧ FM kp L ms_X11_goes f0 f
set_option maxHeartbeats 4000000 in
set_option maxRecDepth 100000 in
theorem c_X11_goes (l : Launch) (G : va_G) (cI cJ cZ cD cR cT : ClassId) (kp : Nat → Nat) (L : List Nat) (f0 : Nat → va_E) (hTH : TH cI cJ cZ cD cR cT kp L f0) (sz : Nat) (h0 : Nat) (u1 : Int32) (u2 : Int32) (rh0 : RK kp L h0 11) : Met l yX11_goes (Cond.code yX11_goes cX11_goes 4 (some .int) :: wTab) ({ frames := 2, cells := 0, slots := 0, locals := 62 }) (va_Pc [.ref h0, .int u1, .int u2] (PreW G (tys6 cI cJ cZ cD cR cT) (va_pl L f0) sz)) (QT (po_X11_goes kp L f0 h0 u1 u2) G cI cJ cZ cD cR cT (va_A (va_pl L f0) sz) kp L) 0 0 (va_A (va_pl L f0) sz) := by
  refine metT (by decide) (Nat.le_of_ble_eq_true rfl) hTH ?_
  intro p e s m below meth c A ls E hW hl
  obtain ⟨hx, hb, -, hml, hown, hts, -, -, -⟩ := id E
  have hF : FM kp L ms_X11_goes f0 f0 := FM.rf
  have hl : lv_has ls 4 [(0, .ref h0), (1, .int u1), (2, .int u2)] := hl
  refine lv_aload_n hx hb dX11_goes_0 rfl (lv_at hl 0 rfl) ?_
  refine fg_RX11_12 E hW rh0 dX11_goes_1 (fun a1524431 m1524432 r1524433 => ?_)
  refine fg_RX11_63 E hW r1524433 dX11_goes_4 (fun a1524434 m1524435 r1524436 => ?_)
  refine lv_astore_n (lv' := [(3, .ref a1524434), (0, .ref h0), (1, .int u1), (2, .int u2)]) hx hb dX11_goes_7 rfl hl (by decide) rfl (fun ls hl => ?_)
  refine lv_iload_n hx hb dX11_goes_8 rfl (lv_at hl 3 rfl) ?_
  refine lv_iconst (v := 0) hx hb dX11_goes_9 (by decide) ?_
  refine lv_iconst (v := 4) hx hb dX11_goes_10 (by decide) ?_
  refine t_callS (As := [.int u2, .int 0, .int 4]) (rest := []) E hW (c_X11_within l G cI cJ cZ cD cR cT kp L f0 hW.2.2.2 _ u2 0 4 (by decide)) wk_X11_within tw_599 rfl ⟨Nat.le_of_ble_eq_true rfl, Nat.le_of_ble_eq_true rfl⟩ ⟨rfl, rfl⟩ hl.1 rfl (Nat.le_of_ble_eq_true rfl) dX11_goes_11 ⟨Nat.le_of_ble_eq_true rfl, Nat.le_of_ble_eq_true rfl⟩ (fun v1524437 f1524438 H locs q1524439 hW => ?_)
  obtain ⟨⟨x1524441, rfl, p1524442⟩, g1524440⟩ := q1524439
  have p1524442 : (x1524441.toInt = 1 ∧ 0 ≤ u2.toInt ∧ u2.toInt ≤ 4) ∨ (x1524441.toInt = 0 ∧ (u2.toInt < 0 ∨ 4 < u2.toInt)) := p1524442
  have hF := FM.tr hF g1524440 rfl
  refine q_if_ne (tgt := 23) hx hb dX11_goes_14 (by decide) rfl (fun c1524443 => ?_) (fun c1524443 => ?_)
  · have q1524444 : 0 ≤ u2.toInt ∧ u2.toInt ≤ 4 := by omega
    clear p1524442
    refine lv_aload_n hx hb dX11_goes_23 rfl (lv_at hl 0 rfl) ?_
    refine lv_iload_n hx hb dX11_goes_24 rfl (lv_at hl 2 rfl) ?_
    refine t_callV (As := [.int u1]) (rest := []) E hW (c_X4_has l G cI cJ cZ cD cR cT kp L f1524438 hW.2.2.2 _ a1524434 u1 r1524436) r1524436 (by decide) rfl wk_X4_has tw_619 rfl ⟨Nat.le_of_ble_eq_true rfl, Nat.le_of_ble_eq_true rfl⟩ ⟨rfl, rfl⟩ hl.1 rfl (Nat.le_of_ble_eq_true rfl) dX11_goes_25 ⟨Nat.le_of_ble_eq_true rfl, Nat.le_of_ble_eq_true rfl⟩ (fun v1524445 f1524446 H locs q1524447 hW => ?_)
    obtain ⟨⟨x1524449, rfl, p1524450⟩, g1524448⟩ := q1524447
    have hF := FM.tr hF g1524448 rfl
    refine q_if_ne (tgt := 38) hx hb dX11_goes_28 (by decide) rfl (fun c1524451 => ?_) (fun c1524451 => ?_)
    · have q1524452 : 0 ≤ u1.toInt ∧ u1.toInt ≤ 39 := by omega
      clear p1524450
      refine lv_aload_n hx hb dX11_goes_38 rfl (lv_at hl 0 rfl) ?_
      refine fg_RX11_87 E hW r1524436 dX11_goes_39 (fun a1524453 m1524454 r1524455 => ?_)
      refine lv_iload_n hx hb dX11_goes_42 rfl (lv_at hl 2 rfl) ?_
      refine gl_346 E hW r1524455 ⟨by omega, by omega⟩ dX11_goes_43 (fun y1524456 m1524457 => ?_)
      refine lv_iconst (v := 4) hx hb dX11_goes_44 (by decide) ?_
      refine q_icmp_ne (Y := 4) (tgt := 55) hx hb dX11_goes_45 (by decide) rfl rfl (fun c1524459 => ?_) (fun c1524459 => ?_)
      · refine lv_aload_n hx hb dX11_goes_55 rfl (lv_at hl 0 rfl) ?_
        refine fg_RX11_87 E hW r1524436 dX11_goes_56 (fun a1524460 m1524461 r1524462 => ?_)
        obtain rfl : a1524453 = a1524460 := (m1524454).symm.trans m1524461
        refine lv_iload_n hx hb dX11_goes_59 rfl (lv_at hl 2 rfl) ?_
        refine lv_iload_n hx hb dX11_goes_60 rfl (lv_at hl 3 rfl) ?_
        refine gs_346 E hW r1524455 ⟨by omega, by omega⟩ dX11_goes_61 (fun f1524463 H locs e1524464 n1524465 g1524466 hW => ?_)
        have hF := FM.tr hF g1524466 rfl
        refine lv_aload_n hx hb dX11_goes_62 rfl (lv_at hl 1 rfl) ?_
        refine lv_iconst (v := 0) hx hb dX11_goes_63 (by decide) ?_
        refine t_callV (As := [.int 0]) (rest := []) E hW (c_X11_accept l G cI cJ cZ cD cR cT kp L f1524463 hW.2.2.2 _ h0 0 rh0) rh0 (by decide) rfl wk_X11_accept tw_611 rfl ⟨Nat.le_of_ble_eq_true rfl, Nat.le_of_ble_eq_true rfl⟩ ⟨rfl, rfl⟩ hl.1 rfl (Nat.le_of_ble_eq_true rfl) dX11_goes_64 ⟨Nat.le_of_ble_eq_true rfl, Nat.le_of_ble_eq_true rfl⟩ (fun v1524467 f1524468 H locs q1524469 hW => ?_)
        obtain ⟨⟨x1524471, rfl, p1524472⟩, g1524470⟩ := q1524469
        clear p1524472
        have hF := FM.tr hF g1524470 rfl
        exact e_I E hW rfl ⟨⟨_, rfl, trivial⟩, hF⟩ dX11_goes_67
      · refine lv_aload_n hx hb dX11_goes_48 rfl (lv_at hl 1 rfl) ?_
        refine lv_bipush (v := (-3)) hx hb dX11_goes_49 (by decide) ?_
        refine t_callV (As := [.int (-3)]) (rest := []) E hW (c_X11_refuse l G cI cJ cZ cD cR cT kp L f1524446 hW.2.2.2 _ h0 (-3) rh0 (by decide)) rh0 (by decide) rfl wk_X11_refuse tw_603 rfl ⟨Nat.le_of_ble_eq_true rfl, Nat.le_of_ble_eq_true rfl⟩ ⟨rfl, rfl⟩ hl.1 rfl (Nat.le_of_ble_eq_true rfl) dX11_goes_51 ⟨Nat.le_of_ble_eq_true rfl, Nat.le_of_ble_eq_true rfl⟩ (fun v1524473 f1524474 H locs q1524475 hW => ?_)
        obtain ⟨⟨x1524477, rfl, p1524478⟩, g1524476⟩ := q1524475
        have p1524478 : (-6 : Int) ≤ x1524477.toInt ∧ x1524477.toInt ≤ -1 := p1524478
        have hF := FM.tr hF g1524476 rfl
        exact e_I E hW rfl ⟨⟨_, rfl, trivial⟩, hF⟩ dX11_goes_54
    · clear p1524450
      refine lv_aload_n hx hb dX11_goes_31 rfl (lv_at hl 1 rfl) ?_
      refine lv_bipush (v := (-2)) hx hb dX11_goes_32 (by decide) ?_
      refine t_callV (As := [.int (-2)]) (rest := []) E hW (c_X11_refuse l G cI cJ cZ cD cR cT kp L f1524446 hW.2.2.2 _ h0 (-2) rh0 (by decide)) rh0 (by decide) rfl wk_X11_refuse tw_603 rfl ⟨Nat.le_of_ble_eq_true rfl, Nat.le_of_ble_eq_true rfl⟩ ⟨rfl, rfl⟩ hl.1 rfl (Nat.le_of_ble_eq_true rfl) dX11_goes_34 ⟨Nat.le_of_ble_eq_true rfl, Nat.le_of_ble_eq_true rfl⟩ (fun v1524479 f1524480 H locs q1524481 hW => ?_)
      obtain ⟨⟨x1524483, rfl, p1524484⟩, g1524482⟩ := q1524481
      have p1524484 : (-6 : Int) ≤ x1524483.toInt ∧ x1524483.toInt ≤ -1 := p1524484
      have hF := FM.tr hF g1524482 rfl
      exact e_I E hW rfl ⟨⟨_, rfl, trivial⟩, hF⟩ dX11_goes_37
  · have q1524485 : (u2.toInt < 0 ∨ 4 < u2.toInt) := by omega
    clear p1524442
    refine lv_aload_n hx hb dX11_goes_17 rfl (lv_at hl 1 rfl) ?_
    refine lv_iconst (v := (-1)) hx hb dX11_goes_18 (by decide) ?_
    refine t_callV (As := [.int (-1)]) (rest := []) E hW (c_X11_refuse l G cI cJ cZ cD cR cT kp L f1524438 hW.2.2.2 _ h0 (-1) rh0 (by decide)) rh0 (by decide) rfl wk_X11_refuse tw_603 rfl ⟨Nat.le_of_ble_eq_true rfl, Nat.le_of_ble_eq_true rfl⟩ ⟨rfl, rfl⟩ hl.1 rfl (Nat.le_of_ble_eq_true rfl) dX11_goes_19 ⟨Nat.le_of_ble_eq_true rfl, Nat.le_of_ble_eq_true rfl⟩ (fun v1524486 f1524487 H locs q1524488 hW => ?_)
    obtain ⟨⟨x1524490, rfl, p1524491⟩, g1524489⟩ := q1524488
    have p1524491 : (-6 : Int) ≤ x1524490.toInt ∧ x1524490.toInt ≤ -1 := p1524491
    have hF := FM.tr hF g1524489 rfl
    exact e_I E hW rfl ⟨⟨_, rfl, trivial⟩, hF⟩ dX11_goes_22
def ms_X11_gotOnPaper : List (Nat × Nat) := [(0, 6), (0, 9), (0, 12), (0, 13), (0, 14), (1, 0), (1, 8), (1, 12), (1, 13), (1, 14), (2, 0), (3, 0), (3, 1), (3, 2), (3, 3), (4, 0), (10, 0), (10, 7), (108, 0), (115, 0), (161, 0), (162, 0), (163, 0), (164, 0), (165, 0), (166, 0), (167, 0), (169, 0), (170, 0), (171, 0), (221, 0), (222, 0), (223, 0), (284, 0), (285, 0), (341, 0), (342, 0), (343, 0), (344, 0), (345, 0), (346, 0), (347, 0), (348, 0), (349, 0), (520, 0), (521, 0), (701, 0), (702, 0), (703, 0), (704, 0), (705, 0), (706, 0), (708, 0), (709, 0), (710, 0)]
def po_X11_gotOnPaper (kp : Nat → Nat) (L : List Nat) (f0 : Nat → va_E) (h0 : Nat) (u1 : Int32) (u2 : Nat) : Option Value → (Nat → va_E) → Prop := fun v f => (∃ r : Int64, v = some (.long r) ∧ (True)) ∧ FM kp L ms_X11_gotOnPaper f0 f
set_option maxHeartbeats 4000000 in
set_option maxRecDepth 100000 in
theorem c_X11_gotOnPaper (l : Launch) (G : va_G) (cI cJ cZ cD cR cT : ClassId) (kp : Nat → Nat) (L : List Nat) (f0 : Nat → va_E) (hTH : TH cI cJ cZ cD cR cT kp L f0) (sz : Nat) (h0 : Nat) (u1 : Int32) (u2 : Nat) (rh0 : RK kp L h0 11) (ru2 : RK kp L u2 9) : Met l yX11_gotOnPaper (Cond.code yX11_gotOnPaper cX11_gotOnPaper 4 (some .long) :: wTab) ({ frames := 7, cells := 0, slots := 0, locals := 191 }) (va_Pc [.ref h0, .int u1, .ref u2] (PreW G (tys6 cI cJ cZ cD cR cT) (va_pl L f0) sz)) (QT (po_X11_gotOnPaper kp L f0 h0 u1 u2) G cI cJ cZ cD cR cT (va_A (va_pl L f0) sz) kp L) 0 0 (va_A (va_pl L f0) sz) := by
  refine metT (by decide) (Nat.le_of_ble_eq_true rfl) hTH ?_
  intro p e s m below meth c A ls E hW hl
  obtain ⟨hx, hb, -, hml, hown, hts, -, -, -⟩ := id E
  have hF : FM kp L ms_X11_gotOnPaper f0 f0 := FM.rf
  have hl : lv_has ls 4 [(0, .ref h0), (1, .int u1), (2, .ref u2)] := hl
  refine lv_aload_n hx hb dX11_gotOnPaper_0 rfl (lv_at hl 0 rfl) ?_
  refine fg_RX11_18 E hW rh0 dX11_gotOnPaper_1 (fun a1524492 m1524493 r1524494 => ?_)
  refine lv_aload_n hx hb dX11_gotOnPaper_4 rfl (lv_at hl 0 rfl) ?_
  refine fg_RX11_12 E hW rh0 dX11_gotOnPaper_5 (fun a1524495 m1524496 r1524497 => ?_)
  refine t_callV (As := [.ref a1524495]) (rest := []) E hW (c_X0_copyFrom l G cI cJ cZ cD cR cT kp L f0 hW.2.2.2 _ a1524492 a1524495 r1524494 r1524497) r1524494 (by decide) rfl wk_X0_copyFrom tw_1285 rfl ⟨Nat.le_of_ble_eq_true rfl, Nat.le_of_ble_eq_true rfl⟩ ⟨rfl, rfl⟩ hl.1 rfl (Nat.le_of_ble_eq_true rfl) dX11_gotOnPaper_8 ⟨Nat.le_of_ble_eq_true rfl, Nat.le_of_ble_eq_true rfl⟩ (fun v1524498 f1524499 H locs q1524500 hW => ?_)
  obtain ⟨rfl, g1524501⟩ := q1524500
  have hF := FM.tr hF g1524501 rfl
  refine lv_aload_n hx hb dX11_gotOnPaper_11 rfl (lv_at hl 2 rfl) ?_
  refine lv_ifnull hx hb dX11_gotOnPaper_12 ?_
  refine lv_aload_n hx hb dX11_gotOnPaper_15 rfl (lv_at hl 0 rfl) ?_
  refine fg_RX11_18 E hW rh0 dX11_gotOnPaper_16 (fun a1524502 m1524503 r1524504 => ?_)
  obtain rfl : a1524492 = a1524502 := (((fm_R g1524501 rh0 rfl).trans m1524493)).symm.trans m1524503
  refine fg_RX11_219 E hW r1524494 dX11_gotOnPaper_19 (fun a1524505 m1524506 r1524507 => ?_)
  refine lv_aload_n hx hb dX11_gotOnPaper_22 rfl (lv_at hl 2 rfl) ?_
  refine t_callV (As := [.ref u2]) (rest := []) E hW (c_X2_add l G cI cJ cZ cD cR cT kp L f1524499 hW.2.2.2 _ a1524505 u2 r1524507 ru2) r1524507 (by decide) rfl wk_X2_add tw_1050 rfl ⟨Nat.le_of_ble_eq_true rfl, Nat.le_of_ble_eq_true rfl⟩ ⟨rfl, rfl⟩ hl.1 rfl (Nat.le_of_ble_eq_true rfl) dX11_gotOnPaper_23 ⟨Nat.le_of_ble_eq_true rfl, Nat.le_of_ble_eq_true rfl⟩ (fun v1524508 f1524509 H locs q1524510 hW => ?_)
  obtain ⟨⟨x1524512, rfl, p1524513⟩, g1524511⟩ := q1524510
  have hF := FM.tr hF g1524511 rfl
  refine lv_pop hx hb dX11_gotOnPaper_26 rfl ?_
  refine lv_iconst (v := 0) hx hb dX11_gotOnPaper_27 (by decide) ?_
  refine lv_istore_n (lv' := [(3, .int 0), (0, .ref h0), (1, .int u1), (2, .ref u2)]) hx hb dX11_gotOnPaper_28 rfl hl (by decide) rfl (fun ls hl => ?_)
  have L1525513 : ∀ (n : Nat), ∀ (f1525507 : Nat → va_E) (y1525511 : Int32) (m1525508 : oR (f1525507 a1524492) 4 = a1524505) (m1525509 : oR (f1525507 h0) 0 = a1524495) (m1525510 : oR (f1525507 h0) 1 = a1524492) (b1525512 : (0 : Int) ≤ y1525511.toInt) (hm : (2147483648 : Int) - y1525511.toInt ≤ n) (H : Heap) (locs : List Loc) (ls : Array Slot), WS G cI cJ cZ cD cR cT A kp L f1525507 s H locs → FM kp L ms_X11_gotOnPaper f0 f1525507 → lv_has ls 4 [(3, .int y1525511), (0, .ref h0), (1, .int u1), (2, .ref u2)] → W p l e ({ frames := 7, cells := 0, slots := 0, locals := 191 }) s m ([.ref h0, .int u1, .ref u2] : List Value).toArray below meth c H locs 0 0 (MQ below (QT (po_X11_gotOnPaper kp L f0 h0 u1 u2) G cI cJ cZ cD cR cT A kp L) ([.ref h0, .int u1, .ref u2] : List Value).toArray s 0 0 A) (F0 m 29 ls []) := by
    intro n
    induction n with
    | zero =>
      intro f1525507 y1525511 m1525508 m1525509 m1525510 b1525512 hm H locs ls hW hF hl
      have hz := i32_b y1525511
      exfalso; omega
    | succ n ih =>
      intro f1525507 y1525511 m1525508 m1525509 m1525510 b1525512 hm H locs ls hW hF hl
      clear p1524513
      have ih29 := ih
      refine lv_iload_n hx hb dX11_gotOnPaper_29 rfl (lv_at hl 0 rfl) ?_
      refine lv_iload_n hx hb dX11_gotOnPaper_30 rfl (lv_at hl 2 rfl) ?_
      refine q_icmp_ge (tgt := 47) hx hb dX11_gotOnPaper_31 (by decide) rfl rfl (fun c1525523 => ?_) (fun c1525523 => ?_)
      · refine lv_aload_n hx hb dX11_gotOnPaper_47 rfl (lv_at hl 1 rfl) ?_
        refine fg_RX11_18 E hW rh0 dX11_gotOnPaper_48 (fun a1525524 m1525525 r1525526 => ?_)
        obtain rfl : a1524492 = a1525524 := (m1525510).symm.trans m1525525
        refine fg_RX11_395 E hW r1524494 dX11_gotOnPaper_51 (fun y1525527 m1525528 => ?_)
        exact e_J E hW rfl ⟨⟨_, rfl, trivial⟩, hF⟩ dX11_gotOnPaper_54
      · have hb1525529 : y1525511.toInt ≤ 2147483646 := by have := i32_b u1; omega
        refine lv_aload_n hx hb dX11_gotOnPaper_34 rfl (lv_at hl 1 rfl) ?_
        refine fg_RX11_18 E hW rh0 dX11_gotOnPaper_35 (fun a1525530 m1525531 r1525532 => ?_)
        obtain rfl : a1524492 = a1525530 := (m1525510).symm.trans m1525531
        refine t_callV (As := []) (rest := []) E hW (c_X0_passWeek l G cI cJ cZ cD cR cT kp L f1525507 hW.2.2.2 _ a1524492 r1524494) r1524494 (by decide) rfl wk_X0_passWeek tw_1114 rfl ⟨Nat.le_of_ble_eq_true rfl, Nat.le_of_ble_eq_true rfl⟩ ⟨rfl, rfl⟩ hl.1 rfl (Nat.le_of_ble_eq_true rfl) dX11_gotOnPaper_38 ⟨Nat.le_of_ble_eq_true rfl, Nat.le_of_ble_eq_true rfl⟩ (fun v1525533 f1525534 H locs q1525535 hW => ?_)
        obtain ⟨rfl, g1525536⟩ := q1525535
        have hF := FM.tr hF g1525536 rfl
        refine q_iinc hx hb dX11_gotOnPaper_41 hl (k := 0) rfl rfl rfl (by omega) (by decide) (fun i1525537 ls h1525538 hl => ?_)
        have hl : lv_has ls 4 [(3, .int i1525537), (0, .ref h0), (1, .int u1), (2, .ref u2)] := hl
        refine lv_goto (tgt := 29) hx hb dX11_gotOnPaper_44 (by decide) ?_
        exact ih29 f1525534 i1525537 ((fm_R g1525536 r1524494 rfl).trans m1525508) ((fm_R g1525536 rh0 rfl).trans m1525509) ((fm_R g1525536 rh0 rfl).trans m1525531) (by omega) (by omega) _ _ _ hW hF (lv_sub hl [0, 1, 2, 3] rfl)
  have hk1525539 : (0 : Int32).toInt = 0 := rfl
  exact L1525513 2147483648 f1524509 0 ((fm_R g1524511 r1524494 rfl).trans m1524506) ((fm_R g1524511 rh0 rfl).trans ((fm_R g1524501 rh0 rfl).trans m1524496)) ((fm_R g1524511 rh0 rfl).trans m1524503) (by decide) (by omega) _ _ _ hW hF (lv_sub hl [0, 1, 2, 3] rfl)
def ms_X11_guard : List (Nat × Nat) := [(10, 7), (11, 15), (708, 0), (709, 0), (710, 0)]
def po_X11_guard (kp : Nat → Nat) (L : List Nat) (f0 : Nat → va_E) (h0 : Nat) (u1 : Int32) (u2 : Int32) (u3 : Int32) : Option Value → (Nat → va_E) → Prop := fun v f => (∃ r : Int32, v = some (.int r) ∧ (True)) ∧ FM kp L ms_X11_guard f0 f
set_option maxHeartbeats 4000000 in
set_option maxRecDepth 100000 in
theorem c_X11_guard (l : Launch) (G : va_G) (cI cJ cZ cD cR cT : ClassId) (kp : Nat → Nat) (L : List Nat) (f0 : Nat → va_E) (hTH : TH cI cJ cZ cD cR cT kp L f0) (sz : Nat) (h0 : Nat) (u1 : Int32) (u2 : Int32) (u3 : Int32) (rh0 : RK kp L h0 11) : Met l yX11_guard (Cond.code yX11_guard cX11_guard 5 (some .int) :: wTab) ({ frames := 2, cells := 0, slots := 0, locals := 63 }) (va_Pc [.ref h0, .int u1, .int u2, .int u3] (PreW G (tys6 cI cJ cZ cD cR cT) (va_pl L f0) sz)) (QT (po_X11_guard kp L f0 h0 u1 u2 u3) G cI cJ cZ cD cR cT (va_A (va_pl L f0) sz) kp L) 0 0 (va_A (va_pl L f0) sz) := by
  refine metT (by decide) (Nat.le_of_ble_eq_true rfl) hTH ?_
  intro p e s m below meth c A ls E hW hl
  obtain ⟨hx, hb, -, hml, hown, hts, -, -, -⟩ := id E
  have hF : FM kp L ms_X11_guard f0 f0 := FM.rf
  have hl : lv_has ls 5 [(0, .ref h0), (1, .int u1), (2, .int u2), (3, .int u3)] := hl
  refine lv_aload_n hx hb dX11_guard_0 rfl (lv_at hl 0 rfl) ?_
  refine fg_RX11_12 E hW rh0 dX11_guard_1 (fun a1525540 m1525541 r1525542 => ?_)
  refine fg_RX11_170 E hW r1525542 dX11_guard_4 (fun a1525543 m1525544 r1525545 => ?_)
  refine lv_astore (lv' := [(4, .ref a1525543), (0, .ref h0), (1, .int u1), (2, .int u2), (3, .int u3)]) hx hb dX11_guard_7 hl (by decide) rfl (fun ls hl => ?_)
  refine lv_iload_n hx hb dX11_guard_9 rfl (lv_at hl 3 rfl) ?_
  refine t_callS (As := [.int u2]) (rest := []) E hW (c_X11_isWeek l G cI cJ cZ cD cR cT kp L f0 hW.2.2.2 _ u2) wk_X11_isWeek tw_780 rfl ⟨Nat.le_of_ble_eq_true rfl, Nat.le_of_ble_eq_true rfl⟩ ⟨rfl, rfl⟩ hl.1 rfl (Nat.le_of_ble_eq_true rfl) dX11_guard_10 ⟨Nat.le_of_ble_eq_true rfl, Nat.le_of_ble_eq_true rfl⟩ (fun v1525546 f1525547 H locs q1525548 hW => ?_)
  obtain ⟨⟨x1525550, rfl, p1525551⟩, g1525549⟩ := q1525548
  have hF := FM.tr hF g1525549 rfl
  refine q_if_eq (tgt := 28) hx hb dX11_guard_13 (by decide) rfl (fun c1525552 => ?_) (fun c1525552 => ?_)
  · have q1525553 : (u2.toInt < 0 ∨ 399 < u2.toInt) := by omega
    clear p1525551
    refine lv_aload_n hx hb dX11_guard_28 rfl (lv_at hl 1 rfl) ?_
    refine lv_iconst (v := (-1)) hx hb dX11_guard_29 (by decide) ?_
    refine t_callV (As := [.int (-1)]) (rest := []) E hW (c_X11_refuse l G cI cJ cZ cD cR cT kp L f1525547 hW.2.2.2 _ h0 (-1) rh0 (by decide)) rh0 (by decide) rfl wk_X11_refuse tw_603 rfl ⟨Nat.le_of_ble_eq_true rfl, Nat.le_of_ble_eq_true rfl⟩ ⟨rfl, rfl⟩ hl.1 rfl (Nat.le_of_ble_eq_true rfl) dX11_guard_30 ⟨Nat.le_of_ble_eq_true rfl, Nat.le_of_ble_eq_true rfl⟩ (fun v1525554 f1525555 H locs q1525556 hW => ?_)
    obtain ⟨⟨x1525558, rfl, p1525559⟩, g1525557⟩ := q1525556
    have p1525559 : (-6 : Int) ≤ x1525558.toInt ∧ x1525558.toInt ≤ -1 := p1525559
    have hF := FM.tr hF g1525557 rfl
    exact e_I E hW rfl ⟨⟨_, rfl, trivial⟩, hF⟩ dX11_guard_33
  · have q1525560 : 0 ≤ u2.toInt ∧ u2.toInt ≤ 399 := by omega
    clear p1525551
    refine lv_iload_n hx hb dX11_guard_16 rfl (lv_at hl 4 rfl) ?_
    refine t_callS (As := [.int u3]) (rest := []) E hW (c_X11_isWeek l G cI cJ cZ cD cR cT kp L f1525547 hW.2.2.2 _ u3) wk_X11_isWeek tw_780 rfl ⟨Nat.le_of_ble_eq_true rfl, Nat.le_of_ble_eq_true rfl⟩ ⟨rfl, rfl⟩ hl.1 rfl (Nat.le_of_ble_eq_true rfl) dX11_guard_17 ⟨Nat.le_of_ble_eq_true rfl, Nat.le_of_ble_eq_true rfl⟩ (fun v1525561 f1525562 H locs q1525563 hW => ?_)
    obtain ⟨⟨x1525565, rfl, p1525566⟩, g1525564⟩ := q1525563
    have hF := FM.tr hF g1525564 rfl
    refine q_if_eq (tgt := 28) hx hb dX11_guard_20 (by decide) rfl (fun c1525567 => ?_) (fun c1525567 => ?_)
    · have q1525568 : (u3.toInt < 0 ∨ 399 < u3.toInt) := by omega
      clear p1525566
      refine lv_aload_n hx hb dX11_guard_28 rfl (lv_at hl 1 rfl) ?_
      refine lv_iconst (v := (-1)) hx hb dX11_guard_29 (by decide) ?_
      refine t_callV (As := [.int (-1)]) (rest := []) E hW (c_X11_refuse l G cI cJ cZ cD cR cT kp L f1525562 hW.2.2.2 _ h0 (-1) rh0 (by decide)) rh0 (by decide) rfl wk_X11_refuse tw_603 rfl ⟨Nat.le_of_ble_eq_true rfl, Nat.le_of_ble_eq_true rfl⟩ ⟨rfl, rfl⟩ hl.1 rfl (Nat.le_of_ble_eq_true rfl) dX11_guard_30 ⟨Nat.le_of_ble_eq_true rfl, Nat.le_of_ble_eq_true rfl⟩ (fun v1525569 f1525570 H locs q1525571 hW => ?_)
      obtain ⟨⟨x1525573, rfl, p1525574⟩, g1525572⟩ := q1525571
      have p1525574 : (-6 : Int) ≤ x1525573.toInt ∧ x1525573.toInt ≤ -1 := p1525574
      have hF := FM.tr hF g1525572 rfl
      exact e_I E hW rfl ⟨⟨_, rfl, trivial⟩, hF⟩ dX11_guard_33
    · have q1525575 : 0 ≤ u3.toInt ∧ u3.toInt ≤ 399 := by omega
      clear p1525566
      refine lv_iload_n hx hb dX11_guard_23 rfl (lv_at hl 3 rfl) ?_
      refine lv_iload_n hx hb dX11_guard_24 rfl (lv_at hl 4 rfl) ?_
      refine q_icmp_le (tgt := 34) hx hb dX11_guard_25 (by decide) rfl rfl (fun c1525576 => ?_) (fun c1525576 => ?_)
      · refine lv_aload_n hx hb dX11_guard_34 rfl (lv_at hl 1 rfl) ?_
        refine fg_RX11_12 E hW rh0 dX11_guard_35 (fun a1525577 m1525578 r1525579 => ?_)
        obtain rfl : a1525540 = a1525577 := (((fm_R g1525564 rh0 rfl).trans ((fm_R g1525549 rh0 rfl).trans m1525541))).symm.trans m1525578
        refine fg_RX11_114 E hW r1525542 dX11_guard_38 (fun a1525580 m1525581 r1525582 => ?_)
        refine lv_iload_n hx hb dX11_guard_41 rfl (lv_at hl 2 rfl) ?_
        refine t_callV (As := [.int u1]) (rest := []) E hW (c_X1_has l G cI cJ cZ cD cR cT kp L f1525562 hW.2.2.2 _ a1525580 u1 r1525582) r1525582 (by decide) rfl wk_X1_has tw_683 rfl ⟨Nat.le_of_ble_eq_true rfl, Nat.le_of_ble_eq_true rfl⟩ ⟨rfl, rfl⟩ hl.1 rfl (Nat.le_of_ble_eq_true rfl) dX11_guard_42 ⟨Nat.le_of_ble_eq_true rfl, Nat.le_of_ble_eq_true rfl⟩ (fun v1525583 f1525584 H locs q1525585 hW => ?_)
        obtain ⟨⟨x1525587, rfl, p1525588⟩, g1525586⟩ := q1525585
        have hF := FM.tr hF g1525586 rfl
        refine q_if_ne (tgt := 55) hx hb dX11_guard_45 (by decide) rfl (fun c1525589 => ?_) (fun c1525589 => ?_)
        · have q1525590 : 0 ≤ u1.toInt ∧ u1.toInt ≤ 39 := by omega
          clear p1525588
          refine lv_aload hx hb dX11_guard_55 (lv_at hl 0 rfl) ?_
          refine fg_RX11_264 E hW r1525545 dX11_guard_57 (fun y1525591 m1525592 b1525593 => ?_)
          refine lv_bipush (v := 40) hx hb dX11_guard_60 (by decide) ?_
          refine q_icmp_lt (Y := 40) (tgt := 72) hx hb dX11_guard_62 (by decide) rfl rfl (fun c1525594 => ?_) (fun c1525594 => ?_)
          · refine lv_aload hx hb dX11_guard_72 (lv_at hl 0 rfl) ?_
            refine lv_iload_n hx hb dX11_guard_74 rfl (lv_at hl 2 rfl) ?_
            refine lv_iload_n hx hb dX11_guard_75 rfl (lv_at hl 3 rfl) ?_
            refine lv_iload_n hx hb dX11_guard_76 rfl (lv_at hl 4 rfl) ?_
            refine t_callV (As := [.int u1, .int u2, .int u3]) (rest := []) E hW (c_X10_addGuard l G cI cJ cZ cD cR cT kp L f1525584 hW.2.2.2 _ a1525543 u1 u2 u3 r1525545 (by omega) (by omega) (by omega)) r1525545 (by decide) rfl wk_X10_addGuard tw_1097 rfl ⟨Nat.le_of_ble_eq_true rfl, Nat.le_of_ble_eq_true rfl⟩ ⟨rfl, rfl⟩ hl.1 rfl (Nat.le_of_ble_eq_true rfl) dX11_guard_77 ⟨Nat.le_of_ble_eq_true rfl, Nat.le_of_ble_eq_true rfl⟩ (fun v1525595 f1525596 H locs q1525597 hW => ?_)
            obtain ⟨rfl, g1525598⟩ := q1525597
            have hF := FM.tr hF g1525598 rfl
            refine lv_aload_n hx hb dX11_guard_80 rfl (lv_at hl 1 rfl) ?_
            refine lv_aload hx hb dX11_guard_81 (lv_at hl 0 rfl) ?_
            refine fg_RX11_264 E hW r1525545 dX11_guard_83 (fun y1525599 m1525600 b1525601 => ?_)
            refine t_callV (As := [.int y1525599]) (rest := []) E hW (c_X11_accept l G cI cJ cZ cD cR cT kp L f1525596 hW.2.2.2 _ h0 y1525599 rh0) rh0 (by decide) rfl wk_X11_accept tw_611 rfl ⟨Nat.le_of_ble_eq_true rfl, Nat.le_of_ble_eq_true rfl⟩ ⟨rfl, rfl⟩ hl.1 rfl (Nat.le_of_ble_eq_true rfl) dX11_guard_86 ⟨Nat.le_of_ble_eq_true rfl, Nat.le_of_ble_eq_true rfl⟩ (fun v1525602 f1525603 H locs q1525604 hW => ?_)
            obtain ⟨⟨x1525606, rfl, p1525607⟩, g1525605⟩ := q1525604
            clear p1525607
            have hF := FM.tr hF g1525605 rfl
            exact e_I E hW rfl ⟨⟨_, rfl, trivial⟩, hF⟩ dX11_guard_89
          · refine lv_aload_n hx hb dX11_guard_65 rfl (lv_at hl 1 rfl) ?_
            refine lv_bipush (v := (-5)) hx hb dX11_guard_66 (by decide) ?_
            refine t_callV (As := [.int (-5)]) (rest := []) E hW (c_X11_refuse l G cI cJ cZ cD cR cT kp L f1525584 hW.2.2.2 _ h0 (-5) rh0 (by decide)) rh0 (by decide) rfl wk_X11_refuse tw_603 rfl ⟨Nat.le_of_ble_eq_true rfl, Nat.le_of_ble_eq_true rfl⟩ ⟨rfl, rfl⟩ hl.1 rfl (Nat.le_of_ble_eq_true rfl) dX11_guard_68 ⟨Nat.le_of_ble_eq_true rfl, Nat.le_of_ble_eq_true rfl⟩ (fun v1525608 f1525609 H locs q1525610 hW => ?_)
            obtain ⟨⟨x1525612, rfl, p1525613⟩, g1525611⟩ := q1525610
            have p1525613 : (-6 : Int) ≤ x1525612.toInt ∧ x1525612.toInt ≤ -1 := p1525613
            have hF := FM.tr hF g1525611 rfl
            exact e_I E hW rfl ⟨⟨_, rfl, trivial⟩, hF⟩ dX11_guard_71
        · clear p1525588
          refine lv_aload_n hx hb dX11_guard_48 rfl (lv_at hl 1 rfl) ?_
          refine lv_bipush (v := (-2)) hx hb dX11_guard_49 (by decide) ?_
          refine t_callV (As := [.int (-2)]) (rest := []) E hW (c_X11_refuse l G cI cJ cZ cD cR cT kp L f1525584 hW.2.2.2 _ h0 (-2) rh0 (by decide)) rh0 (by decide) rfl wk_X11_refuse tw_603 rfl ⟨Nat.le_of_ble_eq_true rfl, Nat.le_of_ble_eq_true rfl⟩ ⟨rfl, rfl⟩ hl.1 rfl (Nat.le_of_ble_eq_true rfl) dX11_guard_51 ⟨Nat.le_of_ble_eq_true rfl, Nat.le_of_ble_eq_true rfl⟩ (fun v1525614 f1525615 H locs q1525616 hW => ?_)
          obtain ⟨⟨x1525618, rfl, p1525619⟩, g1525617⟩ := q1525616
          have p1525619 : (-6 : Int) ≤ x1525618.toInt ∧ x1525618.toInt ≤ -1 := p1525619
          have hF := FM.tr hF g1525617 rfl
          exact e_I E hW rfl ⟨⟨_, rfl, trivial⟩, hF⟩ dX11_guard_54
      · refine lv_aload_n hx hb dX11_guard_28 rfl (lv_at hl 1 rfl) ?_
        refine lv_iconst (v := (-1)) hx hb dX11_guard_29 (by decide) ?_
        refine t_callV (As := [.int (-1)]) (rest := []) E hW (c_X11_refuse l G cI cJ cZ cD cR cT kp L f1525562 hW.2.2.2 _ h0 (-1) rh0 (by decide)) rh0 (by decide) rfl wk_X11_refuse tw_603 rfl ⟨Nat.le_of_ble_eq_true rfl, Nat.le_of_ble_eq_true rfl⟩ ⟨rfl, rfl⟩ hl.1 rfl (Nat.le_of_ble_eq_true rfl) dX11_guard_30 ⟨Nat.le_of_ble_eq_true rfl, Nat.le_of_ble_eq_true rfl⟩ (fun v1525620 f1525621 H locs q1525622 hW => ?_)
        obtain ⟨⟨x1525624, rfl, p1525625⟩, g1525623⟩ := q1525622
        have p1525625 : (-6 : Int) ≤ x1525624.toInt ∧ x1525624.toInt ≤ -1 := p1525625
        have hF := FM.tr hF g1525623 rfl
        exact e_I E hW rfl ⟨⟨_, rfl, trivial⟩, hF⟩ dX11_guard_33
def ms_X11_heed : List (Nat × Nat) := [(11, 15), (344, 0)]
def po_X11_heed (kp : Nat → Nat) (L : List Nat) (f0 : Nat → va_E) (h0 : Nat) (u1 : Int32) (u2 : Int32) : Option Value → (Nat → va_E) → Prop := fun v f => (∃ r : Int32, v = some (.int r) ∧ (True)) ∧ FM kp L ms_X11_heed f0 f
set_option maxHeartbeats 4000000 in
set_option maxRecDepth 100000 in
theorem c_X11_heed (l : Launch) (G : va_G) (cI cJ cZ cD cR cT : ClassId) (kp : Nat → Nat) (L : List Nat) (f0 : Nat → va_E) (hTH : TH cI cJ cZ cD cR cT kp L f0) (sz : Nat) (h0 : Nat) (u1 : Int32) (u2 : Int32) (rh0 : RK kp L h0 11) : Met l yX11_heed (Cond.code yX11_heed cX11_heed 4 (some .int) :: wTab) ({ frames := 2, cells := 0, slots := 0, locals := 61 }) (va_Pc [.ref h0, .int u1, .int u2] (PreW G (tys6 cI cJ cZ cD cR cT) (va_pl L f0) sz)) (QT (po_X11_heed kp L f0 h0 u1 u2) G cI cJ cZ cD cR cT (va_A (va_pl L f0) sz) kp L) 0 0 (va_A (va_pl L f0) sz) := by
  refine metT (by decide) (Nat.le_of_ble_eq_true rfl) hTH ?_
  intro p e s m below meth c A ls E hW hl
  obtain ⟨hx, hb, -, hml, hown, hts, -, -, -⟩ := id E
  have hF : FM kp L ms_X11_heed f0 f0 := FM.rf
  have hl : lv_has ls 4 [(0, .ref h0), (1, .int u1), (2, .int u2)] := hl
  refine lv_aload_n hx hb dX11_heed_0 rfl (lv_at hl 0 rfl) ?_
  refine fg_RX11_12 E hW rh0 dX11_heed_1 (fun a1525626 m1525627 r1525628 => ?_)
  refine fg_RX11_63 E hW r1525628 dX11_heed_4 (fun a1525629 m1525630 r1525631 => ?_)
  refine lv_astore_n (lv' := [(3, .ref a1525629), (0, .ref h0), (1, .int u1), (2, .int u2)]) hx hb dX11_heed_7 rfl hl (by decide) rfl (fun ls hl => ?_)
  refine lv_aload_n hx hb dX11_heed_8 rfl (lv_at hl 0 rfl) ?_
  refine lv_iload_n hx hb dX11_heed_9 rfl (lv_at hl 2 rfl) ?_
  refine t_callV (As := [.int u1]) (rest := []) E hW (c_X4_has l G cI cJ cZ cD cR cT kp L f0 hW.2.2.2 _ a1525629 u1 r1525631) r1525631 (by decide) rfl wk_X4_has tw_619 rfl ⟨Nat.le_of_ble_eq_true rfl, Nat.le_of_ble_eq_true rfl⟩ ⟨rfl, rfl⟩ hl.1 rfl (Nat.le_of_ble_eq_true rfl) dX11_heed_10 ⟨Nat.le_of_ble_eq_true rfl, Nat.le_of_ble_eq_true rfl⟩ (fun v1525632 f1525633 H locs q1525634 hW => ?_)
  obtain ⟨⟨x1525636, rfl, p1525637⟩, g1525635⟩ := q1525634
  have hF := FM.tr hF g1525635 rfl
  refine q_if_eq (tgt := 29) hx hb dX11_heed_13 (by decide) rfl (fun c1525638 => ?_) (fun c1525638 => ?_)
  · clear p1525637
    refine lv_aload_n hx hb dX11_heed_29 rfl (lv_at hl 1 rfl) ?_
    refine lv_bipush (v := (-2)) hx hb dX11_heed_30 (by decide) ?_
    refine t_callV (As := [.int (-2)]) (rest := []) E hW (c_X11_refuse l G cI cJ cZ cD cR cT kp L f1525633 hW.2.2.2 _ h0 (-2) rh0 (by decide)) rh0 (by decide) rfl wk_X11_refuse tw_603 rfl ⟨Nat.le_of_ble_eq_true rfl, Nat.le_of_ble_eq_true rfl⟩ ⟨rfl, rfl⟩ hl.1 rfl (Nat.le_of_ble_eq_true rfl) dX11_heed_32 ⟨Nat.le_of_ble_eq_true rfl, Nat.le_of_ble_eq_true rfl⟩ (fun v1525639 f1525640 H locs q1525641 hW => ?_)
    obtain ⟨⟨x1525643, rfl, p1525644⟩, g1525642⟩ := q1525641
    have p1525644 : (-6 : Int) ≤ x1525643.toInt ∧ x1525643.toInt ≤ -1 := p1525644
    have hF := FM.tr hF g1525642 rfl
    exact e_I E hW rfl ⟨⟨_, rfl, trivial⟩, hF⟩ dX11_heed_35
  · have q1525645 : 0 ≤ u1.toInt ∧ u1.toInt ≤ 39 := by omega
    clear p1525637
    refine lv_iload_n hx hb dX11_heed_16 rfl (lv_at hl 3 rfl) ?_
    refine lv_iconst (v := (-1)) hx hb dX11_heed_17 (by decide) ?_
    refine q_icmp_eq (Y := -1) (tgt := 36) hx hb dX11_heed_18 (by decide) rfl rfl (fun c1525646 => ?_) (fun c1525646 => ?_)
    · refine lv_iload_n hx hb dX11_heed_36 rfl (lv_at hl 2 rfl) ?_
      refine lv_iload_n hx hb dX11_heed_37 rfl (lv_at hl 3 rfl) ?_
      refine q_icmp_ne (tgt := 48) hx hb dX11_heed_38 (by decide) rfl rfl (fun c1525647 => ?_) (fun c1525647 => ?_)
      · refine lv_aload_n hx hb dX11_heed_48 rfl (lv_at hl 0 rfl) ?_
        refine fg_RX11_84 E hW r1525631 dX11_heed_49 (fun a1525648 m1525649 r1525650 => ?_)
        refine lv_iload_n hx hb dX11_heed_52 rfl (lv_at hl 2 rfl) ?_
        refine lv_iload_n hx hb dX11_heed_53 rfl (lv_at hl 3 rfl) ?_
        refine gs_344 E hW r1525650 ⟨by omega, by omega⟩ (by omega) dX11_heed_54 (fun f1525651 H locs e1525652 n1525653 g1525654 hW => ?_)
        have hF := FM.tr hF g1525654 rfl
        refine lv_aload_n hx hb dX11_heed_55 rfl (lv_at hl 1 rfl) ?_
        refine lv_iconst (v := 0) hx hb dX11_heed_56 (by decide) ?_
        refine t_callV (As := [.int 0]) (rest := []) E hW (c_X11_accept l G cI cJ cZ cD cR cT kp L f1525651 hW.2.2.2 _ h0 0 rh0) rh0 (by decide) rfl wk_X11_accept tw_611 rfl ⟨Nat.le_of_ble_eq_true rfl, Nat.le_of_ble_eq_true rfl⟩ ⟨rfl, rfl⟩ hl.1 rfl (Nat.le_of_ble_eq_true rfl) dX11_heed_57 ⟨Nat.le_of_ble_eq_true rfl, Nat.le_of_ble_eq_true rfl⟩ (fun v1525655 f1525656 H locs q1525657 hW => ?_)
        obtain ⟨⟨x1525659, rfl, p1525660⟩, g1525658⟩ := q1525657
        clear p1525660
        have hF := FM.tr hF g1525658 rfl
        exact e_I E hW rfl ⟨⟨_, rfl, trivial⟩, hF⟩ dX11_heed_60
      · exfalso; omega
    · refine lv_aload_n hx hb dX11_heed_21 rfl (lv_at hl 0 rfl) ?_
      refine lv_iload_n hx hb dX11_heed_22 rfl (lv_at hl 3 rfl) ?_
      refine t_callV (As := [.int u2]) (rest := []) E hW (c_X4_has l G cI cJ cZ cD cR cT kp L f1525633 hW.2.2.2 _ a1525629 u2 r1525631) r1525631 (by decide) rfl wk_X4_has tw_619 rfl ⟨Nat.le_of_ble_eq_true rfl, Nat.le_of_ble_eq_true rfl⟩ ⟨rfl, rfl⟩ hl.1 rfl (Nat.le_of_ble_eq_true rfl) dX11_heed_23 ⟨Nat.le_of_ble_eq_true rfl, Nat.le_of_ble_eq_true rfl⟩ (fun v1525661 f1525662 H locs q1525663 hW => ?_)
      obtain ⟨⟨x1525665, rfl, p1525666⟩, g1525664⟩ := q1525663
      have hF := FM.tr hF g1525664 rfl
      refine q_if_ne (tgt := 36) hx hb dX11_heed_26 (by decide) rfl (fun c1525667 => ?_) (fun c1525667 => ?_)
      · have q1525668 : 0 ≤ u2.toInt ∧ u2.toInt ≤ 39 := by omega
        clear p1525666
        refine lv_iload_n hx hb dX11_heed_36 rfl (lv_at hl 2 rfl) ?_
        refine lv_iload_n hx hb dX11_heed_37 rfl (lv_at hl 3 rfl) ?_
        refine q_icmp_ne (tgt := 48) hx hb dX11_heed_38 (by decide) rfl rfl (fun c1525669 => ?_) (fun c1525669 => ?_)
        · refine lv_aload_n hx hb dX11_heed_48 rfl (lv_at hl 0 rfl) ?_
          refine fg_RX11_84 E hW r1525631 dX11_heed_49 (fun a1525670 m1525671 r1525672 => ?_)
          refine lv_iload_n hx hb dX11_heed_52 rfl (lv_at hl 2 rfl) ?_
          refine lv_iload_n hx hb dX11_heed_53 rfl (lv_at hl 3 rfl) ?_
          refine gs_344 E hW r1525672 ⟨by omega, by omega⟩ (by omega) dX11_heed_54 (fun f1525673 H locs e1525674 n1525675 g1525676 hW => ?_)
          have hF := FM.tr hF g1525676 rfl
          refine lv_aload_n hx hb dX11_heed_55 rfl (lv_at hl 1 rfl) ?_
          refine lv_iconst (v := 0) hx hb dX11_heed_56 (by decide) ?_
          refine t_callV (As := [.int 0]) (rest := []) E hW (c_X11_accept l G cI cJ cZ cD cR cT kp L f1525673 hW.2.2.2 _ h0 0 rh0) rh0 (by decide) rfl wk_X11_accept tw_611 rfl ⟨Nat.le_of_ble_eq_true rfl, Nat.le_of_ble_eq_true rfl⟩ ⟨rfl, rfl⟩ hl.1 rfl (Nat.le_of_ble_eq_true rfl) dX11_heed_57 ⟨Nat.le_of_ble_eq_true rfl, Nat.le_of_ble_eq_true rfl⟩ (fun v1525677 f1525678 H locs q1525679 hW => ?_)
          obtain ⟨⟨x1525681, rfl, p1525682⟩, g1525680⟩ := q1525679
          clear p1525682
          have hF := FM.tr hF g1525680 rfl
          exact e_I E hW rfl ⟨⟨_, rfl, trivial⟩, hF⟩ dX11_heed_60
        · refine lv_aload_n hx hb dX11_heed_41 rfl (lv_at hl 1 rfl) ?_
          refine lv_bipush (v := (-3)) hx hb dX11_heed_42 (by decide) ?_
          refine t_callV (As := [.int (-3)]) (rest := []) E hW (c_X11_refuse l G cI cJ cZ cD cR cT kp L f1525662 hW.2.2.2 _ h0 (-3) rh0 (by decide)) rh0 (by decide) rfl wk_X11_refuse tw_603 rfl ⟨Nat.le_of_ble_eq_true rfl, Nat.le_of_ble_eq_true rfl⟩ ⟨rfl, rfl⟩ hl.1 rfl (Nat.le_of_ble_eq_true rfl) dX11_heed_44 ⟨Nat.le_of_ble_eq_true rfl, Nat.le_of_ble_eq_true rfl⟩ (fun v1525683 f1525684 H locs q1525685 hW => ?_)
          obtain ⟨⟨x1525687, rfl, p1525688⟩, g1525686⟩ := q1525685
          have p1525688 : (-6 : Int) ≤ x1525687.toInt ∧ x1525687.toInt ≤ -1 := p1525688
          have hF := FM.tr hF g1525686 rfl
          exact e_I E hW rfl ⟨⟨_, rfl, trivial⟩, hF⟩ dX11_heed_47
      · clear p1525666
        refine lv_aload_n hx hb dX11_heed_29 rfl (lv_at hl 1 rfl) ?_
        refine lv_bipush (v := (-2)) hx hb dX11_heed_30 (by decide) ?_
        refine t_callV (As := [.int (-2)]) (rest := []) E hW (c_X11_refuse l G cI cJ cZ cD cR cT kp L f1525662 hW.2.2.2 _ h0 (-2) rh0 (by decide)) rh0 (by decide) rfl wk_X11_refuse tw_603 rfl ⟨Nat.le_of_ble_eq_true rfl, Nat.le_of_ble_eq_true rfl⟩ ⟨rfl, rfl⟩ hl.1 rfl (Nat.le_of_ble_eq_true rfl) dX11_heed_32 ⟨Nat.le_of_ble_eq_true rfl, Nat.le_of_ble_eq_true rfl⟩ (fun v1525689 f1525690 H locs q1525691 hW => ?_)
        obtain ⟨⟨x1525693, rfl, p1525694⟩, g1525692⟩ := q1525691
        have p1525694 : (-6 : Int) ≤ x1525693.toInt ∧ x1525693.toInt ≤ -1 := p1525694
        have hF := FM.tr hF g1525692 rfl
        exact e_I E hW rfl ⟨⟨_, rfl, trivial⟩, hF⟩ dX11_heed_35
def ms_X11_holds : List (Nat × Nat) := [(0, 14), (115, 0), (222, 0), (223, 0)]
def po_X11_holds (kp : Nat → Nat) (L : List Nat) (f0 : Nat → va_E) (h0 : Nat) (u1 : Int32) (u2 : Int32) (u3 : Int32) (u4 : Int32) : Option Value → (Nat → va_E) → Prop := fun v f => (∃ r : Int32, v = some (.int r) ∧ ((-1 : Int) ≤ r.toInt ∧ r.toInt ≤ 1)) ∧ FM kp L ms_X11_holds f0 f
set_option maxHeartbeats 4000000 in
set_option maxRecDepth 100000 in
theorem c_X11_holds (l : Launch) (G : va_G) (cI cJ cZ cD cR cT : ClassId) (kp : Nat → Nat) (L : List Nat) (f0 : Nat → va_E) (hTH : TH cI cJ cZ cD cR cT kp L f0) (sz : Nat) (h0 : Nat) (u1 : Int32) (u2 : Int32) (u3 : Int32) (u4 : Int32) (rh0 : RK kp L h0 11) : Met l yX11_holds (Cond.code yX11_holds cX11_holds 5 (some .int) :: wTab) ({ frames := 5, cells := 0, slots := 0, locals := 143 }) (va_Pc [.ref h0, .int u1, .int u2, .int u3, .int u4] (PreW G (tys6 cI cJ cZ cD cR cT) (va_pl L f0) sz)) (QT (po_X11_holds kp L f0 h0 u1 u2 u3 u4) G cI cJ cZ cD cR cT (va_A (va_pl L f0) sz) kp L) 0 0 (va_A (va_pl L f0) sz) := by
  refine metT (by decide) (Nat.le_of_ble_eq_true rfl) hTH ?_
  intro p e s m below meth c A ls E hW hl
  obtain ⟨hx, hb, -, hml, hown, hts, -, -, -⟩ := id E
  have hF : FM kp L ms_X11_holds f0 f0 := FM.rf
  have hl : lv_has ls 5 [(0, .ref h0), (1, .int u1), (2, .int u2), (3, .int u3), (4, .int u4)] := hl
  refine lv_aload_n hx hb dX11_holds_0 rfl (lv_at hl 0 rfl) ?_
  refine fg_RX11_12 E hW rh0 dX11_holds_1 (fun a1525695 m1525696 r1525697 => ?_)
  refine fg_RX11_219 E hW r1525697 dX11_holds_4 (fun a1525698 m1525699 r1525700 => ?_)
  refine lv_iload_n hx hb dX11_holds_7 rfl (lv_at hl 1 rfl) ?_
  refine lv_iload_n hx hb dX11_holds_8 rfl (lv_at hl 2 rfl) ?_
  refine t_callV (As := [.int u1, .int u2]) (rest := []) E hW (c_X2_has l G cI cJ cZ cD cR cT kp L f0 hW.2.2.2 _ a1525698 u1 u2 r1525700) r1525700 (by decide) rfl wk_X2_has tw_1062 rfl ⟨Nat.le_of_ble_eq_true rfl, Nat.le_of_ble_eq_true rfl⟩ ⟨rfl, rfl⟩ hl.1 rfl (Nat.le_of_ble_eq_true rfl) dX11_holds_9 ⟨Nat.le_of_ble_eq_true rfl, Nat.le_of_ble_eq_true rfl⟩ (fun v1525701 f1525702 H locs q1525703 hW => ?_)
  obtain ⟨⟨x1525706, rfl, p1525707⟩, g1525704, h1525705⟩ := q1525703
  have hF := FM.tr hF g1525704 rfl
  refine q_if_eq (tgt := 55) hx hb dX11_holds_12 (by decide) rfl (fun c1525708 => ?_) (fun c1525708 => ?_)
  · clear p1525707
    refine lv_iconst (v := (-1)) hx hb dX11_holds_55 (by decide) ?_
    exact e_I E hW rfl ⟨⟨_, rfl, (by have hk : ((-1) : Int32).toInt = -1 := rfl; first | decide | omega)⟩, hF⟩ dX11_holds_56
  · have q1525709 : 0 ≤ u1.toInt ∧ u1.toInt ≤ 19 ∧ 0 ≤ u2.toInt ∧ u2.toInt ≤ 11 ∧ x1525706.toInt = 1 := by omega
    clear p1525707
    refine lv_iload_n hx hb dX11_holds_15 rfl (lv_at hl 3 rfl) ?_
    refine lv_iconst (v := (-1)) hx hb dX11_holds_16 (by decide) ?_
    refine q_icmp_eq (Y := -1) (tgt := 34) hx hb dX11_holds_17 (by decide) rfl rfl (fun c1525710 => ?_) (fun c1525710 => ?_)
    · refine lv_iload hx hb dX11_holds_34 (lv_at hl 4 rfl) ?_
      refine lv_iconst (v := (-1)) hx hb dX11_holds_36 (by decide) ?_
      refine q_icmp_eq (Y := -1) (tgt := 57) hx hb dX11_holds_37 (by decide) rfl rfl (fun c1525711 => ?_) (fun c1525711 => ?_)
      · refine lv_aload_n hx hb dX11_holds_57 rfl (lv_at hl 0 rfl) ?_
        refine fg_RX11_12 E hW rh0 dX11_holds_58 (fun a1525712 m1525713 r1525714 => ?_)
        obtain rfl : a1525695 = a1525712 := (((fm_R g1525704 rh0 rfl).trans m1525696)).symm.trans m1525713
        refine t_callV (As := []) (rest := []) E hW (c_X0_lookAtNow l G cI cJ cZ cD cR cT kp L f1525702 hW.2.2.2 _ a1525695 r1525697) r1525697 (by decide) rfl wk_X0_lookAtNow tw_687 rfl ⟨Nat.le_of_ble_eq_true rfl, Nat.le_of_ble_eq_true rfl⟩ ⟨rfl, rfl⟩ hl.1 rfl (Nat.le_of_ble_eq_true rfl) dX11_holds_61 ⟨Nat.le_of_ble_eq_true rfl, Nat.le_of_ble_eq_true rfl⟩ (fun v1525715 f1525716 H locs q1525717 hW => ?_)
        obtain ⟨rfl, g1525718⟩ := q1525717
        have hF := FM.tr hF g1525718 rfl
        refine lv_aload_n hx hb dX11_holds_64 rfl (lv_at hl 0 rfl) ?_
        refine fg_RX11_12 E hW rh0 dX11_holds_65 (fun a1525719 m1525720 r1525721 => ?_)
        obtain rfl : a1525695 = a1525719 := (((fm_R g1525718 rh0 rfl).trans m1525713)).symm.trans m1525720
        refine lv_iload_n hx hb dX11_holds_68 rfl (lv_at hl 1 rfl) ?_
        refine lv_iload_n hx hb dX11_holds_69 rfl (lv_at hl 2 rfl) ?_
        refine lv_iload_n hx hb dX11_holds_70 rfl (lv_at hl 3 rfl) ?_
        refine lv_iload hx hb dX11_holds_71 (lv_at hl 4 rfl) ?_
        refine t_callV (As := [.int u1, .int u2, .int u3, .int u4]) (rest := []) E hW (c_X0_clauseHolds l G cI cJ cZ cD cR cT kp L f1525716 hW.2.2.2 _ a1525695 u1 u2 u3 u4 r1525697 (by omega) (by omega) (by omega) (by omega) (holds_tr hTH hF r1525697 rfl rfl rfl rfl m1525699 (h1525705 (one_of (by omega))))) r1525697 (by decide) rfl wk_X0_clauseHolds tw_1072 rfl ⟨Nat.le_of_ble_eq_true rfl, Nat.le_of_ble_eq_true rfl⟩ ⟨rfl, rfl⟩ hl.1 rfl (Nat.le_of_ble_eq_true rfl) dX11_holds_73 ⟨Nat.le_of_ble_eq_true rfl, Nat.le_of_ble_eq_true rfl⟩ (fun v1525722 f1525723 H locs q1525724 hW => ?_)
        obtain ⟨⟨x1525726, rfl, p1525727⟩, g1525725⟩ := q1525724
        have hF := FM.tr hF g1525725 rfl
        have J1525730 : ∀ (y1525728 : Int32) (b1525729 : (0 : Int) ≤ y1525728.toInt ∧ y1525728.toInt ≤ 1) (H : Heap) (locs : List Loc) (ls : Array Slot), WS G cI cJ cZ cD cR cT A kp L f1525723 s H locs → FM kp L ms_X11_holds f0 f1525723 → lv_has ls 5 [(0, .ref h0), (1, .int u1), (2, .int u2), (3, .int u3), (4, .int u4)] → W p l e ({ frames := 5, cells := 0, slots := 0, locals := 143 }) s m ([.ref h0, .int u1, .int u2, .int u3, .int u4] : List Value).toArray below meth c H locs 0 0 (MQ below (QT (po_X11_holds kp L f0 h0 u1 u2 u3 u4) G cI cJ cZ cD cR cT A kp L) ([.ref h0, .int u1, .int u2, .int u3, .int u4] : List Value).toArray s 0 0 A) (F0 m 84 ls [.int y1525728]) := by
          intro y1525728 b1525729 H locs ls hW hF hl
          clear c1525708 p1525727
          exact e_I E hW rfl ⟨⟨_, rfl, (by first | omega | trivial)⟩, hF⟩ dX11_holds_84
        refine q_if_eq (tgt := 83) hx hb dX11_holds_76 (by decide) rfl (fun c1525731 => ?_) (fun c1525731 => ?_)
        · refine lv_iconst (v := 0) hx hb dX11_holds_83 (by decide) ?_
          exact J1525730 0 (by decide) _ _ _ hW hF (lv_sub hl [0, 1, 2, 3, 4] rfl)
        · refine lv_iconst (v := 1) hx hb dX11_holds_79 (by decide) ?_
          refine lv_goto (tgt := 84) hx hb dX11_holds_80 (by decide) ?_
          exact J1525730 1 (by decide) _ _ _ hW hF (lv_sub hl [0, 1, 2, 3, 4] rfl)
      · refine lv_aload_n hx hb dX11_holds_40 rfl (lv_at hl 0 rfl) ?_
        refine fg_RX11_12 E hW rh0 dX11_holds_41 (fun a1525732 m1525733 r1525734 => ?_)
        obtain rfl : a1525695 = a1525732 := (((fm_R g1525704 rh0 rfl).trans m1525696)).symm.trans m1525733
        refine fg_RX11_114 E hW r1525697 dX11_holds_44 (fun a1525735 m1525736 r1525737 => ?_)
        refine lv_iload hx hb dX11_holds_47 (lv_at hl 4 rfl) ?_
        refine t_callV (As := [.int u4]) (rest := []) E hW (c_X1_has l G cI cJ cZ cD cR cT kp L f1525702 hW.2.2.2 _ a1525735 u4 r1525737) r1525737 (by decide) rfl wk_X1_has tw_683 rfl ⟨Nat.le_of_ble_eq_true rfl, Nat.le_of_ble_eq_true rfl⟩ ⟨rfl, rfl⟩ hl.1 rfl (Nat.le_of_ble_eq_true rfl) dX11_holds_49 ⟨Nat.le_of_ble_eq_true rfl, Nat.le_of_ble_eq_true rfl⟩ (fun v1525738 f1525739 H locs q1525740 hW => ?_)
        obtain ⟨⟨x1525742, rfl, p1525743⟩, g1525741⟩ := q1525740
        have hF := FM.tr hF g1525741 rfl
        refine q_if_ne (tgt := 57) hx hb dX11_holds_52 (by decide) rfl (fun c1525744 => ?_) (fun c1525744 => ?_)
        · have q1525745 : 0 ≤ u4.toInt ∧ u4.toInt ≤ 39 := by omega
          clear p1525743
          refine lv_aload_n hx hb dX11_holds_57 rfl (lv_at hl 0 rfl) ?_
          refine fg_RX11_12 E hW rh0 dX11_holds_58 (fun a1525746 m1525747 r1525748 => ?_)
          obtain rfl : a1525695 = a1525746 := (((fm_R g1525741 rh0 rfl).trans m1525733)).symm.trans m1525747
          refine t_callV (As := []) (rest := []) E hW (c_X0_lookAtNow l G cI cJ cZ cD cR cT kp L f1525739 hW.2.2.2 _ a1525695 r1525697) r1525697 (by decide) rfl wk_X0_lookAtNow tw_687 rfl ⟨Nat.le_of_ble_eq_true rfl, Nat.le_of_ble_eq_true rfl⟩ ⟨rfl, rfl⟩ hl.1 rfl (Nat.le_of_ble_eq_true rfl) dX11_holds_61 ⟨Nat.le_of_ble_eq_true rfl, Nat.le_of_ble_eq_true rfl⟩ (fun v1525749 f1525750 H locs q1525751 hW => ?_)
          obtain ⟨rfl, g1525752⟩ := q1525751
          have hF := FM.tr hF g1525752 rfl
          refine lv_aload_n hx hb dX11_holds_64 rfl (lv_at hl 0 rfl) ?_
          refine fg_RX11_12 E hW rh0 dX11_holds_65 (fun a1525753 m1525754 r1525755 => ?_)
          obtain rfl : a1525695 = a1525753 := (((fm_R g1525752 rh0 rfl).trans m1525747)).symm.trans m1525754
          refine lv_iload_n hx hb dX11_holds_68 rfl (lv_at hl 1 rfl) ?_
          refine lv_iload_n hx hb dX11_holds_69 rfl (lv_at hl 2 rfl) ?_
          refine lv_iload_n hx hb dX11_holds_70 rfl (lv_at hl 3 rfl) ?_
          refine lv_iload hx hb dX11_holds_71 (lv_at hl 4 rfl) ?_
          refine t_callV (As := [.int u1, .int u2, .int u3, .int u4]) (rest := []) E hW (c_X0_clauseHolds l G cI cJ cZ cD cR cT kp L f1525750 hW.2.2.2 _ a1525695 u1 u2 u3 u4 r1525697 (by omega) (by omega) (by omega) (by omega) (holds_tr hTH hF r1525697 rfl rfl rfl rfl m1525699 (h1525705 (one_of (by omega))))) r1525697 (by decide) rfl wk_X0_clauseHolds tw_1072 rfl ⟨Nat.le_of_ble_eq_true rfl, Nat.le_of_ble_eq_true rfl⟩ ⟨rfl, rfl⟩ hl.1 rfl (Nat.le_of_ble_eq_true rfl) dX11_holds_73 ⟨Nat.le_of_ble_eq_true rfl, Nat.le_of_ble_eq_true rfl⟩ (fun v1525756 f1525757 H locs q1525758 hW => ?_)
          obtain ⟨⟨x1525760, rfl, p1525761⟩, g1525759⟩ := q1525758
          have hF := FM.tr hF g1525759 rfl
          have J1525764 : ∀ (y1525762 : Int32) (b1525763 : (0 : Int) ≤ y1525762.toInt ∧ y1525762.toInt ≤ 1) (H : Heap) (locs : List Loc) (ls : Array Slot), WS G cI cJ cZ cD cR cT A kp L f1525757 s H locs → FM kp L ms_X11_holds f0 f1525757 → lv_has ls 5 [(0, .ref h0), (1, .int u1), (2, .int u2), (3, .int u3), (4, .int u4)] → W p l e ({ frames := 5, cells := 0, slots := 0, locals := 143 }) s m ([.ref h0, .int u1, .int u2, .int u3, .int u4] : List Value).toArray below meth c H locs 0 0 (MQ below (QT (po_X11_holds kp L f0 h0 u1 u2 u3 u4) G cI cJ cZ cD cR cT A kp L) ([.ref h0, .int u1, .int u2, .int u3, .int u4] : List Value).toArray s 0 0 A) (F0 m 84 ls [.int y1525762]) := by
            intro y1525762 b1525763 H locs ls hW hF hl
            clear c1525708 c1525744 p1525761
            exact e_I E hW rfl ⟨⟨_, rfl, (by first | omega | trivial)⟩, hF⟩ dX11_holds_84
          refine q_if_eq (tgt := 83) hx hb dX11_holds_76 (by decide) rfl (fun c1525765 => ?_) (fun c1525765 => ?_)
          · refine lv_iconst (v := 0) hx hb dX11_holds_83 (by decide) ?_
            exact J1525764 0 (by decide) _ _ _ hW hF (lv_sub hl [0, 1, 2, 3, 4] rfl)
          · refine lv_iconst (v := 1) hx hb dX11_holds_79 (by decide) ?_
            refine lv_goto (tgt := 84) hx hb dX11_holds_80 (by decide) ?_
            exact J1525764 1 (by decide) _ _ _ hW hF (lv_sub hl [0, 1, 2, 3, 4] rfl)
        · clear p1525743
          refine lv_iconst (v := (-1)) hx hb dX11_holds_55 (by decide) ?_
          exact e_I E hW rfl ⟨⟨_, rfl, (by have hk : ((-1) : Int32).toInt = -1 := rfl; first | decide | omega)⟩, hF⟩ dX11_holds_56
    · refine lv_aload_n hx hb dX11_holds_20 rfl (lv_at hl 0 rfl) ?_
      refine fg_RX11_12 E hW rh0 dX11_holds_21 (fun a1525766 m1525767 r1525768 => ?_)
      obtain rfl : a1525695 = a1525766 := (((fm_R g1525704 rh0 rfl).trans m1525696)).symm.trans m1525767
      refine fg_RX11_63 E hW r1525697 dX11_holds_24 (fun a1525769 m1525770 r1525771 => ?_)
      refine lv_iload_n hx hb dX11_holds_27 rfl (lv_at hl 3 rfl) ?_
      refine t_callV (As := [.int u3]) (rest := []) E hW (c_X4_has l G cI cJ cZ cD cR cT kp L f1525702 hW.2.2.2 _ a1525769 u3 r1525771) r1525771 (by decide) rfl wk_X4_has tw_619 rfl ⟨Nat.le_of_ble_eq_true rfl, Nat.le_of_ble_eq_true rfl⟩ ⟨rfl, rfl⟩ hl.1 rfl (Nat.le_of_ble_eq_true rfl) dX11_holds_28 ⟨Nat.le_of_ble_eq_true rfl, Nat.le_of_ble_eq_true rfl⟩ (fun v1525772 f1525773 H locs q1525774 hW => ?_)
      obtain ⟨⟨x1525776, rfl, p1525777⟩, g1525775⟩ := q1525774
      have hF := FM.tr hF g1525775 rfl
      refine q_if_eq (tgt := 55) hx hb dX11_holds_31 (by decide) rfl (fun c1525778 => ?_) (fun c1525778 => ?_)
      · clear p1525777
        refine lv_iconst (v := (-1)) hx hb dX11_holds_55 (by decide) ?_
        exact e_I E hW rfl ⟨⟨_, rfl, (by have hk : ((-1) : Int32).toInt = -1 := rfl; first | decide | omega)⟩, hF⟩ dX11_holds_56
      · have q1525779 : 0 ≤ u3.toInt ∧ u3.toInt ≤ 39 := by omega
        clear p1525777
        refine lv_iload hx hb dX11_holds_34 (lv_at hl 4 rfl) ?_
        refine lv_iconst (v := (-1)) hx hb dX11_holds_36 (by decide) ?_
        refine q_icmp_eq (Y := -1) (tgt := 57) hx hb dX11_holds_37 (by decide) rfl rfl (fun c1525780 => ?_) (fun c1525780 => ?_)
        · refine lv_aload_n hx hb dX11_holds_57 rfl (lv_at hl 0 rfl) ?_
          refine fg_RX11_12 E hW rh0 dX11_holds_58 (fun a1525781 m1525782 r1525783 => ?_)
          obtain rfl : a1525695 = a1525781 := (((fm_R g1525775 rh0 rfl).trans m1525767)).symm.trans m1525782
          refine t_callV (As := []) (rest := []) E hW (c_X0_lookAtNow l G cI cJ cZ cD cR cT kp L f1525773 hW.2.2.2 _ a1525695 r1525697) r1525697 (by decide) rfl wk_X0_lookAtNow tw_687 rfl ⟨Nat.le_of_ble_eq_true rfl, Nat.le_of_ble_eq_true rfl⟩ ⟨rfl, rfl⟩ hl.1 rfl (Nat.le_of_ble_eq_true rfl) dX11_holds_61 ⟨Nat.le_of_ble_eq_true rfl, Nat.le_of_ble_eq_true rfl⟩ (fun v1525784 f1525785 H locs q1525786 hW => ?_)
          obtain ⟨rfl, g1525787⟩ := q1525786
          have hF := FM.tr hF g1525787 rfl
          refine lv_aload_n hx hb dX11_holds_64 rfl (lv_at hl 0 rfl) ?_
          refine fg_RX11_12 E hW rh0 dX11_holds_65 (fun a1525788 m1525789 r1525790 => ?_)
          obtain rfl : a1525695 = a1525788 := (((fm_R g1525787 rh0 rfl).trans m1525782)).symm.trans m1525789
          refine lv_iload_n hx hb dX11_holds_68 rfl (lv_at hl 1 rfl) ?_
          refine lv_iload_n hx hb dX11_holds_69 rfl (lv_at hl 2 rfl) ?_
          refine lv_iload_n hx hb dX11_holds_70 rfl (lv_at hl 3 rfl) ?_
          refine lv_iload hx hb dX11_holds_71 (lv_at hl 4 rfl) ?_
          refine t_callV (As := [.int u1, .int u2, .int u3, .int u4]) (rest := []) E hW (c_X0_clauseHolds l G cI cJ cZ cD cR cT kp L f1525785 hW.2.2.2 _ a1525695 u1 u2 u3 u4 r1525697 (by omega) (by omega) (by omega) (by omega) (holds_tr hTH hF r1525697 rfl rfl rfl rfl m1525699 (h1525705 (one_of (by omega))))) r1525697 (by decide) rfl wk_X0_clauseHolds tw_1072 rfl ⟨Nat.le_of_ble_eq_true rfl, Nat.le_of_ble_eq_true rfl⟩ ⟨rfl, rfl⟩ hl.1 rfl (Nat.le_of_ble_eq_true rfl) dX11_holds_73 ⟨Nat.le_of_ble_eq_true rfl, Nat.le_of_ble_eq_true rfl⟩ (fun v1525791 f1525792 H locs q1525793 hW => ?_)
          obtain ⟨⟨x1525795, rfl, p1525796⟩, g1525794⟩ := q1525793
          have hF := FM.tr hF g1525794 rfl
          have J1525799 : ∀ (y1525797 : Int32) (b1525798 : (0 : Int) ≤ y1525797.toInt ∧ y1525797.toInt ≤ 1) (H : Heap) (locs : List Loc) (ls : Array Slot), WS G cI cJ cZ cD cR cT A kp L f1525792 s H locs → FM kp L ms_X11_holds f0 f1525792 → lv_has ls 5 [(0, .ref h0), (1, .int u1), (2, .int u2), (3, .int u3), (4, .int u4)] → W p l e ({ frames := 5, cells := 0, slots := 0, locals := 143 }) s m ([.ref h0, .int u1, .int u2, .int u3, .int u4] : List Value).toArray below meth c H locs 0 0 (MQ below (QT (po_X11_holds kp L f0 h0 u1 u2 u3 u4) G cI cJ cZ cD cR cT A kp L) ([.ref h0, .int u1, .int u2, .int u3, .int u4] : List Value).toArray s 0 0 A) (F0 m 84 ls [.int y1525797]) := by
            intro y1525797 b1525798 H locs ls hW hF hl
            clear c1525708 c1525778 p1525796
            exact e_I E hW rfl ⟨⟨_, rfl, (by first | omega | trivial)⟩, hF⟩ dX11_holds_84
          refine q_if_eq (tgt := 83) hx hb dX11_holds_76 (by decide) rfl (fun c1525800 => ?_) (fun c1525800 => ?_)
          · refine lv_iconst (v := 0) hx hb dX11_holds_83 (by decide) ?_
            exact J1525799 0 (by decide) _ _ _ hW hF (lv_sub hl [0, 1, 2, 3, 4] rfl)
          · refine lv_iconst (v := 1) hx hb dX11_holds_79 (by decide) ?_
            refine lv_goto (tgt := 84) hx hb dX11_holds_80 (by decide) ?_
            exact J1525799 1 (by decide) _ _ _ hW hF (lv_sub hl [0, 1, 2, 3, 4] rfl)
        · refine lv_aload_n hx hb dX11_holds_40 rfl (lv_at hl 0 rfl) ?_
          refine fg_RX11_12 E hW rh0 dX11_holds_41 (fun a1525801 m1525802 r1525803 => ?_)
          obtain rfl : a1525695 = a1525801 := (((fm_R g1525775 rh0 rfl).trans m1525767)).symm.trans m1525802
          refine fg_RX11_114 E hW r1525697 dX11_holds_44 (fun a1525804 m1525805 r1525806 => ?_)
          refine lv_iload hx hb dX11_holds_47 (lv_at hl 4 rfl) ?_
          refine t_callV (As := [.int u4]) (rest := []) E hW (c_X1_has l G cI cJ cZ cD cR cT kp L f1525773 hW.2.2.2 _ a1525804 u4 r1525806) r1525806 (by decide) rfl wk_X1_has tw_683 rfl ⟨Nat.le_of_ble_eq_true rfl, Nat.le_of_ble_eq_true rfl⟩ ⟨rfl, rfl⟩ hl.1 rfl (Nat.le_of_ble_eq_true rfl) dX11_holds_49 ⟨Nat.le_of_ble_eq_true rfl, Nat.le_of_ble_eq_true rfl⟩ (fun v1525807 f1525808 H locs q1525809 hW => ?_)
          obtain ⟨⟨x1525811, rfl, p1525812⟩, g1525810⟩ := q1525809
          have hF := FM.tr hF g1525810 rfl
          refine q_if_ne (tgt := 57) hx hb dX11_holds_52 (by decide) rfl (fun c1525813 => ?_) (fun c1525813 => ?_)
          · have q1525814 : 0 ≤ u4.toInt ∧ u4.toInt ≤ 39 := by omega
            clear p1525812
            refine lv_aload_n hx hb dX11_holds_57 rfl (lv_at hl 0 rfl) ?_
            refine fg_RX11_12 E hW rh0 dX11_holds_58 (fun a1525815 m1525816 r1525817 => ?_)
            obtain rfl : a1525695 = a1525815 := (((fm_R g1525810 rh0 rfl).trans m1525802)).symm.trans m1525816
            refine t_callV (As := []) (rest := []) E hW (c_X0_lookAtNow l G cI cJ cZ cD cR cT kp L f1525808 hW.2.2.2 _ a1525695 r1525697) r1525697 (by decide) rfl wk_X0_lookAtNow tw_687 rfl ⟨Nat.le_of_ble_eq_true rfl, Nat.le_of_ble_eq_true rfl⟩ ⟨rfl, rfl⟩ hl.1 rfl (Nat.le_of_ble_eq_true rfl) dX11_holds_61 ⟨Nat.le_of_ble_eq_true rfl, Nat.le_of_ble_eq_true rfl⟩ (fun v1525818 f1525819 H locs q1525820 hW => ?_)
            obtain ⟨rfl, g1525821⟩ := q1525820
            have hF := FM.tr hF g1525821 rfl
            refine lv_aload_n hx hb dX11_holds_64 rfl (lv_at hl 0 rfl) ?_
            refine fg_RX11_12 E hW rh0 dX11_holds_65 (fun a1525822 m1525823 r1525824 => ?_)
            obtain rfl : a1525695 = a1525822 := (((fm_R g1525821 rh0 rfl).trans m1525816)).symm.trans m1525823
            refine lv_iload_n hx hb dX11_holds_68 rfl (lv_at hl 1 rfl) ?_
            refine lv_iload_n hx hb dX11_holds_69 rfl (lv_at hl 2 rfl) ?_
            refine lv_iload_n hx hb dX11_holds_70 rfl (lv_at hl 3 rfl) ?_
            refine lv_iload hx hb dX11_holds_71 (lv_at hl 4 rfl) ?_
            refine t_callV (As := [.int u1, .int u2, .int u3, .int u4]) (rest := []) E hW (c_X0_clauseHolds l G cI cJ cZ cD cR cT kp L f1525819 hW.2.2.2 _ a1525695 u1 u2 u3 u4 r1525697 (by omega) (by omega) (by omega) (by omega) (holds_tr hTH hF r1525697 rfl rfl rfl rfl m1525699 (h1525705 (one_of (by omega))))) r1525697 (by decide) rfl wk_X0_clauseHolds tw_1072 rfl ⟨Nat.le_of_ble_eq_true rfl, Nat.le_of_ble_eq_true rfl⟩ ⟨rfl, rfl⟩ hl.1 rfl (Nat.le_of_ble_eq_true rfl) dX11_holds_73 ⟨Nat.le_of_ble_eq_true rfl, Nat.le_of_ble_eq_true rfl⟩ (fun v1525825 f1525826 H locs q1525827 hW => ?_)
            obtain ⟨⟨x1525829, rfl, p1525830⟩, g1525828⟩ := q1525827
            have hF := FM.tr hF g1525828 rfl
            have J1525833 : ∀ (y1525831 : Int32) (b1525832 : (0 : Int) ≤ y1525831.toInt ∧ y1525831.toInt ≤ 1) (H : Heap) (locs : List Loc) (ls : Array Slot), WS G cI cJ cZ cD cR cT A kp L f1525826 s H locs → FM kp L ms_X11_holds f0 f1525826 → lv_has ls 5 [(0, .ref h0), (1, .int u1), (2, .int u2), (3, .int u3), (4, .int u4)] → W p l e ({ frames := 5, cells := 0, slots := 0, locals := 143 }) s m ([.ref h0, .int u1, .int u2, .int u3, .int u4] : List Value).toArray below meth c H locs 0 0 (MQ below (QT (po_X11_holds kp L f0 h0 u1 u2 u3 u4) G cI cJ cZ cD cR cT A kp L) ([.ref h0, .int u1, .int u2, .int u3, .int u4] : List Value).toArray s 0 0 A) (F0 m 84 ls [.int y1525831]) := by
              intro y1525831 b1525832 H locs ls hW hF hl
              clear c1525708 c1525778 c1525813 p1525830
              exact e_I E hW rfl ⟨⟨_, rfl, (by first | omega | trivial)⟩, hF⟩ dX11_holds_84
            refine q_if_eq (tgt := 83) hx hb dX11_holds_76 (by decide) rfl (fun c1525834 => ?_) (fun c1525834 => ?_)
            · refine lv_iconst (v := 0) hx hb dX11_holds_83 (by decide) ?_
              exact J1525833 0 (by decide) _ _ _ hW hF (lv_sub hl [0, 1, 2, 3, 4] rfl)
            · refine lv_iconst (v := 1) hx hb dX11_holds_79 (by decide) ?_
              refine lv_goto (tgt := 84) hx hb dX11_holds_80 (by decide) ?_
              exact J1525833 1 (by decide) _ _ _ hW hF (lv_sub hl [0, 1, 2, 3, 4] rfl)
          · clear p1525812
            refine lv_iconst (v := (-1)) hx hb dX11_holds_55 (by decide) ?_
            exact e_I E hW rfl ⟨⟨_, rfl, (by have hk : ((-1) : Int32).toInt = -1 := rfl; first | decide | omega)⟩, hF⟩ dX11_holds_56
def ms_X11_image : List (Nat × Nat) := [(0, 6), (0, 9), (0, 12), (0, 13), (1, 0), (1, 8), (1, 12), (1, 13), (1, 14), (2, 0), (3, 0), (3, 1), (3, 2), (3, 3), (4, 0), (10, 0), (10, 7), (11, 4), (11, 5), (11, 15), (108, 0), (161, 0), (162, 0), (163, 0), (164, 0), (165, 0), (166, 0), (167, 0), (169, 0), (170, 0), (171, 0), (221, 0), (284, 0), (285, 0), (341, 0), (342, 0), (343, 0), (344, 0), (345, 0), (346, 0), (347, 0), (348, 0), (520, 0), (521, 0), (701, 0), (702, 0), (703, 0), (704, 0), (705, 0), (706, 0), (708, 0), (709, 0), (710, 0)]
def po_X11_image (kp : Nat → Nat) (L : List Nat) (f0 : Nat → va_E) (h0 : Nat) (u1 : Int32) : Option Value → (Nat → va_E) → Prop := fun v f => (∃ r : Int32, v = some (.int r) ∧ (True)) ∧ FM kp L ms_X11_image f0 f
set_option maxHeartbeats 4000000 in
set_option maxRecDepth 100000 in
theorem c_X11_image (l : Launch) (G : va_G) (cI cJ cZ cD cR cT : ClassId) (kp : Nat → Nat) (L : List Nat) (f0 : Nat → va_E) (hTH : TH cI cJ cZ cD cR cT kp L f0) (sz : Nat) (h0 : Nat) (u1 : Int32) (rh0 : RK kp L h0 11) : Met l yX11_image (Cond.code yX11_image cX11_image 2 (some .int) :: wTab) ({ frames := 3, cells := 0, slots := 0, locals := 103 }) (va_Pc [.ref h0, .int u1] (PreW G (tys6 cI cJ cZ cD cR cT) (va_pl L f0) sz)) (QT (po_X11_image kp L f0 h0 u1) G cI cJ cZ cD cR cT (va_A (va_pl L f0) sz) kp L) 0 0 (va_A (va_pl L f0) sz) := by
  refine metT (by decide) (Nat.le_of_ble_eq_true rfl) hTH ?_
  intro p e s m below meth c A ls E hW hl
  obtain ⟨hx, hb, -, hml, hown, hts, -, -, -⟩ := id E
  have hF : FM kp L ms_X11_image f0 f0 := FM.rf
  have hl : lv_has ls 2 [(0, .ref h0), (1, .int u1)] := hl
  refine lv_iload_n hx hb dX11_image_0 rfl (lv_at hl 1 rfl) ?_
  refine lv_iconst (v := 0) hx hb dX11_image_1 (by decide) ?_
  refine lv_iconst (v := 1) hx hb dX11_image_2 (by decide) ?_
  refine t_callS (As := [.int u1, .int 0, .int 1]) (rest := []) E hW (c_X11_within l G cI cJ cZ cD cR cT kp L f0 hW.2.2.2 _ u1 0 1 (by decide)) wk_X11_within tw_599 rfl ⟨Nat.le_of_ble_eq_true rfl, Nat.le_of_ble_eq_true rfl⟩ ⟨rfl, rfl⟩ hl.1 rfl (Nat.le_of_ble_eq_true rfl) dX11_image_3 ⟨Nat.le_of_ble_eq_true rfl, Nat.le_of_ble_eq_true rfl⟩ (fun v1525835 f1525836 H locs q1525837 hW => ?_)
  obtain ⟨⟨x1525839, rfl, p1525840⟩, g1525838⟩ := q1525837
  have p1525840 : (x1525839.toInt = 1 ∧ 0 ≤ u1.toInt ∧ u1.toInt ≤ 1) ∨ (x1525839.toInt = 0 ∧ (u1.toInt < 0 ∨ 1 < u1.toInt)) := p1525840
  have hF := FM.tr hF g1525838 rfl
  refine q_if_ne (tgt := 15) hx hb dX11_image_6 (by decide) rfl (fun c1525841 => ?_) (fun c1525841 => ?_)
  · have q1525842 : 0 ≤ u1.toInt ∧ u1.toInt ≤ 1 := by omega
    clear p1525840
    refine lv_iload_n hx hb dX11_image_15 rfl (lv_at hl 1 rfl) ?_
    have J1525872 : ∀ (f1525871 : Nat → va_E) (H : Heap) (locs : List Loc) (ls : Array Slot), WS G cI cJ cZ cD cR cT A kp L f1525871 s H locs → FM kp L ms_X11_image f0 f1525871 → lv_has ls 2 [(0, .ref h0), (1, .int u1)] → W p l e ({ frames := 3, cells := 0, slots := 0, locals := 103 }) s m ([.ref h0, .int u1] : List Value).toArray below meth c H locs 0 0 (MQ below (QT (po_X11_image kp L f0 h0 u1) G cI cJ cZ cD cR cT A kp L) ([.ref h0, .int u1] : List Value).toArray s 0 0 A) (F0 m 54 ls []) := by
      intro f1525871 H locs ls hW hF hl
      clear c1525841
      refine lv_aload_n hx hb dX11_image_54 rfl (lv_at hl 0 rfl) ?_
      refine lv_iconst (v := 0) hx hb dX11_image_55 (by decide) ?_
      refine t_callV (As := [.int 0]) (rest := []) E hW (c_X11_accept l G cI cJ cZ cD cR cT kp L f1525871 hW.2.2.2 _ h0 0 rh0) rh0 (by decide) rfl wk_X11_accept tw_611 rfl ⟨Nat.le_of_ble_eq_true rfl, Nat.le_of_ble_eq_true rfl⟩ ⟨rfl, rfl⟩ hl.1 rfl (Nat.le_of_ble_eq_true rfl) dX11_image_56 ⟨Nat.le_of_ble_eq_true rfl, Nat.le_of_ble_eq_true rfl⟩ (fun v1525873 f1525874 H locs q1525875 hW => ?_)
      obtain ⟨⟨x1525877, rfl, p1525878⟩, g1525876⟩ := q1525875
      clear p1525878
      have hF := FM.tr hF g1525876 rfl
      exact e_I E hW rfl ⟨⟨_, rfl, trivial⟩, hF⟩ dX11_image_59
    refine q_if_ne (tgt := 38) hx hb dX11_image_16 (by decide) rfl (fun c1525879 => ?_) (fun c1525879 => ?_)
    · refine lv_aload_n hx hb dX11_image_38 rfl (lv_at hl 0 rfl) ?_
      refine fg_RX11_24 E hW rh0 dX11_image_39 (fun a1525880 m1525881 r1525882 => ?_)
      refine lv_aload_n hx hb dX11_image_42 rfl (lv_at hl 0 rfl) ?_
      refine fg_RX11_12 E hW rh0 dX11_image_43 (fun a1525883 m1525884 r1525885 => ?_)
      refine t_callV (As := [.ref a1525883]) (rest := []) E hW (c_X0_copyFrom l G cI cJ cZ cD cR cT kp L f1525836 hW.2.2.2 _ a1525880 a1525883 r1525882 r1525885) r1525882 (by decide) rfl wk_X0_copyFrom tw_1285 rfl ⟨Nat.le_of_ble_eq_true rfl, Nat.le_of_ble_eq_true rfl⟩ ⟨rfl, rfl⟩ hl.1 rfl (Nat.le_of_ble_eq_true rfl) dX11_image_46 ⟨Nat.le_of_ble_eq_true rfl, Nat.le_of_ble_eq_true rfl⟩ (fun v1525886 f1525887 H locs q1525888 hW => ?_)
      obtain ⟨rfl, g1525889⟩ := q1525888
      have hF := FM.tr hF g1525889 rfl
      refine lv_aload_n hx hb dX11_image_49 rfl (lv_at hl 0 rfl) ?_
      refine lv_iconst (v := 1) hx hb dX11_image_50 (by decide) ?_
      refine fp_RX11_353 E hW rh0 (by decide) dX11_image_51 (fun f1525890 H locs e1525891 n1525892 g1525893 hW => ?_)
      have hF := FM.tr hF g1525893 rfl
      exact J1525872 f1525890  _ _ _ hW hF (lv_sub hl [0, 1] rfl)
    · refine lv_aload_n hx hb dX11_image_19 rfl (lv_at hl 0 rfl) ?_
      refine fg_RX11_21 E hW rh0 dX11_image_20 (fun a1525894 m1525895 r1525896 => ?_)
      refine lv_aload_n hx hb dX11_image_23 rfl (lv_at hl 0 rfl) ?_
      refine fg_RX11_12 E hW rh0 dX11_image_24 (fun a1525897 m1525898 r1525899 => ?_)
      refine t_callV (As := [.ref a1525897]) (rest := []) E hW (c_X0_copyFrom l G cI cJ cZ cD cR cT kp L f1525836 hW.2.2.2 _ a1525894 a1525897 r1525896 r1525899) r1525896 (by decide) rfl wk_X0_copyFrom tw_1285 rfl ⟨Nat.le_of_ble_eq_true rfl, Nat.le_of_ble_eq_true rfl⟩ ⟨rfl, rfl⟩ hl.1 rfl (Nat.le_of_ble_eq_true rfl) dX11_image_27 ⟨Nat.le_of_ble_eq_true rfl, Nat.le_of_ble_eq_true rfl⟩ (fun v1525900 f1525901 H locs q1525902 hW => ?_)
      obtain ⟨rfl, g1525903⟩ := q1525902
      have hF := FM.tr hF g1525903 rfl
      refine lv_aload_n hx hb dX11_image_30 rfl (lv_at hl 0 rfl) ?_
      refine lv_iconst (v := 1) hx hb dX11_image_31 (by decide) ?_
      refine fp_RX11_349 E hW rh0 (by decide) dX11_image_32 (fun f1525904 H locs e1525905 n1525906 g1525907 hW => ?_)
      have hF := FM.tr hF g1525907 rfl
      refine lv_goto (tgt := 54) hx hb dX11_image_35 (by decide) ?_
      exact J1525872 f1525904  _ _ _ hW hF (lv_sub hl [0, 1] rfl)
  · have q1525908 : (u1.toInt < 0 ∨ 1 < u1.toInt) := by omega
    clear p1525840
    refine lv_aload_n hx hb dX11_image_9 rfl (lv_at hl 0 rfl) ?_
    refine lv_iconst (v := (-1)) hx hb dX11_image_10 (by decide) ?_
    refine t_callV (As := [.int (-1)]) (rest := []) E hW (c_X11_refuse l G cI cJ cZ cD cR cT kp L f1525836 hW.2.2.2 _ h0 (-1) rh0 (by decide)) rh0 (by decide) rfl wk_X11_refuse tw_603 rfl ⟨Nat.le_of_ble_eq_true rfl, Nat.le_of_ble_eq_true rfl⟩ ⟨rfl, rfl⟩ hl.1 rfl (Nat.le_of_ble_eq_true rfl) dX11_image_11 ⟨Nat.le_of_ble_eq_true rfl, Nat.le_of_ble_eq_true rfl⟩ (fun v1525909 f1525910 H locs q1525911 hW => ?_)
    obtain ⟨⟨x1525913, rfl, p1525914⟩, g1525912⟩ := q1525911
    have p1525914 : (-6 : Int) ≤ x1525913.toInt ∧ x1525913.toInt ≤ -1 := p1525914
    have hF := FM.tr hF g1525912 rfl
    exact e_I E hW rfl ⟨⟨_, rfl, trivial⟩, hF⟩ dX11_image_14
def ms_X11_isWished : List (Nat × Nat) := []
def po_X11_isWished (kp : Nat → Nat) (L : List Nat) (f0 : Nat → va_E) (h0 : Nat) (u1 : Int32) : Option Value → (Nat → va_E) → Prop := fun v f => (∃ r : Int32, v = some (.int r) ∧ ((0 : Int) ≤ r.toInt ∧ r.toInt ≤ 1)) ∧ FM kp L ms_X11_isWished f0 f
set_option maxHeartbeats 4000000 in
set_option maxRecDepth 100000 in
theorem c_X11_isWished (l : Launch) (G : va_G) (cI cJ cZ cD cR cT : ClassId) (kp : Nat → Nat) (L : List Nat) (f0 : Nat → va_E) (hTH : TH cI cJ cZ cD cR cT kp L f0) (sz : Nat) (h0 : Nat) (u1 : Int32) (rh0 : RK kp L h0 11) (pu1 : (0 : Int) ≤ u1.toInt ∧ u1.toInt ≤ 39) : Met l yX11_isWished (Cond.code yX11_isWished cX11_isWished 3 (some .boolean) :: wTab) ({ frames := 1, cells := 0, slots := 0, locals := 40 }) (va_Pc [.ref h0, .int u1] (PreW G (tys6 cI cJ cZ cD cR cT) (va_pl L f0) sz)) (QT (po_X11_isWished kp L f0 h0 u1) G cI cJ cZ cD cR cT (va_A (va_pl L f0) sz) kp L) 0 0 (va_A (va_pl L f0) sz) := by
  refine metT (by decide) (Nat.le_of_ble_eq_true rfl) hTH ?_
  intro p e s m below meth c A ls E hW hl
  obtain ⟨hx, hb, -, hml, hown, hts, -, -, -⟩ := id E
  have hF : FM kp L ms_X11_isWished f0 f0 := FM.rf
  have hl : lv_has ls 3 [(0, .ref h0), (1, .int u1)] := hl
  refine lv_iconst (v := 0) hx hb dX11_isWished_0 (by decide) ?_
  refine lv_istore_n (lv' := [(2, .int 0), (0, .ref h0), (1, .int u1)]) hx hb dX11_isWished_1 rfl hl (by decide) rfl (fun ls hl => ?_)
  have L1526022 : ∀ (n : Nat), ∀ (y1526020 : Int32) (b1526021 : (0 : Int) ≤ y1526020.toInt ∧ y1526020.toInt ≤ 6) (hm : (7 : Int) - y1526020.toInt ≤ n) (H : Heap) (locs : List Loc) (ls : Array Slot), WS G cI cJ cZ cD cR cT A kp L f0 s H locs → FM kp L ms_X11_isWished f0 f0 → lv_has ls 3 [(2, .int y1526020), (0, .ref h0), (1, .int u1)] → W p l e ({ frames := 1, cells := 0, slots := 0, locals := 40 }) s m ([.ref h0, .int u1] : List Value).toArray below meth c H locs 0 0 (MQ below (QT (po_X11_isWished kp L f0 h0 u1) G cI cJ cZ cD cR cT A kp L) ([.ref h0, .int u1] : List Value).toArray s 0 0 A) (F0 m 2 ls []) := by
    intro n
    induction n with
    | zero =>
      intro y1526020 b1526021 hm H locs ls hW hF hl
      have hz := i32_b y1526020
      exfalso; omega
    | succ n ih =>
      intro y1526020 b1526021 hm H locs ls hW hF hl
      have ih2 := ih
      refine lv_iload_n hx hb dX11_isWished_2 rfl (lv_at hl 0 rfl) ?_
      refine lv_aload_n hx hb dX11_isWished_3 rfl (lv_at hl 1 rfl) ?_
      refine fg_RX11_309 E hW rh0 dX11_isWished_4 (fun y1526023 m1526024 b1526025 => ?_)
      refine q_icmp_ge (tgt := 28) hx hb dX11_isWished_7 (by decide) rfl rfl (fun c1526026 => ?_) (fun c1526026 => ?_)
      · refine lv_iconst (v := 0) hx hb dX11_isWished_28 (by decide) ?_
        exact e_Z E hW rfl (by decide) ⟨⟨_, rfl, (by have hk : (0 : Int32).toInt = 0 := rfl; first | decide | omega)⟩, hF⟩ dX11_isWished_29
      · refine lv_aload_n hx hb dX11_isWished_10 rfl (lv_at hl 1 rfl) ?_
        refine fg_RX11_41 E hW rh0 dX11_isWished_11 (fun a1526027 m1526028 r1526029 => ?_)
        refine lv_iload_n hx hb dX11_isWished_14 rfl (lv_at hl 0 rfl) ?_
        refine gl_768 E hW r1526029 ⟨by omega, by omega⟩ dX11_isWished_15 (fun y1526030 m1526031 b1526032 => ?_)
        refine lv_iload_n hx hb dX11_isWished_16 rfl (lv_at hl 2 rfl) ?_
        refine q_icmp_ne (tgt := 22) hx hb dX11_isWished_17 (by decide) rfl rfl (fun c1526033 => ?_) (fun c1526033 => ?_)
        · refine q_iinc hx hb dX11_isWished_22 hl (k := 0) rfl rfl rfl (by omega) (by decide) (fun i1526034 ls h1526035 hl => ?_)
          have hl : lv_has ls 3 [(2, .int i1526034), (0, .ref h0), (1, .int u1)] := hl
          refine lv_goto (tgt := 2) hx hb dX11_isWished_25 (by decide) ?_
          exact ih2 i1526034 (by omega) (by omega) _ _ _ hW hF (lv_sub hl [0, 1, 2] rfl)
        · refine lv_iconst (v := 1) hx hb dX11_isWished_20 (by decide) ?_
          exact e_Z E hW rfl (by decide) ⟨⟨_, rfl, (by have hk : (1 : Int32).toInt = 1 := rfl; first | decide | omega)⟩, hF⟩ dX11_isWished_21
  have hk1526036 : (0 : Int32).toInt = 0 := rfl
  exact L1526022 7 0 (by decide) (by omega) _ _ _ hW hF (lv_sub hl [0, 1, 2] rfl)
def ms_X11_judge : List (Nat × Nat) := [(0, 6), (0, 9), (0, 10), (0, 11), (0, 12), (0, 13), (0, 14), (1, 0), (1, 8), (1, 12), (1, 13), (1, 14), (2, 0), (3, 0), (3, 1), (3, 2), (3, 3), (4, 0), (10, 0), (10, 7), (108, 0), (115, 0), (161, 0), (162, 0), (163, 0), (164, 0), (165, 0), (166, 0), (167, 0), (169, 0), (170, 0), (171, 0), (221, 0), (222, 0), (223, 0), (284, 0), (285, 0), (341, 0), (342, 0), (343, 0), (344, 0), (345, 0), (346, 0), (347, 0), (348, 0), (349, 0), (520, 0), (521, 0), (701, 0), (702, 0), (703, 0), (704, 0), (705, 0), (706, 0), (708, 0), (709, 0), (710, 0)]
def po_X11_judge (kp : Nat → Nat) (L : List Nat) (f0 : Nat → va_E) (h0 : Nat) (u1 : Int32) (u2 : Int32) : Option Value → (Nat → va_E) → Prop := fun v f => (∃ r : Int32, v = some (.int r) ∧ ((-1 : Int) ≤ r.toInt)) ∧ FM kp L ms_X11_judge f0 f
set_option maxHeartbeats 4000000 in
set_option maxRecDepth 100000 in
theorem c_X11_judge (l : Launch) (G : va_G) (cI cJ cZ cD cR cT : ClassId) (kp : Nat → Nat) (L : List Nat) (f0 : Nat → va_E) (hTH : TH cI cJ cZ cD cR cT kp L f0) (sz : Nat) (h0 : Nat) (u1 : Int32) (u2 : Int32) (rh0 : RK kp L h0 11) : Met l yX11_judge (Cond.code yX11_judge cX11_judge 3 (some .int) :: wTab) ({ frames := 8, cells := 0, slots := 0, locals := 217 }) (va_Pc [.ref h0, .int u1, .int u2] (PreW G (tys6 cI cJ cZ cD cR cT) (va_pl L f0) sz)) (QT (po_X11_judge kp L f0 h0 u1 u2) G cI cJ cZ cD cR cT (va_A (va_pl L f0) sz) kp L) 0 0 (va_A (va_pl L f0) sz) := by
  refine metT (by decide) (Nat.le_of_ble_eq_true rfl) hTH ?_
  intro p e s m below meth c A ls E hW hl
  obtain ⟨hx, hb, -, hml, hown, hts, -, -, -⟩ := id E
  have hF : FM kp L ms_X11_judge f0 f0 := FM.rf
  have hl : lv_has ls 3 [(0, .ref h0), (1, .int u1), (2, .int u2)] := hl
  refine lv_aload_n hx hb dX11_judge_0 rfl (lv_at hl 0 rfl) ?_
  refine lv_iload_n hx hb dX11_judge_1 rfl (lv_at hl 2 rfl) ?_
  refine t_callV (As := [.int u2]) (rest := []) E hW (c_X11_canChoose l G cI cJ cZ cD cR cT kp L f0 hW.2.2.2 _ h0 u2 rh0) rh0 (by decide) rfl wk_X11_canChoose tw_1272 rfl ⟨Nat.le_of_ble_eq_true rfl, Nat.le_of_ble_eq_true rfl⟩ ⟨rfl, rfl⟩ hl.1 rfl (Nat.le_of_ble_eq_true rfl) dX11_judge_2 ⟨Nat.le_of_ble_eq_true rfl, Nat.le_of_ble_eq_true rfl⟩ (fun v1526037 f1526038 H locs q1526039 hW => ?_)
  obtain ⟨⟨x1526041, rfl, p1526042⟩, g1526040⟩ := q1526039
  have hF := FM.tr hF g1526040 rfl
  refine q_if_eq (tgt := 24) hx hb dX11_judge_5 (by decide) rfl (fun c1526043 => ?_) (fun c1526043 => ?_)
  · refine lv_iconst (v := (-1)) hx hb dX11_judge_24 (by decide) ?_
    exact e_I E hW rfl ⟨⟨_, rfl, (by have hk : ((-1) : Int32).toInt = -1 := rfl; first | decide | omega)⟩, hF⟩ dX11_judge_25
  · refine lv_iload_n hx hb dX11_judge_8 rfl (lv_at hl 1 rfl) ?_
    refine lv_iconst (v := 0) hx hb dX11_judge_9 (by decide) ?_
    refine lv_iconst (v := 1) hx hb dX11_judge_10 (by decide) ?_
    refine lv_aload_n hx hb dX11_judge_11 rfl (lv_at hl 0 rfl) ?_
    refine fg_RX11_309 E hW rh0 dX11_judge_12 (fun y1526044 m1526045 b1526046 => ?_)
    refine u_ishl hx hb dX11_judge_15 (fun x1526047 => ?_)
    refine lv_iconst (v := 1) hx hb dX11_judge_16 (by decide) ?_
    refine u_isub hx hb dX11_judge_17 (fun x1526048 => ?_)
    refine t_callS (As := [.int u1, .int 0, .int x1526048]) (rest := []) E hW (c_X11_within l G cI cJ cZ cD cR cT kp L f1526038 hW.2.2.2 _ u1 0 x1526048 (by decide)) wk_X11_within tw_599 rfl ⟨Nat.le_of_ble_eq_true rfl, Nat.le_of_ble_eq_true rfl⟩ ⟨rfl, rfl⟩ hl.1 rfl (Nat.le_of_ble_eq_true rfl) dX11_judge_18 ⟨Nat.le_of_ble_eq_true rfl, Nat.le_of_ble_eq_true rfl⟩ (fun v1526049 f1526050 H locs q1526051 hW => ?_)
    obtain ⟨⟨x1526053, rfl, p1526054⟩, g1526052⟩ := q1526051
    have p1526054 : (x1526053.toInt = 1 ∧ 0 ≤ u1.toInt ∧ u1.toInt ≤ x1526048.toInt) ∨ (x1526053.toInt = 0 ∧ (u1.toInt < 0 ∨ x1526048.toInt < u1.toInt)) := p1526054
    have hF := FM.tr hF g1526052 rfl
    refine q_if_ne (tgt := 26) hx hb dX11_judge_21 (by decide) rfl (fun c1526055 => ?_) (fun c1526055 => ?_)
    · have q1526056 : 0 ≤ u1.toInt ∧ u1.toInt ≤ x1526048.toInt := by omega
      clear p1526054
      refine lv_aload_n hx hb dX11_judge_26 rfl (lv_at hl 0 rfl) ?_
      refine lv_iload_n hx hb dX11_judge_27 rfl (lv_at hl 1 rfl) ?_
      refine lv_iload_n hx hb dX11_judge_28 rfl (lv_at hl 2 rfl) ?_
      refine lv_bipush (v := 41) hx hb dX11_judge_29 (by decide) ?_
      refine t_callV (As := [.int u1, .int u2, .int 41]) (rest := []) E hW (c_X11_worstOf l G cI cJ cZ cD cR cT kp L f1526050 hW.2.2.2 _ h0 u1 u2 41 rh0 (by decide)) rh0 (by decide) rfl wk_X11_worstOf tw_1281 rfl ⟨Nat.le_of_ble_eq_true rfl, Nat.le_of_ble_eq_true rfl⟩ ⟨rfl, rfl⟩ hl.1 rfl (Nat.le_of_ble_eq_true rfl) dX11_judge_31 ⟨Nat.le_of_ble_eq_true rfl, Nat.le_of_ble_eq_true rfl⟩ (fun v1526057 f1526058 H locs q1526059 hW => ?_)
      obtain ⟨⟨x1526061, rfl, p1526062⟩, g1526060⟩ := q1526059
      have p1526062 : (0 : Int) ≤ x1526061.toInt := p1526062
      have hF := FM.tr hF g1526060 rfl
      exact e_I E hW rfl ⟨⟨_, rfl, (by first | omega | trivial)⟩, hF⟩ dX11_judge_34
    · have q1526063 : (u1.toInt < 0 ∨ x1526048.toInt < u1.toInt) := by omega
      clear p1526054
      refine lv_iconst (v := (-1)) hx hb dX11_judge_24 (by decide) ?_
      exact e_I E hW rfl ⟨⟨_, rfl, (by have hk : ((-1) : Int32).toInt = -1 := rfl; first | decide | omega)⟩, hF⟩ dX11_judge_25
def ms_X11_keeps : List (Nat × Nat) := []
def po_X11_keeps (kp : Nat → Nat) (L : List Nat) (f0 : Nat → va_E) (h0 : Nat) (u1 : Int32) (u2 : Int32) : Option Value → (Nat → va_E) → Prop := fun v f => (∃ r : Int32, v = some (.int r) ∧ ((-1 : Int) ≤ r.toInt ∧ r.toInt ≤ 1)) ∧ FM kp L ms_X11_keeps f0 f
set_option maxHeartbeats 4000000 in
set_option maxRecDepth 100000 in
theorem c_X11_keeps (l : Launch) (G : va_G) (cI cJ cZ cD cR cT : ClassId) (kp : Nat → Nat) (L : List Nat) (f0 : Nat → va_E) (hTH : TH cI cJ cZ cD cR cT kp L f0) (sz : Nat) (h0 : Nat) (u1 : Int32) (u2 : Int32) (rh0 : RK kp L h0 11) : Met l yX11_keeps (Cond.code yX11_keeps cX11_keeps 4 (some .int) :: wTab) ({ frames := 3, cells := 0, slots := 0, locals := 86 }) (va_Pc [.ref h0, .int u1, .int u2] (PreW G (tys6 cI cJ cZ cD cR cT) (va_pl L f0) sz)) (QT (po_X11_keeps kp L f0 h0 u1 u2) G cI cJ cZ cD cR cT (va_A (va_pl L f0) sz) kp L) 0 0 (va_A (va_pl L f0) sz) := by
  refine metT (by decide) (Nat.le_of_ble_eq_true rfl) hTH ?_
  intro p e s m below meth c A ls E hW hl
  obtain ⟨hx, hb, -, hml, hown, hts, -, -, -⟩ := id E
  have hF : FM kp L ms_X11_keeps f0 f0 := FM.rf
  have hl : lv_has ls 4 [(0, .ref h0), (1, .int u1), (2, .int u2)] := hl
  refine lv_aload_n hx hb dX11_keeps_0 rfl (lv_at hl 0 rfl) ?_
  refine fg_RX11_12 E hW rh0 dX11_keeps_1 (fun a1526064 m1526065 r1526066 => ?_)
  refine fg_RX11_63 E hW r1526066 dX11_keeps_4 (fun a1526067 m1526068 r1526069 => ?_)
  refine lv_astore_n (lv' := [(3, .ref a1526067), (0, .ref h0), (1, .int u1), (2, .int u2)]) hx hb dX11_keeps_7 rfl hl (by decide) rfl (fun ls hl => ?_)
  refine lv_aload_n hx hb dX11_keeps_8 rfl (lv_at hl 0 rfl) ?_
  refine lv_iload_n hx hb dX11_keeps_9 rfl (lv_at hl 2 rfl) ?_
  refine t_callV (As := [.int u1]) (rest := []) E hW (c_X4_has l G cI cJ cZ cD cR cT kp L f0 hW.2.2.2 _ a1526067 u1 r1526069) r1526069 (by decide) rfl wk_X4_has tw_619 rfl ⟨Nat.le_of_ble_eq_true rfl, Nat.le_of_ble_eq_true rfl⟩ ⟨rfl, rfl⟩ hl.1 rfl (Nat.le_of_ble_eq_true rfl) dX11_keeps_10 ⟨Nat.le_of_ble_eq_true rfl, Nat.le_of_ble_eq_true rfl⟩ (fun v1526070 f1526071 H locs q1526072 hW => ?_)
  obtain ⟨⟨x1526074, rfl, p1526075⟩, g1526073⟩ := q1526072
  have hF := FM.tr hF g1526073 rfl
  refine q_if_eq (tgt := 29) hx hb dX11_keeps_13 (by decide) rfl (fun c1526076 => ?_) (fun c1526076 => ?_)
  · clear p1526075
    refine lv_iconst (v := (-1)) hx hb dX11_keeps_29 (by decide) ?_
    exact e_I E hW rfl ⟨⟨_, rfl, (by have hk : ((-1) : Int32).toInt = -1 := rfl; first | decide | omega)⟩, hF⟩ dX11_keeps_30
  · have q1526077 : 0 ≤ u1.toInt ∧ u1.toInt ≤ 39 := by omega
    clear p1526075
    refine lv_aload_n hx hb dX11_keeps_16 rfl (lv_at hl 0 rfl) ?_
    refine lv_iload_n hx hb dX11_keeps_17 rfl (lv_at hl 3 rfl) ?_
    refine t_callV (As := [.int u2]) (rest := []) E hW (c_X4_has l G cI cJ cZ cD cR cT kp L f1526071 hW.2.2.2 _ a1526067 u2 r1526069) r1526069 (by decide) rfl wk_X4_has tw_619 rfl ⟨Nat.le_of_ble_eq_true rfl, Nat.le_of_ble_eq_true rfl⟩ ⟨rfl, rfl⟩ hl.1 rfl (Nat.le_of_ble_eq_true rfl) dX11_keeps_18 ⟨Nat.le_of_ble_eq_true rfl, Nat.le_of_ble_eq_true rfl⟩ (fun v1526078 f1526079 H locs q1526080 hW => ?_)
    obtain ⟨⟨x1526082, rfl, p1526083⟩, g1526081⟩ := q1526080
    have hF := FM.tr hF g1526081 rfl
    refine q_if_eq (tgt := 29) hx hb dX11_keeps_21 (by decide) rfl (fun c1526084 => ?_) (fun c1526084 => ?_)
    · clear p1526083
      refine lv_iconst (v := (-1)) hx hb dX11_keeps_29 (by decide) ?_
      exact e_I E hW rfl ⟨⟨_, rfl, (by have hk : ((-1) : Int32).toInt = -1 := rfl; first | decide | omega)⟩, hF⟩ dX11_keeps_30
    · have q1526085 : 0 ≤ u2.toInt ∧ u2.toInt ≤ 39 := by omega
      clear p1526083
      refine lv_iload_n hx hb dX11_keeps_24 rfl (lv_at hl 2 rfl) ?_
      refine lv_iload_n hx hb dX11_keeps_25 rfl (lv_at hl 3 rfl) ?_
      refine q_icmp_ne (tgt := 31) hx hb dX11_keeps_26 (by decide) rfl rfl (fun c1526086 => ?_) (fun c1526086 => ?_)
      · refine lv_aload_n hx hb dX11_keeps_31 rfl (lv_at hl 0 rfl) ?_
        refine lv_iload_n hx hb dX11_keeps_32 rfl (lv_at hl 2 rfl) ?_
        refine lv_iload_n hx hb dX11_keeps_33 rfl (lv_at hl 3 rfl) ?_
        refine lv_aload_n hx hb dX11_keeps_34 rfl (lv_at hl 1 rfl) ?_
        refine fg_RX11_12 E hW rh0 dX11_keeps_35 (fun a1526087 m1526088 r1526089 => ?_)
        obtain rfl : a1526064 = a1526087 := (((fm_R g1526081 rh0 rfl).trans ((fm_R g1526073 rh0 rfl).trans m1526065))).symm.trans m1526088
        refine fg_RX11_98 E hW r1526066 dX11_keeps_38 (fun a1526090 m1526091 r1526092 => ?_)
        refine fg_RX11_282 E hW r1526092 dX11_keeps_41 (fun y1526093 m1526094 => ?_)
        refine t_callV (As := [.int u1, .int u2, .int y1526093]) (rest := []) E hW (c_X4_keepsBan l G cI cJ cZ cD cR cT kp L f1526079 hW.2.2.2 _ a1526067 u1 u2 y1526093 r1526069 (by omega) (by omega)) r1526069 (by decide) rfl wk_X4_keepsBan tw_1184 rfl ⟨Nat.le_of_ble_eq_true rfl, Nat.le_of_ble_eq_true rfl⟩ ⟨rfl, rfl⟩ hl.1 rfl (Nat.le_of_ble_eq_true rfl) dX11_keeps_44 ⟨Nat.le_of_ble_eq_true rfl, Nat.le_of_ble_eq_true rfl⟩ (fun v1526096 f1526097 H locs q1526098 hW => ?_)
        obtain ⟨⟨x1526100, rfl, p1526101⟩, g1526099⟩ := q1526098
        have hF := FM.tr hF g1526099 rfl
        have J1526104 : ∀ (y1526102 : Int32) (b1526103 : (0 : Int) ≤ y1526102.toInt ∧ y1526102.toInt ≤ 1) (H : Heap) (locs : List Loc) (ls : Array Slot), WS G cI cJ cZ cD cR cT A kp L f1526097 s H locs → FM kp L ms_X11_keeps f0 f1526097 → lv_has ls 4 [(3, .ref a1526067), (0, .ref h0), (1, .int u1), (2, .int u2)] → W p l e ({ frames := 3, cells := 0, slots := 0, locals := 86 }) s m ([.ref h0, .int u1, .int u2] : List Value).toArray below meth c H locs 0 0 (MQ below (QT (po_X11_keeps kp L f0 h0 u1 u2) G cI cJ cZ cD cR cT A kp L) ([.ref h0, .int u1, .int u2] : List Value).toArray s 0 0 A) (F0 m 55 ls [.int y1526102]) := by
          intro y1526102 b1526103 H locs ls hW hF hl
          clear c1526076 c1526084 p1526101
          exact e_I E hW rfl ⟨⟨_, rfl, (by first | omega | trivial)⟩, hF⟩ dX11_keeps_55
        refine q_if_eq (tgt := 54) hx hb dX11_keeps_47 (by decide) rfl (fun c1526105 => ?_) (fun c1526105 => ?_)
        · refine lv_iconst (v := 0) hx hb dX11_keeps_54 (by decide) ?_
          exact J1526104 0 (by decide) _ _ _ hW hF (lv_sub hl [0, 1, 2, 3] rfl)
        · refine lv_iconst (v := 1) hx hb dX11_keeps_50 (by decide) ?_
          refine lv_goto (tgt := 55) hx hb dX11_keeps_51 (by decide) ?_
          exact J1526104 1 (by decide) _ _ _ hW hF (lv_sub hl [0, 1, 2, 3] rfl)
      · refine lv_iconst (v := (-1)) hx hb dX11_keeps_29 (by decide) ?_
        exact e_I E hW rfl ⟨⟨_, rfl, (by have hk : ((-1) : Int32).toInt = -1 := rfl; first | decide | omega)⟩, hF⟩ dX11_keeps_30
def ms_X11_last : List (Nat × Nat) := []
def po_X11_last (kp : Nat → Nat) (L : List Nat) (f0 : Nat → va_E) (h0 : Nat) (u1 : Int32) (u2 : Int32) (u3 : Int32) : Option Value → (Nat → va_E) → Prop := fun v f => (∃ r : Int32, v = some (.int r) ∧ ((-1 : Int) ≤ r.toInt ∧ r.toInt ≤ 400)) ∧ FM kp L ms_X11_last f0 f
set_option maxHeartbeats 4000000 in
set_option maxRecDepth 100000 in
theorem c_X11_last (l : Launch) (G : va_G) (cI cJ cZ cD cR cT : ClassId) (kp : Nat → Nat) (L : List Nat) (f0 : Nat → va_E) (hTH : TH cI cJ cZ cD cR cT kp L f0) (sz : Nat) (h0 : Nat) (u1 : Int32) (u2 : Int32) (u3 : Int32) (rh0 : RK kp L h0 11) : Met l yX11_last (Cond.code yX11_last cX11_last 9 (some .int) :: wTab) ({ frames := 2, cells := 0, slots := 0, locals := 62 }) (va_Pc [.ref h0, .int u1, .int u2, .int u3] (PreW G (tys6 cI cJ cZ cD cR cT) (va_pl L f0) sz)) (QT (po_X11_last kp L f0 h0 u1 u2 u3) G cI cJ cZ cD cR cT (va_A (va_pl L f0) sz) kp L) 0 0 (va_A (va_pl L f0) sz) := by
  refine metT (by decide) (Nat.le_of_ble_eq_true rfl) hTH ?_
  intro p e s m below meth c A ls E hW hl
  obtain ⟨hx, hb, -, hml, hown, hts, -, -, -⟩ := id E
  have hF : FM kp L ms_X11_last f0 f0 := FM.rf
  have hl : lv_has ls 9 [(0, .ref h0), (1, .int u1), (2, .int u2), (3, .int u3)] := hl
  refine lv_iload_n hx hb dX11_last_0 rfl (lv_at hl 1 rfl) ?_
  refine lv_iconst (v := 1) hx hb dX11_last_1 (by decide) ?_
  refine lv_sipush (v := 10000) hx hb dX11_last_2 (by decide) ?_
  refine t_callS (As := [.int u1, .int 1, .int 10000]) (rest := []) E hW (c_X11_within l G cI cJ cZ cD cR cT kp L f0 hW.2.2.2 _ u1 1 10000 (by decide)) wk_X11_within tw_599 rfl ⟨Nat.le_of_ble_eq_true rfl, Nat.le_of_ble_eq_true rfl⟩ ⟨rfl, rfl⟩ hl.1 rfl (Nat.le_of_ble_eq_true rfl) dX11_last_5 ⟨Nat.le_of_ble_eq_true rfl, Nat.le_of_ble_eq_true rfl⟩ (fun v1526106 f1526107 H locs q1526108 hW => ?_)
  obtain ⟨⟨x1526110, rfl, p1526111⟩, g1526109⟩ := q1526108
  have p1526111 : (x1526110.toInt = 1 ∧ 1 ≤ u1.toInt ∧ u1.toInt ≤ 10000) ∨ (x1526110.toInt = 0 ∧ (u1.toInt < 1 ∨ 10000 < u1.toInt)) := p1526111
  have hF := FM.tr hF g1526109 rfl
  refine q_if_eq (tgt := 33) hx hb dX11_last_8 (by decide) rfl (fun c1526112 => ?_) (fun c1526112 => ?_)
  · have q1526113 : (u1.toInt < 1 ∨ 10000 < u1.toInt) := by omega
    clear p1526111
    refine lv_iconst (v := (-1)) hx hb dX11_last_33 (by decide) ?_
    exact e_I E hW rfl ⟨⟨_, rfl, (by have hk : ((-1) : Int32).toInt = -1 := rfl; first | decide | omega)⟩, hF⟩ dX11_last_34
  · have q1526114 : 1 ≤ u1.toInt ∧ u1.toInt ≤ 10000 := by omega
    clear p1526111
    refine lv_iload_n hx hb dX11_last_11 rfl (lv_at hl 2 rfl) ?_
    refine lv_iconst (v := 0) hx hb dX11_last_12 (by decide) ?_
    refine lv_sipush (v := 1000) hx hb dX11_last_13 (by decide) ?_
    refine t_callS (As := [.int u2, .int 0, .int 1000]) (rest := []) E hW (c_X11_within l G cI cJ cZ cD cR cT kp L f1526107 hW.2.2.2 _ u2 0 1000 (by decide)) wk_X11_within tw_599 rfl ⟨Nat.le_of_ble_eq_true rfl, Nat.le_of_ble_eq_true rfl⟩ ⟨rfl, rfl⟩ hl.1 rfl (Nat.le_of_ble_eq_true rfl) dX11_last_16 ⟨Nat.le_of_ble_eq_true rfl, Nat.le_of_ble_eq_true rfl⟩ (fun v1526115 f1526116 H locs q1526117 hW => ?_)
    obtain ⟨⟨x1526119, rfl, p1526120⟩, g1526118⟩ := q1526117
    have p1526120 : (x1526119.toInt = 1 ∧ 0 ≤ u2.toInt ∧ u2.toInt ≤ 1000) ∨ (x1526119.toInt = 0 ∧ (u2.toInt < 0 ∨ 1000 < u2.toInt)) := p1526120
    have hF := FM.tr hF g1526118 rfl
    refine q_if_eq (tgt := 33) hx hb dX11_last_19 (by decide) rfl (fun c1526121 => ?_) (fun c1526121 => ?_)
    · have q1526122 : (u2.toInt < 0 ∨ 1000 < u2.toInt) := by omega
      clear p1526120
      refine lv_iconst (v := (-1)) hx hb dX11_last_33 (by decide) ?_
      exact e_I E hW rfl ⟨⟨_, rfl, (by have hk : ((-1) : Int32).toInt = -1 := rfl; first | decide | omega)⟩, hF⟩ dX11_last_34
    · have q1526123 : 0 ≤ u2.toInt ∧ u2.toInt ≤ 1000 := by omega
      clear p1526120
      refine lv_iload_n hx hb dX11_last_22 rfl (lv_at hl 3 rfl) ?_
      refine lv_iconst (v := 0) hx hb dX11_last_23 (by decide) ?_
      refine lv_sipush (v := 1000) hx hb dX11_last_24 (by decide) ?_
      refine t_callS (As := [.int u3, .int 0, .int 1000]) (rest := []) E hW (c_X11_within l G cI cJ cZ cD cR cT kp L f1526116 hW.2.2.2 _ u3 0 1000 (by decide)) wk_X11_within tw_599 rfl ⟨Nat.le_of_ble_eq_true rfl, Nat.le_of_ble_eq_true rfl⟩ ⟨rfl, rfl⟩ hl.1 rfl (Nat.le_of_ble_eq_true rfl) dX11_last_27 ⟨Nat.le_of_ble_eq_true rfl, Nat.le_of_ble_eq_true rfl⟩ (fun v1526124 f1526125 H locs q1526126 hW => ?_)
      obtain ⟨⟨x1526128, rfl, p1526129⟩, g1526127⟩ := q1526126
      have p1526129 : (x1526128.toInt = 1 ∧ 0 ≤ u3.toInt ∧ u3.toInt ≤ 1000) ∨ (x1526128.toInt = 0 ∧ (u3.toInt < 0 ∨ 1000 < u3.toInt)) := p1526129
      have hF := FM.tr hF g1526127 rfl
      refine q_if_ne (tgt := 35) hx hb dX11_last_30 (by decide) rfl (fun c1526130 => ?_) (fun c1526130 => ?_)
      · have q1526131 : 0 ≤ u3.toInt ∧ u3.toInt ≤ 1000 := by omega
        clear p1526129
        refine lv_aload_n hx hb dX11_last_35 rfl (lv_at hl 0 rfl) ?_
        refine fg_RX11_12 E hW rh0 dX11_last_36 (fun a1526132 m1526133 r1526134 => ?_)
        refine fg_RX11_98 E hW r1526134 dX11_last_39 (fun a1526135 m1526136 r1526137 => ?_)
        refine fg_RX11_102 E hW r1526137 dX11_last_42 (fun y1526138 m1526139 => ?_)
        refine q_i2l hx hb dX11_last_45 rfl (fun x1526141 h1526142 => ?_)
        have hb1526143 : -2147483648 ≤ x1526141.toInt ∧ x1526141.toInt ≤ 2147483647 := by have := i32_b y1526138; omega
        refine lv_lstore (lv' := [(4, .long x1526141), (0, .ref h0), (1, .int u1), (2, .int u2), (3, .int u3)]) hx hb dX11_last_46 hl (by decide) rfl (fun ls hl => ?_)
        refine lv_iload_n hx hb dX11_last_48 rfl (lv_at hl 3 rfl) ?_
        refine q_i2l hx hb dX11_last_49 rfl (fun x1526144 h1526145 => ?_)
        refine lv_lstore (lv' := [(6, .long x1526144), (4, .long x1526141), (0, .ref h0), (1, .int u1), (2, .int u2), (3, .int u3)]) hx hb dX11_last_50 hl (by decide) rfl (fun ls hl => ?_)
        refine lv_iconst (v := 0) hx hb dX11_last_52 (by decide) ?_
        refine lv_istore (lv' := [(8, .int 0), (6, .long x1526144), (4, .long x1526141), (0, .ref h0), (1, .int u1), (2, .int u2), (3, .int u3)]) hx hb dX11_last_53 hl (by decide) rfl (fun ls hl => ?_)
        have L1526934 : ∀ (n : Nat), ∀ (y1526929 : Int32) (y1526931 : Int64) (y1526932 : Int64) (b1526930 : (0 : Int) ≤ y1526929.toInt ∧ y1526929.toInt ≤ 400) (b1526933 : (-2147483648 : Int) ≤ y1526932.toInt) (hm : (401 : Int) - y1526929.toInt ≤ n) (H : Heap) (locs : List Loc) (ls : Array Slot), WS G cI cJ cZ cD cR cT A kp L f1526125 s H locs → FM kp L ms_X11_last f0 f1526125 → lv_has ls 9 [(8, .int y1526929), (6, .long y1526931), (4, .long y1526932), (0, .ref h0), (1, .int u1), (2, .int u2), (3, .int u3)] → W p l e ({ frames := 2, cells := 0, slots := 0, locals := 62 }) s m ([.ref h0, .int u1, .int u2, .int u3] : List Value).toArray below meth c H locs 0 0 (MQ below (QT (po_X11_last kp L f0 h0 u1 u2 u3) G cI cJ cZ cD cR cT A kp L) ([.ref h0, .int u1, .int u2, .int u3] : List Value).toArray s 0 0 A) (F0 m 55 ls []) := by
          intro n
          induction n with
          | zero =>
            intro y1526929 y1526931 y1526932 b1526930 b1526933 hm H locs ls hW hF hl
            have hz := i32_b y1526929
            exfalso; omega
          | succ n ih =>
            intro y1526929 y1526931 y1526932 b1526930 b1526933 hm H locs ls hW hF hl
            clear c1526112 c1526121 c1526130 hb1526143
            have ih55 := ih
            refine lv_iload hx hb dX11_last_55 (lv_at hl 0 rfl) ?_
            refine lv_sipush (v := 400) hx hb dX11_last_57 (by decide) ?_
            refine q_icmp_ge (Y := 400) (tgt := 96) hx hb dX11_last_60 (by decide) rfl rfl (fun c1526935 => ?_) (fun c1526935 => ?_)
            · refine lv_sipush (v := 400) hx hb dX11_last_96 (by decide) ?_
              exact e_I E hW rfl ⟨⟨_, rfl, (by have hk : (400 : Int32).toInt = 400 := rfl; first | decide | omega)⟩, hF⟩ dX11_last_99
            · refine lv_lload hx hb dX11_last_63 (lv_at hl 2 rfl) ?_
              refine lv_iload_n hx hb dX11_last_65 rfl (lv_at hl 4 rfl) ?_
              refine q_i2l hx hb dX11_last_66 rfl (fun x1526936 h1526937 => ?_)
              refine lv_lload hx hb dX11_last_67 (lv_at hl 1 rfl) ?_
              refine u_lmul hx hb dX11_last_69 (fun x1526938 => ?_)
              refine u_lsub hx hb dX11_last_70 (fun x1526939 => ?_)
              refine lv_lstore (lv' := [(4, .long x1526939), (8, .int y1526929), (6, .long y1526931), (0, .ref h0), (1, .int u1), (2, .int u2), (3, .int u3)]) hx hb dX11_last_71 hl (by decide) rfl (fun ls hl => ?_)
              refine lv_lload hx hb dX11_last_73 (lv_at hl 0 rfl) ?_
              refine lv_lconst (v := 0) hx hb dX11_last_75 (by decide) ?_
              refine q_lcmp_ge (Y := 0) (tgt := 83) hx hb dX11_last_76 dX11_last_77 (by decide) rfl rfl (fun c1526940 => ?_) (fun c1526940 => ?_)
              · refine lv_lload hx hb dX11_last_83 (lv_at hl 2 rfl) ?_
                refine lv_iload_n hx hb dX11_last_85 rfl (lv_at hl 6 rfl) ?_
                refine q_i2l hx hb dX11_last_86 rfl (fun x1526941 h1526942 => ?_)
                refine u_ladd hx hb dX11_last_87 (fun x1526943 => ?_)
                refine lv_lstore (lv' := [(6, .long x1526943), (4, .long x1526939), (8, .int y1526929), (0, .ref h0), (1, .int u1), (2, .int u2), (3, .int u3)]) hx hb dX11_last_88 hl (by decide) rfl (fun ls hl => ?_)
                refine q_iinc hx hb dX11_last_90 hl (k := 2) rfl rfl rfl (by omega) (by decide) (fun i1526944 ls h1526945 hl => ?_)
                have hl : lv_has ls 9 [(8, .int i1526944), (6, .long x1526943), (4, .long x1526939), (0, .ref h0), (1, .int u1), (2, .int u2), (3, .int u3)] := hl
                refine lv_goto (tgt := 55) hx hb dX11_last_93 (by decide) ?_
                exact ih55 i1526944 x1526943 x1526939 (by omega) (by omega) (by omega) _ _ _ hW hF (lv_sub hl [0, 1, 2, 3, 4, 5, 6] rfl)
              · refine lv_iload hx hb dX11_last_80 (lv_at hl 1 rfl) ?_
                exact e_I E hW rfl ⟨⟨_, rfl, (by first | omega | trivial)⟩, hF⟩ dX11_last_82
        have hk1526946 : (0 : Int32).toInt = 0 := rfl
        exact L1526934 401 0 x1526144 x1526141 (by decide) (by omega) (by omega) _ _ _ hW hF (lv_sub hl [0, 1, 2, 3, 4, 5, 6] rfl)
      · have q1526947 : (u3.toInt < 0 ∨ 1000 < u3.toInt) := by omega
        clear p1526129
        refine lv_iconst (v := (-1)) hx hb dX11_last_33 (by decide) ?_
        exact e_I E hW rfl ⟨⟨_, rfl, (by have hk : ((-1) : Int32).toInt = -1 := rfl; first | decide | omega)⟩, hF⟩ dX11_last_34
def ms_X11_least : List (Nat × Nat) := [(0, 14), (115, 0), (116, 0), (222, 0), (223, 0)]
def po_X11_least (kp : Nat → Nat) (L : List Nat) (f0 : Nat → va_E) (h0 : Nat) (u1 : Int32) (u2 : Int32) : Option Value → (Nat → va_E) → Prop := fun v f => (∃ r : Int32, v = some (.int r) ∧ ((-1 : Int) ≤ r.toInt ∧ r.toInt ≤ 40)) ∧ FM kp L ms_X11_least f0 f
set_option maxHeartbeats 4000000 in
set_option maxRecDepth 100000 in
theorem c_X11_least (l : Launch) (G : va_G) (cI cJ cZ cD cR cT : ClassId) (kp : Nat → Nat) (L : List Nat) (f0 : Nat → va_E) (hTH : TH cI cJ cZ cD cR cT kp L f0) (sz : Nat) (h0 : Nat) (u1 : Int32) (u2 : Int32) (rh0 : RK kp L h0 11) : Met l yX11_least (Cond.code yX11_least cX11_least 4 (some .int) :: wTab) ({ frames := 6, cells := 0, slots := 0, locals := 170 }) (va_Pc [.ref h0, .int u1, .int u2] (PreW G (tys6 cI cJ cZ cD cR cT) (va_pl L f0) sz)) (QT (po_X11_least kp L f0 h0 u1 u2) G cI cJ cZ cD cR cT (va_A (va_pl L f0) sz) kp L) 0 0 (va_A (va_pl L f0) sz) := by
  refine metT (by decide) (Nat.le_of_ble_eq_true rfl) hTH ?_
  intro p e s m below meth c A ls E hW hl
  obtain ⟨hx, hb, -, hml, hown, hts, -, -, -⟩ := id E
  have hF : FM kp L ms_X11_least f0 f0 := FM.rf
  have hl : lv_has ls 4 [(0, .ref h0), (1, .int u1), (2, .int u2)] := hl
  refine lv_aload_n hx hb dX11_least_0 rfl (lv_at hl 0 rfl) ?_
  refine fg_RX11_12 E hW rh0 dX11_least_1 (fun a1526948 m1526949 r1526950 => ?_)
  refine fg_RX11_255 E hW r1526950 dX11_least_4 (fun y1526951 m1526952 b1526953 => ?_)
  refine lv_bipush (v := 13) hx hb dX11_least_7 (by decide) ?_
  refine q_idiv (Y := 13) hx hb dX11_least_9 rfl rfl (by omega) (by omega) (fun x1526954 h1526955 => ?_)
  refine lv_istore_n (lv' := [(3, .int x1526954), (0, .ref h0), (1, .int u1), (2, .int u2)]) hx hb dX11_least_10 rfl hl (by decide) rfl (fun ls hl => ?_)
  refine lv_iload_n hx hb dX11_least_11 rfl (lv_at hl 3 rfl) ?_
  refine lv_iload_n hx hb dX11_least_12 rfl (lv_at hl 0 rfl) ?_
  refine lv_iconst (v := 1) hx hb dX11_least_13 (by decide) ?_
  refine q_iadd (Y := 1) hx hb dX11_least_14 rfl rfl (by omega) (fun x1526956 h1526957 => ?_)
  refine lv_iload_n hx hb dX11_least_15 rfl (lv_at hl 0 rfl) ?_
  refine lv_bipush (v := 8) hx hb dX11_least_16 (by decide) ?_
  refine q_iadd (Y := 8) hx hb dX11_least_18 rfl rfl (by omega) (fun x1526958 h1526959 => ?_)
  refine t_callS (As := [.int u2, .int x1526956, .int x1526958]) (rest := []) E hW (c_X11_within l G cI cJ cZ cD cR cT kp L f0 hW.2.2.2 _ u2 x1526956 x1526958 (by omega)) wk_X11_within tw_599 rfl ⟨Nat.le_of_ble_eq_true rfl, Nat.le_of_ble_eq_true rfl⟩ ⟨rfl, rfl⟩ hl.1 rfl (Nat.le_of_ble_eq_true rfl) dX11_least_19 ⟨Nat.le_of_ble_eq_true rfl, Nat.le_of_ble_eq_true rfl⟩ (fun v1526960 f1526961 H locs q1526962 hW => ?_)
  obtain ⟨⟨x1526964, rfl, p1526965⟩, g1526963⟩ := q1526962
  have hF := FM.tr hF g1526963 rfl
  refine q_if_eq (tgt := 55) hx hb dX11_least_22 (by decide) rfl (fun c1526966 => ?_) (fun c1526966 => ?_)
  · have q1526967 : (u2.toInt < x1526956.toInt ∨ x1526958.toInt < u2.toInt) := by omega
    clear p1526965
    refine lv_iconst (v := (-1)) hx hb dX11_least_55 (by decide) ?_
    exact e_I E hW rfl ⟨⟨_, rfl, (by have hk : ((-1) : Int32).toInt = -1 := rfl; first | decide | omega)⟩, hF⟩ dX11_least_56
  · have q1526968 : x1526956.toInt ≤ u2.toInt ∧ u2.toInt ≤ x1526958.toInt := by omega
    clear p1526965
    refine lv_aload_n hx hb dX11_least_25 rfl (lv_at hl 1 rfl) ?_
    refine fg_RX11_12 E hW rh0 dX11_least_26 (fun a1526969 m1526970 r1526971 => ?_)
    obtain rfl : a1526948 = a1526969 := (((fm_R g1526963 rh0 rfl).trans m1526949)).symm.trans m1526970
    refine fg_RX11_114 E hW r1526950 dX11_least_29 (fun a1526972 m1526973 r1526974 => ?_)
    refine lv_iload_n hx hb dX11_least_32 rfl (lv_at hl 2 rfl) ?_
    refine t_callV (As := [.int u1]) (rest := []) E hW (c_X1_hasEstate l G cI cJ cZ cD cR cT kp L f1526961 hW.2.2.2 _ a1526972 u1 r1526974) r1526974 (by decide) rfl wk_X1_hasEstate tw_659 rfl ⟨Nat.le_of_ble_eq_true rfl, Nat.le_of_ble_eq_true rfl⟩ ⟨rfl, rfl⟩ hl.1 rfl (Nat.le_of_ble_eq_true rfl) dX11_least_33 ⟨Nat.le_of_ble_eq_true rfl, Nat.le_of_ble_eq_true rfl⟩ (fun v1526975 f1526976 H locs q1526977 hW => ?_)
    obtain ⟨⟨x1526979, rfl, p1526980⟩, g1526978⟩ := q1526977
    have hF := FM.tr hF g1526978 rfl
    refine q_if_eq (tgt := 55) hx hb dX11_least_36 (by decide) rfl (fun c1526981 => ?_) (fun c1526981 => ?_)
    · clear p1526980
      refine lv_iconst (v := (-1)) hx hb dX11_least_55 (by decide) ?_
      exact e_I E hW rfl ⟨⟨_, rfl, (by have hk : ((-1) : Int32).toInt = -1 := rfl; first | decide | omega)⟩, hF⟩ dX11_least_56
    · have q1526982 : 0 ≤ u1.toInt ∧ u1.toInt ≤ 7 := by omega
      clear p1526980
      refine lv_aload_n hx hb dX11_least_39 rfl (lv_at hl 1 rfl) ?_
      refine fg_RX11_12 E hW rh0 dX11_least_40 (fun a1526983 m1526984 r1526985 => ?_)
      obtain rfl : a1526948 = a1526983 := (((fm_R g1526978 rh0 rfl).trans m1526970)).symm.trans m1526984
      refine fg_RX11_114 E hW r1526950 dX11_least_43 (fun a1526986 m1526987 r1526988 => ?_)
      obtain rfl : a1526972 = a1526986 := (((fm_R g1526978 r1526950 rfl).trans m1526973)).symm.trans m1526987
      refine fg_RX11_188 E hW r1526974 dX11_least_46 (fun a1526989 m1526990 r1526991 => ?_)
      refine lv_iload_n hx hb dX11_least_49 rfl (lv_at hl 2 rfl) ?_
      refine gl_171 E hW r1526991 ⟨by omega, by omega⟩ dX11_least_50 (fun y1526992 m1526993 => ?_)
      refine lv_iconst (v := (-1)) hx hb dX11_least_51 (by decide) ?_
      refine q_icmp_eq (Y := -1) (tgt := 57) hx hb dX11_least_52 (by decide) rfl rfl (fun c1526995 => ?_) (fun c1526995 => ?_)
      · refine lv_aload_n hx hb dX11_least_57 rfl (lv_at hl 1 rfl) ?_
        refine fg_RX11_12 E hW rh0 dX11_least_58 (fun a1526996 m1526997 r1526998 => ?_)
        obtain rfl : a1526948 = a1526996 := (m1526984).symm.trans m1526997
        refine t_callV (As := []) (rest := []) E hW (c_X0_lookAtNow l G cI cJ cZ cD cR cT kp L f1526976 hW.2.2.2 _ a1526948 r1526950) r1526950 (by decide) rfl wk_X0_lookAtNow tw_687 rfl ⟨Nat.le_of_ble_eq_true rfl, Nat.le_of_ble_eq_true rfl⟩ ⟨rfl, rfl⟩ hl.1 rfl (Nat.le_of_ble_eq_true rfl) dX11_least_61 ⟨Nat.le_of_ble_eq_true rfl, Nat.le_of_ble_eq_true rfl⟩ (fun v1526999 f1527000 H locs q1527001 hW => ?_)
        obtain ⟨rfl, g1527002⟩ := q1527001
        have hF := FM.tr hF g1527002 rfl
        refine lv_aload_n hx hb dX11_least_64 rfl (lv_at hl 1 rfl) ?_
        refine fg_RX11_12 E hW rh0 dX11_least_65 (fun a1527003 m1527004 r1527005 => ?_)
        obtain rfl : a1526948 = a1527003 := (((fm_R g1527002 rh0 rfl).trans m1526997)).symm.trans m1527004
        refine lv_iload_n hx hb dX11_least_68 rfl (lv_at hl 2 rfl) ?_
        refine lv_iload_n hx hb dX11_least_69 rfl (lv_at hl 3 rfl) ?_
        refine lv_iload_n hx hb dX11_least_70 rfl (lv_at hl 0 rfl) ?_
        refine q_isub hx hb dX11_least_71 rfl rfl (by omega) (fun x1527006 h1527007 => ?_)
        refine t_callV (As := [.int u1, .int x1527006]) (rest := []) E hW (c_X0_fewestKept l G cI cJ cZ cD cR cT kp L f1527000 hW.2.2.2 _ a1526948 u1 x1527006 r1526950 (by omega) (by omega)) r1526950 (by decide) rfl wk_X0_fewestKept tw_1215 rfl ⟨Nat.le_of_ble_eq_true rfl, Nat.le_of_ble_eq_true rfl⟩ ⟨rfl, rfl⟩ hl.1 rfl (Nat.le_of_ble_eq_true rfl) dX11_least_72 ⟨Nat.le_of_ble_eq_true rfl, Nat.le_of_ble_eq_true rfl⟩ (fun v1527008 f1527009 H locs q1527010 hW => ?_)
        obtain ⟨⟨x1527012, rfl, p1527013⟩, g1527011⟩ := q1527010
        have hF := FM.tr hF g1527011 rfl
        exact e_I E hW rfl ⟨⟨_, rfl, (by first | omega | trivial)⟩, hF⟩ dX11_least_75
      · refine lv_iconst (v := (-1)) hx hb dX11_least_55 (by decide) ?_
        exact e_I E hW rfl ⟨⟨_, rfl, (by have hk : ((-1) : Int32).toInt = -1 := rfl; first | decide | omega)⟩, hF⟩ dX11_least_56
def ms_X11_of : List (Nat × Nat) := []
def po_X11_of (kp : Nat → Nat) (L : List Nat) (f0 : Nat → va_E) (h0 : Nat) (u1 : Int32) (u2 : Int32) : Option Value → (Nat → va_E) → Prop := fun v f => (∃ r : Int32, v = some (.int r) ∧ (True)) ∧ FM kp L ms_X11_of f0 f
set_option maxHeartbeats 4000000 in
set_option maxRecDepth 100000 in
theorem c_X11_of (l : Launch) (G : va_G) (cI cJ cZ cD cR cT : ClassId) (kp : Nat → Nat) (L : List Nat) (f0 : Nat → va_E) (hTH : TH cI cJ cZ cD cR cT kp L f0) (sz : Nat) (h0 : Nat) (u1 : Int32) (u2 : Int32) (rh0 : RK kp L h0 11) : Met l yX11_of (Cond.code yX11_of cX11_of 4 (some .int) :: wTab) ({ frames := 2, cells := 0, slots := 0, locals := 63 }) (va_Pc [.ref h0, .int u1, .int u2] (PreW G (tys6 cI cJ cZ cD cR cT) (va_pl L f0) sz)) (QT (po_X11_of kp L f0 h0 u1 u2) G cI cJ cZ cD cR cT (va_A (va_pl L f0) sz) kp L) 0 0 (va_A (va_pl L f0) sz) := by
  refine metT (by decide) (Nat.le_of_ble_eq_true rfl) hTH ?_
  intro p e s m below meth c A ls E hW hl
  obtain ⟨hx, hb, -, hml, hown, hts, -, -, -⟩ := id E
  have hF : FM kp L ms_X11_of f0 f0 := FM.rf
  have hl : lv_has ls 4 [(0, .ref h0), (1, .int u1), (2, .int u2)] := hl
  refine lv_aload_n hx hb dX11_of_0 rfl (lv_at hl 0 rfl) ?_
  refine fg_RX11_12 E hW rh0 dX11_of_1 (fun a1527014 m1527015 r1527016 => ?_)
  refine fg_RX11_63 E hW r1527016 dX11_of_4 (fun a1527017 m1527018 r1527019 => ?_)
  refine lv_astore_n (lv' := [(3, .ref a1527017), (0, .ref h0), (1, .int u1), (2, .int u2)]) hx hb dX11_of_7 rfl hl (by decide) rfl (fun ls hl => ?_)
  refine lv_aload_n hx hb dX11_of_8 rfl (lv_at hl 0 rfl) ?_
  refine lv_iload_n hx hb dX11_of_9 rfl (lv_at hl 2 rfl) ?_
  refine t_callV (As := [.int u1]) (rest := []) E hW (c_X4_has l G cI cJ cZ cD cR cT kp L f0 hW.2.2.2 _ a1527017 u1 r1527019) r1527019 (by decide) rfl wk_X4_has tw_619 rfl ⟨Nat.le_of_ble_eq_true rfl, Nat.le_of_ble_eq_true rfl⟩ ⟨rfl, rfl⟩ hl.1 rfl (Nat.le_of_ble_eq_true rfl) dX11_of_10 ⟨Nat.le_of_ble_eq_true rfl, Nat.le_of_ble_eq_true rfl⟩ (fun v1527020 f1527021 H locs q1527022 hW => ?_)
  obtain ⟨⟨x1527024, rfl, p1527025⟩, g1527023⟩ := q1527022
  have hF := FM.tr hF g1527023 rfl
  refine q_if_ne (tgt := 18) hx hb dX11_of_13 (by decide) rfl (fun c1527026 => ?_) (fun c1527026 => ?_)
  · have q1527027 : 0 ≤ u1.toInt ∧ u1.toInt ≤ 39 := by omega
    clear p1527025
    refine lv_iload_n hx hb dX11_of_18 rfl (lv_at hl 3 rfl) ?_
    by_cases c1527028 : u2.toInt = 0
    · refine lv_tableIn (tgt := 56) hx hb dX11_of_19 (by omega) (by omega) (by rw [c1527028]; rfl) (by decide) ?_
      refine lv_aload_n hx hb dX11_of_56 rfl (lv_at hl 0 rfl) ?_
      refine fg_RX11_87 E hW r1527019 dX11_of_57 (fun a1527029 m1527030 r1527031 => ?_)
      refine lv_iload_n hx hb dX11_of_60 rfl (lv_at hl 2 rfl) ?_
      refine gl_346 E hW r1527031 ⟨by omega, by omega⟩ dX11_of_61 (fun y1527032 m1527033 => ?_)
      exact e_I E hW rfl ⟨⟨_, rfl, trivial⟩, hF⟩ dX11_of_62
    by_cases c1527035 : u2.toInt = 1
    · refine lv_tableIn (tgt := 63) hx hb dX11_of_19 (by omega) (by omega) (by rw [c1527035]; rfl) (by decide) ?_
      refine lv_aload_n hx hb dX11_of_63 rfl (lv_at hl 0 rfl) ?_
      refine fg_RX11_94 E hW r1527019 dX11_of_64 (fun a1527036 m1527037 r1527038 => ?_)
      refine lv_iload_n hx hb dX11_of_67 rfl (lv_at hl 2 rfl) ?_
      refine gl_342 E hW r1527038 ⟨by omega, by omega⟩ dX11_of_68 (fun y1527039 m1527040 => ?_)
      exact e_I E hW rfl ⟨⟨_, rfl, trivial⟩, hF⟩ dX11_of_69
    by_cases c1527042 : u2.toInt = 2
    · refine lv_tableIn (tgt := 70) hx hb dX11_of_19 (by omega) (by omega) (by rw [c1527042]; rfl) (by decide) ?_
      refine lv_aload_n hx hb dX11_of_70 rfl (lv_at hl 0 rfl) ?_
      refine fg_RX11_138 E hW r1527019 dX11_of_71 (fun a1527043 m1527044 r1527045 => ?_)
      refine lv_iload_n hx hb dX11_of_74 rfl (lv_at hl 2 rfl) ?_
      refine gl_345 E hW r1527045 ⟨by omega, by omega⟩ dX11_of_75 (fun y1527046 m1527047 => ?_)
      exact e_I E hW rfl ⟨⟨_, rfl, trivial⟩, hF⟩ dX11_of_76
    by_cases c1527049 : u2.toInt = 3
    · refine lv_tableIn (tgt := 77) hx hb dX11_of_19 (by omega) (by omega) (by rw [c1527049]; rfl) (by decide) ?_
      refine lv_aload_n hx hb dX11_of_77 rfl (lv_at hl 0 rfl) ?_
      refine fg_RX11_141 E hW r1527019 dX11_of_78 (fun a1527050 m1527051 r1527052 => ?_)
      refine lv_iload_n hx hb dX11_of_81 rfl (lv_at hl 2 rfl) ?_
      refine gl_348 E hW r1527052 ⟨by omega, by omega⟩ dX11_of_82 (fun y1527053 m1527054 => ?_)
      exact e_I E hW rfl ⟨⟨_, rfl, trivial⟩, hF⟩ dX11_of_83
    by_cases c1527056 : u2.toInt = 4
    · refine lv_tableIn (tgt := 84) hx hb dX11_of_19 (by omega) (by omega) (by rw [c1527056]; rfl) (by decide) ?_
      refine lv_aload_n hx hb dX11_of_84 rfl (lv_at hl 0 rfl) ?_
      refine fg_RX11_144 E hW r1527019 dX11_of_85 (fun a1527057 m1527058 r1527059 => ?_)
      refine lv_iload_n hx hb dX11_of_88 rfl (lv_at hl 2 rfl) ?_
      refine gl_347 E hW r1527059 ⟨by omega, by omega⟩ dX11_of_89 (fun y1527060 m1527061 => ?_)
      exact e_I E hW rfl ⟨⟨_, rfl, trivial⟩, hF⟩ dX11_of_90
    by_cases c1527063 : u2.toInt = 5
    · refine lv_tableIn (tgt := 91) hx hb dX11_of_19 (by omega) (by omega) (by rw [c1527063]; rfl) (by decide) ?_
      refine lv_aload_n hx hb dX11_of_91 rfl (lv_at hl 0 rfl) ?_
      refine lv_iload_n hx hb dX11_of_92 rfl (lv_at hl 2 rfl) ?_
      refine t_callV (As := [.int u1]) (rest := []) E hW (c_X4_kinOf l G cI cJ cZ cD cR cT kp L f1527021 hW.2.2.2 _ a1527017 u1 r1527019 (by omega)) r1527019 (by decide) rfl wk_X4_kinOf tw_675 rfl ⟨Nat.le_of_ble_eq_true rfl, Nat.le_of_ble_eq_true rfl⟩ ⟨rfl, rfl⟩ hl.1 rfl (Nat.le_of_ble_eq_true rfl) dX11_of_93 ⟨Nat.le_of_ble_eq_true rfl, Nat.le_of_ble_eq_true rfl⟩ (fun v1527064 f1527065 H locs q1527066 hW => ?_)
      obtain ⟨⟨x1527068, rfl, p1527069⟩, g1527067⟩ := q1527066
      clear p1527069
      have hF := FM.tr hF g1527067 rfl
      exact e_I E hW rfl ⟨⟨_, rfl, trivial⟩, hF⟩ dX11_of_96
    refine lv_tableOut (tgt := 97) hx hb dX11_of_19 (by omega) (by decide) ?_
    refine lv_iconst (v := (-1)) hx hb dX11_of_97 (by decide) ?_
    exact e_I E hW rfl ⟨⟨_, rfl, trivial⟩, hF⟩ dX11_of_98
  · clear p1527025
    refine lv_iconst (v := (-1)) hx hb dX11_of_16 (by decide) ?_
    exact e_I E hW rfl ⟨⟨_, rfl, trivial⟩, hF⟩ dX11_of_17
def ms_X11_offer : List (Nat × Nat) := [(3, 3), (11, 15), (284, 0), (285, 0)]
def po_X11_offer (kp : Nat → Nat) (L : List Nat) (f0 : Nat → va_E) (h0 : Nat) (u1 : Int32) (u2 : Int32) : Option Value → (Nat → va_E) → Prop := fun v f => (∃ r : Int32, v = some (.int r) ∧ (True)) ∧ FM kp L ms_X11_offer f0 f
set_option maxHeartbeats 4000000 in
set_option maxRecDepth 100000 in
theorem c_X11_offer (l : Launch) (G : va_G) (cI cJ cZ cD cR cT : ClassId) (kp : Nat → Nat) (L : List Nat) (f0 : Nat → va_E) (hTH : TH cI cJ cZ cD cR cT kp L f0) (sz : Nat) (h0 : Nat) (u1 : Int32) (u2 : Int32) (rh0 : RK kp L h0 11) : Met l yX11_offer (Cond.code yX11_offer cX11_offer 3 (some .int) :: wTab) ({ frames := 2, cells := 0, slots := 0, locals := 62 }) (va_Pc [.ref h0, .int u1, .int u2] (PreW G (tys6 cI cJ cZ cD cR cT) (va_pl L f0) sz)) (QT (po_X11_offer kp L f0 h0 u1 u2) G cI cJ cZ cD cR cT (va_A (va_pl L f0) sz) kp L) 0 0 (va_A (va_pl L f0) sz) := by
  refine metT (by decide) (Nat.le_of_ble_eq_true rfl) hTH ?_
  intro p e s m below meth c A ls E hW hl
  obtain ⟨hx, hb, -, hml, hown, hts, -, -, -⟩ := id E
  have hF : FM kp L ms_X11_offer f0 f0 := FM.rf
  have hl : lv_has ls 3 [(0, .ref h0), (1, .int u1), (2, .int u2)] := hl
  refine lv_iload_n hx hb dX11_offer_0 rfl (lv_at hl 1 rfl) ?_
  refine lv_sipush (v := (-1000)) hx hb dX11_offer_1 (by decide) ?_
  refine lv_sipush (v := 1000) hx hb dX11_offer_4 (by decide) ?_
  refine t_callS (As := [.int u1, .int (-1000), .int 1000]) (rest := []) E hW (c_X11_within l G cI cJ cZ cD cR cT kp L f0 hW.2.2.2 _ u1 (-1000) 1000 (by decide)) wk_X11_within tw_599 rfl ⟨Nat.le_of_ble_eq_true rfl, Nat.le_of_ble_eq_true rfl⟩ ⟨rfl, rfl⟩ hl.1 rfl (Nat.le_of_ble_eq_true rfl) dX11_offer_7 ⟨Nat.le_of_ble_eq_true rfl, Nat.le_of_ble_eq_true rfl⟩ (fun v1527070 f1527071 H locs q1527072 hW => ?_)
  obtain ⟨⟨x1527074, rfl, p1527075⟩, g1527073⟩ := q1527072
  have p1527075 : (x1527074.toInt = 1 ∧ (-1000) ≤ u1.toInt ∧ u1.toInt ≤ 1000) ∨ (x1527074.toInt = 0 ∧ (u1.toInt < (-1000) ∨ 1000 < u1.toInt)) := p1527075
  have hF := FM.tr hF g1527073 rfl
  refine q_if_eq (tgt := 26) hx hb dX11_offer_10 (by decide) rfl (fun c1527076 => ?_) (fun c1527076 => ?_)
  · have q1527077 : (u1.toInt < (-1000) ∨ 1000 < u1.toInt) := by omega
    clear p1527075
    refine lv_aload_n hx hb dX11_offer_26 rfl (lv_at hl 0 rfl) ?_
    refine lv_iconst (v := (-1)) hx hb dX11_offer_27 (by decide) ?_
    refine t_callV (As := [.int (-1)]) (rest := []) E hW (c_X11_refuse l G cI cJ cZ cD cR cT kp L f1527071 hW.2.2.2 _ h0 (-1) rh0 (by decide)) rh0 (by decide) rfl wk_X11_refuse tw_603 rfl ⟨Nat.le_of_ble_eq_true rfl, Nat.le_of_ble_eq_true rfl⟩ ⟨rfl, rfl⟩ hl.1 rfl (Nat.le_of_ble_eq_true rfl) dX11_offer_28 ⟨Nat.le_of_ble_eq_true rfl, Nat.le_of_ble_eq_true rfl⟩ (fun v1527078 f1527079 H locs q1527080 hW => ?_)
    obtain ⟨⟨x1527082, rfl, p1527083⟩, g1527081⟩ := q1527080
    have p1527083 : (-6 : Int) ≤ x1527082.toInt ∧ x1527082.toInt ≤ -1 := p1527083
    have hF := FM.tr hF g1527081 rfl
    exact e_I E hW rfl ⟨⟨_, rfl, trivial⟩, hF⟩ dX11_offer_31
  · have q1527084 : (-1000) ≤ u1.toInt ∧ u1.toInt ≤ 1000 := by omega
    clear p1527075
    refine lv_iload_n hx hb dX11_offer_13 rfl (lv_at hl 2 rfl) ?_
    refine lv_sipush (v := (-1000)) hx hb dX11_offer_14 (by decide) ?_
    refine lv_sipush (v := 1000) hx hb dX11_offer_17 (by decide) ?_
    refine t_callS (As := [.int u2, .int (-1000), .int 1000]) (rest := []) E hW (c_X11_within l G cI cJ cZ cD cR cT kp L f1527071 hW.2.2.2 _ u2 (-1000) 1000 (by decide)) wk_X11_within tw_599 rfl ⟨Nat.le_of_ble_eq_true rfl, Nat.le_of_ble_eq_true rfl⟩ ⟨rfl, rfl⟩ hl.1 rfl (Nat.le_of_ble_eq_true rfl) dX11_offer_20 ⟨Nat.le_of_ble_eq_true rfl, Nat.le_of_ble_eq_true rfl⟩ (fun v1527085 f1527086 H locs q1527087 hW => ?_)
    obtain ⟨⟨x1527089, rfl, p1527090⟩, g1527088⟩ := q1527087
    have p1527090 : (x1527089.toInt = 1 ∧ (-1000) ≤ u2.toInt ∧ u2.toInt ≤ 1000) ∨ (x1527089.toInt = 0 ∧ (u2.toInt < (-1000) ∨ 1000 < u2.toInt)) := p1527090
    have hF := FM.tr hF g1527088 rfl
    refine q_if_ne (tgt := 32) hx hb dX11_offer_23 (by decide) rfl (fun c1527091 => ?_) (fun c1527091 => ?_)
    · have q1527092 : (-1000) ≤ u2.toInt ∧ u2.toInt ≤ 1000 := by omega
      clear p1527090
      refine lv_aload_n hx hb dX11_offer_32 rfl (lv_at hl 0 rfl) ?_
      refine fg_RX11_12 E hW rh0 dX11_offer_33 (fun a1527093 m1527094 r1527095 => ?_)
      refine fg_RX11_98 E hW r1527095 dX11_offer_36 (fun a1527096 m1527097 r1527098 => ?_)
      refine fg_RX11_297 E hW r1527098 dX11_offer_39 (fun y1527099 m1527100 b1527101 => ?_)
      refine lv_bipush (v := 9) hx hb dX11_offer_42 (by decide) ?_
      refine q_icmp_lt (Y := 9) (tgt := 54) hx hb dX11_offer_44 (by decide) rfl rfl (fun c1527102 => ?_) (fun c1527102 => ?_)
      · refine lv_aload_n hx hb dX11_offer_54 rfl (lv_at hl 0 rfl) ?_
        refine lv_aload_n hx hb dX11_offer_55 rfl (lv_at hl 0 rfl) ?_
        refine fg_RX11_12 E hW rh0 dX11_offer_56 (fun a1527103 m1527104 r1527105 => ?_)
        obtain rfl : a1527093 = a1527103 := (m1527094).symm.trans m1527104
        refine fg_RX11_98 E hW r1527095 dX11_offer_59 (fun a1527106 m1527107 r1527108 => ?_)
        obtain rfl : a1527096 = a1527106 := (m1527097).symm.trans m1527107
        refine lv_iload_n hx hb dX11_offer_62 rfl (lv_at hl 1 rfl) ?_
        refine lv_iload_n hx hb dX11_offer_63 rfl (lv_at hl 2 rfl) ?_
        refine t_callV (As := [.int u1, .int u2]) (rest := [.ref h0]) E hW (c_X3_addOffer l G cI cJ cZ cD cR cT kp L f1527086 hW.2.2.2 _ a1527096 u1 u2 r1527098 (by omega) (by omega)) r1527098 (by decide) rfl wk_X3_addOffer tw_1230 rfl ⟨Nat.le_of_ble_eq_true rfl, Nat.le_of_ble_eq_true rfl⟩ ⟨rfl, rfl⟩ hl.1 rfl (Nat.le_of_ble_eq_true rfl) dX11_offer_64 ⟨Nat.le_of_ble_eq_true rfl, Nat.le_of_ble_eq_true rfl⟩ (fun v1527109 f1527110 H locs q1527111 hW => ?_)
        obtain ⟨⟨x1527113, rfl, p1527114⟩, g1527112⟩ := q1527111
        have hF := FM.tr hF g1527112 rfl
        refine t_callV (As := [.int x1527113]) (rest := []) E hW (c_X11_accept l G cI cJ cZ cD cR cT kp L f1527110 hW.2.2.2 _ h0 x1527113 rh0) rh0 (by decide) rfl wk_X11_accept tw_611 rfl ⟨Nat.le_of_ble_eq_true rfl, Nat.le_of_ble_eq_true rfl⟩ ⟨rfl, rfl⟩ hl.1 rfl (Nat.le_of_ble_eq_true rfl) dX11_offer_67 ⟨Nat.le_of_ble_eq_true rfl, Nat.le_of_ble_eq_true rfl⟩ (fun v1527115 f1527116 H locs q1527117 hW => ?_)
        obtain ⟨⟨x1527119, rfl, p1527120⟩, g1527118⟩ := q1527117
        clear p1527120
        have hF := FM.tr hF g1527118 rfl
        exact e_I E hW rfl ⟨⟨_, rfl, trivial⟩, hF⟩ dX11_offer_70
      · refine lv_aload_n hx hb dX11_offer_47 rfl (lv_at hl 0 rfl) ?_
        refine lv_bipush (v := (-5)) hx hb dX11_offer_48 (by decide) ?_
        refine t_callV (As := [.int (-5)]) (rest := []) E hW (c_X11_refuse l G cI cJ cZ cD cR cT kp L f1527086 hW.2.2.2 _ h0 (-5) rh0 (by decide)) rh0 (by decide) rfl wk_X11_refuse tw_603 rfl ⟨Nat.le_of_ble_eq_true rfl, Nat.le_of_ble_eq_true rfl⟩ ⟨rfl, rfl⟩ hl.1 rfl (Nat.le_of_ble_eq_true rfl) dX11_offer_50 ⟨Nat.le_of_ble_eq_true rfl, Nat.le_of_ble_eq_true rfl⟩ (fun v1527121 f1527122 H locs q1527123 hW => ?_)
        obtain ⟨⟨x1527125, rfl, p1527126⟩, g1527124⟩ := q1527123
        have p1527126 : (-6 : Int) ≤ x1527125.toInt ∧ x1527125.toInt ≤ -1 := p1527126
        have hF := FM.tr hF g1527124 rfl
        exact e_I E hW rfl ⟨⟨_, rfl, trivial⟩, hF⟩ dX11_offer_53
    · have q1527127 : (u2.toInt < (-1000) ∨ 1000 < u2.toInt) := by omega
      clear p1527090
      refine lv_aload_n hx hb dX11_offer_26 rfl (lv_at hl 0 rfl) ?_
      refine lv_iconst (v := (-1)) hx hb dX11_offer_27 (by decide) ?_
      refine t_callV (As := [.int (-1)]) (rest := []) E hW (c_X11_refuse l G cI cJ cZ cD cR cT kp L f1527086 hW.2.2.2 _ h0 (-1) rh0 (by decide)) rh0 (by decide) rfl wk_X11_refuse tw_603 rfl ⟨Nat.le_of_ble_eq_true rfl, Nat.le_of_ble_eq_true rfl⟩ ⟨rfl, rfl⟩ hl.1 rfl (Nat.le_of_ble_eq_true rfl) dX11_offer_28 ⟨Nat.le_of_ble_eq_true rfl, Nat.le_of_ble_eq_true rfl⟩ (fun v1527128 f1527129 H locs q1527130 hW => ?_)
      obtain ⟨⟨x1527132, rfl, p1527133⟩, g1527131⟩ := q1527130
      have p1527133 : (-6 : Int) ≤ x1527132.toInt ∧ x1527132.toInt ≤ -1 := p1527133
      have hF := FM.tr hF g1527131 rfl
      exact e_I E hW rfl ⟨⟨_, rfl, trivial⟩, hF⟩ dX11_offer_31
def ms_X11_owner : List (Nat × Nat) := []
def po_X11_owner (kp : Nat → Nat) (L : List Nat) (f0 : Nat → va_E) (h0 : Nat) (u1 : Int32) (u2 : Int32) : Option Value → (Nat → va_E) → Prop := fun v f => (∃ r : Int32, v = some (.int r) ∧ (True)) ∧ FM kp L ms_X11_owner f0 f
set_option maxHeartbeats 4000000 in
set_option maxRecDepth 100000 in
theorem c_X11_owner (l : Launch) (G : va_G) (cI cJ cZ cD cR cT : ClassId) (kp : Nat → Nat) (L : List Nat) (f0 : Nat → va_E) (hTH : TH cI cJ cZ cD cR cT kp L f0) (sz : Nat) (h0 : Nat) (u1 : Int32) (u2 : Int32) (rh0 : RK kp L h0 11) : Met l yX11_owner (Cond.code yX11_owner cX11_owner 4 (some .int) :: wTab) ({ frames := 2, cells := 0, slots := 0, locals := 61 }) (va_Pc [.ref h0, .int u1, .int u2] (PreW G (tys6 cI cJ cZ cD cR cT) (va_pl L f0) sz)) (QT (po_X11_owner kp L f0 h0 u1 u2) G cI cJ cZ cD cR cT (va_A (va_pl L f0) sz) kp L) 0 0 (va_A (va_pl L f0) sz) := by
  refine metT (by decide) (Nat.le_of_ble_eq_true rfl) hTH ?_
  intro p e s m below meth c A ls E hW hl
  obtain ⟨hx, hb, -, hml, hown, hts, -, -, -⟩ := id E
  have hF : FM kp L ms_X11_owner f0 f0 := FM.rf
  have hl : lv_has ls 4 [(0, .ref h0), (1, .int u1), (2, .int u2)] := hl
  refine lv_aload_n hx hb dX11_owner_0 rfl (lv_at hl 0 rfl) ?_
  refine fg_RX11_12 E hW rh0 dX11_owner_1 (fun a1527134 m1527135 r1527136 => ?_)
  refine fg_RX11_114 E hW r1527136 dX11_owner_4 (fun a1527137 m1527138 r1527139 => ?_)
  refine lv_astore_n (lv' := [(3, .ref a1527137), (0, .ref h0), (1, .int u1), (2, .int u2)]) hx hb dX11_owner_7 rfl hl (by decide) rfl (fun ls hl => ?_)
  refine lv_aload_n hx hb dX11_owner_8 rfl (lv_at hl 0 rfl) ?_
  refine lv_iload_n hx hb dX11_owner_9 rfl (lv_at hl 2 rfl) ?_
  refine t_callV (As := [.int u1]) (rest := []) E hW (c_X1_hasEstate l G cI cJ cZ cD cR cT kp L f0 hW.2.2.2 _ a1527137 u1 r1527139) r1527139 (by decide) rfl wk_X1_hasEstate tw_659 rfl ⟨Nat.le_of_ble_eq_true rfl, Nat.le_of_ble_eq_true rfl⟩ ⟨rfl, rfl⟩ hl.1 rfl (Nat.le_of_ble_eq_true rfl) dX11_owner_10 ⟨Nat.le_of_ble_eq_true rfl, Nat.le_of_ble_eq_true rfl⟩ (fun v1527140 f1527141 H locs q1527142 hW => ?_)
  obtain ⟨⟨x1527144, rfl, p1527145⟩, g1527143⟩ := q1527142
  have hF := FM.tr hF g1527143 rfl
  refine q_if_ne (tgt := 18) hx hb dX11_owner_13 (by decide) rfl (fun c1527146 => ?_) (fun c1527146 => ?_)
  · have q1527147 : 0 ≤ u1.toInt ∧ u1.toInt ≤ 7 := by omega
    clear p1527145
    refine lv_iload_n hx hb dX11_owner_18 rfl (lv_at hl 3 rfl) ?_
    by_cases c1527148 : u2.toInt = 0
    · refine lv_lookup (off := 25) (tgt := 44) hx hb dX11_owner_19 (by decide) (by rw [c1527148]; decide) (by decide) ?_
      refine lv_aload_n hx hb dX11_owner_44 rfl (lv_at hl 0 rfl) ?_
      refine fg_RX11_185 E hW r1527139 dX11_owner_45 (fun a1527149 m1527150 r1527151 => ?_)
      refine lv_iload_n hx hb dX11_owner_48 rfl (lv_at hl 2 rfl) ?_
      refine gl_169 E hW r1527151 ⟨by omega, by omega⟩ dX11_owner_49 (fun y1527152 m1527153 => ?_)
      exact e_I E hW rfl ⟨⟨_, rfl, trivial⟩, hF⟩ dX11_owner_50
    by_cases c1527155 : u2.toInt = 1
    · refine lv_lookup (off := 32) (tgt := 51) hx hb dX11_owner_19 (by decide) (by rw [c1527155]; decide) (by decide) ?_
      refine lv_aload_n hx hb dX11_owner_51 rfl (lv_at hl 0 rfl) ?_
      refine fg_RX11_188 E hW r1527139 dX11_owner_52 (fun a1527156 m1527157 r1527158 => ?_)
      refine lv_iload_n hx hb dX11_owner_55 rfl (lv_at hl 2 rfl) ?_
      refine gl_171 E hW r1527158 ⟨by omega, by omega⟩ dX11_owner_56 (fun y1527159 m1527160 => ?_)
      exact e_I E hW rfl ⟨⟨_, rfl, trivial⟩, hF⟩ dX11_owner_57
    refine lv_lookup (off := 39) (tgt := 58) hx hb dX11_owner_19 (by decide) (by simp [Op.lookupswitch.offset, List.find?, Ne.symm c1527148, Ne.symm c1527155, c1527148, c1527155]) (by decide) ?_
    refine lv_iconst (v := (-1)) hx hb dX11_owner_58 (by decide) ?_
    exact e_I E hW rfl ⟨⟨_, rfl, trivial⟩, hF⟩ dX11_owner_59
  · clear p1527145
    refine lv_iconst (v := (-1)) hx hb dX11_owner_16 (by decide) ?_
    exact e_I E hW rfl ⟨⟨_, rfl, trivial⟩, hF⟩ dX11_owner_17
def ms_X11_person : List (Nat × Nat) := [(4, 0), (11, 15), (341, 0), (342, 0), (343, 0), (344, 0), (345, 0), (346, 0), (347, 0), (348, 0)]
def po_X11_person (kp : Nat → Nat) (L : List Nat) (f0 : Nat → va_E) (h0 : Nat) (u1 : Int32) (u2 : Int32) (u3 : Int32) : Option Value → (Nat → va_E) → Prop := fun v f => (∃ r : Int32, v = some (.int r) ∧ (True)) ∧ FM kp L ms_X11_person f0 f
set_option maxHeartbeats 4000000 in
set_option maxRecDepth 100000 in
theorem c_X11_person (l : Launch) (G : va_G) (cI cJ cZ cD cR cT : ClassId) (kp : Nat → Nat) (L : List Nat) (f0 : Nat → va_E) (hTH : TH cI cJ cZ cD cR cT kp L f0) (sz : Nat) (h0 : Nat) (u1 : Int32) (u2 : Int32) (u3 : Int32) (rh0 : RK kp L h0 11) : Met l yX11_person (Cond.code yX11_person cX11_person 4 (some .int) :: wTab) ({ frames := 2, cells := 0, slots := 0, locals := 64 }) (va_Pc [.ref h0, .int u1, .int u2, .int u3] (PreW G (tys6 cI cJ cZ cD cR cT) (va_pl L f0) sz)) (QT (po_X11_person kp L f0 h0 u1 u2 u3) G cI cJ cZ cD cR cT (va_A (va_pl L f0) sz) kp L) 0 0 (va_A (va_pl L f0) sz) := by
  refine metT (by decide) (Nat.le_of_ble_eq_true rfl) hTH ?_
  intro p e s m below meth c A ls E hW hl
  obtain ⟨hx, hb, -, hml, hown, hts, -, -, -⟩ := id E
  have hF : FM kp L ms_X11_person f0 f0 := FM.rf
  have hl : lv_has ls 4 [(0, .ref h0), (1, .int u1), (2, .int u2), (3, .int u3)] := hl
  refine lv_iload_n hx hb dX11_person_0 rfl (lv_at hl 1 rfl) ?_
  refine lv_iconst (v := 0) hx hb dX11_person_1 (by decide) ?_
  refine lv_bipush (v := 19) hx hb dX11_person_2 (by decide) ?_
  refine t_callS (As := [.int u1, .int 0, .int 19]) (rest := []) E hW (c_X11_within l G cI cJ cZ cD cR cT kp L f0 hW.2.2.2 _ u1 0 19 (by decide)) wk_X11_within tw_599 rfl ⟨Nat.le_of_ble_eq_true rfl, Nat.le_of_ble_eq_true rfl⟩ ⟨rfl, rfl⟩ hl.1 rfl (Nat.le_of_ble_eq_true rfl) dX11_person_4 ⟨Nat.le_of_ble_eq_true rfl, Nat.le_of_ble_eq_true rfl⟩ (fun v1527162 f1527163 H locs q1527164 hW => ?_)
  obtain ⟨⟨x1527166, rfl, p1527167⟩, g1527165⟩ := q1527164
  have p1527167 : (x1527166.toInt = 1 ∧ 0 ≤ u1.toInt ∧ u1.toInt ≤ 19) ∨ (x1527166.toInt = 0 ∧ (u1.toInt < 0 ∨ 19 < u1.toInt)) := p1527167
  have hF := FM.tr hF g1527165 rfl
  refine q_if_eq (tgt := 30) hx hb dX11_person_7 (by decide) rfl (fun c1527168 => ?_) (fun c1527168 => ?_)
  · have q1527169 : (u1.toInt < 0 ∨ 19 < u1.toInt) := by omega
    clear p1527167
    refine lv_aload_n hx hb dX11_person_30 rfl (lv_at hl 0 rfl) ?_
    refine lv_iconst (v := (-1)) hx hb dX11_person_31 (by decide) ?_
    refine t_callV (As := [.int (-1)]) (rest := []) E hW (c_X11_refuse l G cI cJ cZ cD cR cT kp L f1527163 hW.2.2.2 _ h0 (-1) rh0 (by decide)) rh0 (by decide) rfl wk_X11_refuse tw_603 rfl ⟨Nat.le_of_ble_eq_true rfl, Nat.le_of_ble_eq_true rfl⟩ ⟨rfl, rfl⟩ hl.1 rfl (Nat.le_of_ble_eq_true rfl) dX11_person_32 ⟨Nat.le_of_ble_eq_true rfl, Nat.le_of_ble_eq_true rfl⟩ (fun v1527170 f1527171 H locs q1527172 hW => ?_)
    obtain ⟨⟨x1527174, rfl, p1527175⟩, g1527173⟩ := q1527172
    have p1527175 : (-6 : Int) ≤ x1527174.toInt ∧ x1527174.toInt ≤ -1 := p1527175
    have hF := FM.tr hF g1527173 rfl
    exact e_I E hW rfl ⟨⟨_, rfl, trivial⟩, hF⟩ dX11_person_35
  · have q1527176 : 0 ≤ u1.toInt ∧ u1.toInt ≤ 19 := by omega
    clear p1527167
    refine lv_iload_n hx hb dX11_person_10 rfl (lv_at hl 2 rfl) ?_
    refine lv_iconst (v := 0) hx hb dX11_person_11 (by decide) ?_
    refine lv_ldc (v := 1000000) hx hb hown (hts _ tw_602) dX11_person_12 ?_
    refine t_callS (As := [.int u2, .int 0, .int 1000000]) (rest := []) E hW (c_X11_within l G cI cJ cZ cD cR cT kp L f1527163 hW.2.2.2 _ u2 0 1000000 (by decide)) wk_X11_within tw_599 rfl ⟨Nat.le_of_ble_eq_true rfl, Nat.le_of_ble_eq_true rfl⟩ ⟨rfl, rfl⟩ hl.1 rfl (Nat.le_of_ble_eq_true rfl) dX11_person_14 ⟨Nat.le_of_ble_eq_true rfl, Nat.le_of_ble_eq_true rfl⟩ (fun v1527177 f1527178 H locs q1527179 hW => ?_)
    obtain ⟨⟨x1527181, rfl, p1527182⟩, g1527180⟩ := q1527179
    have p1527182 : (x1527181.toInt = 1 ∧ 0 ≤ u2.toInt ∧ u2.toInt ≤ 1000000) ∨ (x1527181.toInt = 0 ∧ (u2.toInt < 0 ∨ 1000000 < u2.toInt)) := p1527182
    have hF := FM.tr hF g1527180 rfl
    refine q_if_eq (tgt := 30) hx hb dX11_person_17 (by decide) rfl (fun c1527183 => ?_) (fun c1527183 => ?_)
    · have q1527184 : (u2.toInt < 0 ∨ 1000000 < u2.toInt) := by omega
      clear p1527182
      refine lv_aload_n hx hb dX11_person_30 rfl (lv_at hl 0 rfl) ?_
      refine lv_iconst (v := (-1)) hx hb dX11_person_31 (by decide) ?_
      refine t_callV (As := [.int (-1)]) (rest := []) E hW (c_X11_refuse l G cI cJ cZ cD cR cT kp L f1527178 hW.2.2.2 _ h0 (-1) rh0 (by decide)) rh0 (by decide) rfl wk_X11_refuse tw_603 rfl ⟨Nat.le_of_ble_eq_true rfl, Nat.le_of_ble_eq_true rfl⟩ ⟨rfl, rfl⟩ hl.1 rfl (Nat.le_of_ble_eq_true rfl) dX11_person_32 ⟨Nat.le_of_ble_eq_true rfl, Nat.le_of_ble_eq_true rfl⟩ (fun v1527185 f1527186 H locs q1527187 hW => ?_)
      obtain ⟨⟨x1527189, rfl, p1527190⟩, g1527188⟩ := q1527187
      have p1527190 : (-6 : Int) ≤ x1527189.toInt ∧ x1527189.toInt ≤ -1 := p1527190
      have hF := FM.tr hF g1527188 rfl
      exact e_I E hW rfl ⟨⟨_, rfl, trivial⟩, hF⟩ dX11_person_35
    · have q1527191 : 0 ≤ u2.toInt ∧ u2.toInt ≤ 1000000 := by omega
      clear p1527182
      refine lv_iload_n hx hb dX11_person_20 rfl (lv_at hl 3 rfl) ?_
      refine lv_iconst (v := 0) hx hb dX11_person_21 (by decide) ?_
      refine lv_bipush (v := 100) hx hb dX11_person_22 (by decide) ?_
      refine t_callS (As := [.int u3, .int 0, .int 100]) (rest := []) E hW (c_X11_within l G cI cJ cZ cD cR cT kp L f1527178 hW.2.2.2 _ u3 0 100 (by decide)) wk_X11_within tw_599 rfl ⟨Nat.le_of_ble_eq_true rfl, Nat.le_of_ble_eq_true rfl⟩ ⟨rfl, rfl⟩ hl.1 rfl (Nat.le_of_ble_eq_true rfl) dX11_person_24 ⟨Nat.le_of_ble_eq_true rfl, Nat.le_of_ble_eq_true rfl⟩ (fun v1527192 f1527193 H locs q1527194 hW => ?_)
      obtain ⟨⟨x1527196, rfl, p1527197⟩, g1527195⟩ := q1527194
      have p1527197 : (x1527196.toInt = 1 ∧ 0 ≤ u3.toInt ∧ u3.toInt ≤ 100) ∨ (x1527196.toInt = 0 ∧ (u3.toInt < 0 ∨ 100 < u3.toInt)) := p1527197
      have hF := FM.tr hF g1527195 rfl
      refine q_if_ne (tgt := 36) hx hb dX11_person_27 (by decide) rfl (fun c1527198 => ?_) (fun c1527198 => ?_)
      · have q1527199 : 0 ≤ u3.toInt ∧ u3.toInt ≤ 100 := by omega
        clear p1527197
        refine lv_aload_n hx hb dX11_person_36 rfl (lv_at hl 0 rfl) ?_
        refine fg_RX11_12 E hW rh0 dX11_person_37 (fun a1527200 m1527201 r1527202 => ?_)
        refine fg_RX11_63 E hW r1527202 dX11_person_40 (fun a1527203 m1527204 r1527205 => ?_)
        refine fg_RX11_67 E hW r1527205 dX11_person_43 (fun y1527206 m1527207 b1527208 => ?_)
        refine lv_bipush (v := 40) hx hb dX11_person_46 (by decide) ?_
        refine q_icmp_lt (Y := 40) (tgt := 58) hx hb dX11_person_48 (by decide) rfl rfl (fun c1527209 => ?_) (fun c1527209 => ?_)
        · refine lv_aload_n hx hb dX11_person_58 rfl (lv_at hl 0 rfl) ?_
          refine lv_aload_n hx hb dX11_person_59 rfl (lv_at hl 0 rfl) ?_
          refine fg_RX11_12 E hW rh0 dX11_person_60 (fun a1527210 m1527211 r1527212 => ?_)
          obtain rfl : a1527200 = a1527210 := (m1527201).symm.trans m1527211
          refine fg_RX11_63 E hW r1527202 dX11_person_63 (fun a1527213 m1527214 r1527215 => ?_)
          obtain rfl : a1527203 = a1527213 := (m1527204).symm.trans m1527214
          refine lv_iload_n hx hb dX11_person_66 rfl (lv_at hl 1 rfl) ?_
          refine lv_iload_n hx hb dX11_person_67 rfl (lv_at hl 2 rfl) ?_
          refine lv_iload_n hx hb dX11_person_68 rfl (lv_at hl 3 rfl) ?_
          refine t_callV (As := [.int u1, .int u2, .int u3]) (rest := [.ref h0]) E hW (c_X4_add l G cI cJ cZ cD cR cT kp L f1527193 hW.2.2.2 _ a1527203 u1 u2 u3 r1527205 (by omega) (by omega) (by omega)) r1527205 (by decide) rfl wk_X4_add tw_607 rfl ⟨Nat.le_of_ble_eq_true rfl, Nat.le_of_ble_eq_true rfl⟩ ⟨rfl, rfl⟩ hl.1 rfl (Nat.le_of_ble_eq_true rfl) dX11_person_69 ⟨Nat.le_of_ble_eq_true rfl, Nat.le_of_ble_eq_true rfl⟩ (fun v1527216 f1527217 H locs q1527218 hW => ?_)
          obtain ⟨⟨x1527220, rfl, p1527221⟩, g1527219⟩ := q1527218
          have hF := FM.tr hF g1527219 rfl
          refine t_callV (As := [.int x1527220]) (rest := []) E hW (c_X11_accept l G cI cJ cZ cD cR cT kp L f1527217 hW.2.2.2 _ h0 x1527220 rh0) rh0 (by decide) rfl wk_X11_accept tw_611 rfl ⟨Nat.le_of_ble_eq_true rfl, Nat.le_of_ble_eq_true rfl⟩ ⟨rfl, rfl⟩ hl.1 rfl (Nat.le_of_ble_eq_true rfl) dX11_person_72 ⟨Nat.le_of_ble_eq_true rfl, Nat.le_of_ble_eq_true rfl⟩ (fun v1527222 f1527223 H locs q1527224 hW => ?_)
          obtain ⟨⟨x1527226, rfl, p1527227⟩, g1527225⟩ := q1527224
          clear p1527227
          have hF := FM.tr hF g1527225 rfl
          exact e_I E hW rfl ⟨⟨_, rfl, trivial⟩, hF⟩ dX11_person_75
        · refine lv_aload_n hx hb dX11_person_51 rfl (lv_at hl 0 rfl) ?_
          refine lv_bipush (v := (-5)) hx hb dX11_person_52 (by decide) ?_
          refine t_callV (As := [.int (-5)]) (rest := []) E hW (c_X11_refuse l G cI cJ cZ cD cR cT kp L f1527193 hW.2.2.2 _ h0 (-5) rh0 (by decide)) rh0 (by decide) rfl wk_X11_refuse tw_603 rfl ⟨Nat.le_of_ble_eq_true rfl, Nat.le_of_ble_eq_true rfl⟩ ⟨rfl, rfl⟩ hl.1 rfl (Nat.le_of_ble_eq_true rfl) dX11_person_54 ⟨Nat.le_of_ble_eq_true rfl, Nat.le_of_ble_eq_true rfl⟩ (fun v1527228 f1527229 H locs q1527230 hW => ?_)
          obtain ⟨⟨x1527232, rfl, p1527233⟩, g1527231⟩ := q1527230
          have p1527233 : (-6 : Int) ≤ x1527232.toInt ∧ x1527232.toInt ≤ -1 := p1527233
          have hF := FM.tr hF g1527231 rfl
          exact e_I E hW rfl ⟨⟨_, rfl, trivial⟩, hF⟩ dX11_person_57
      · have q1527234 : (u3.toInt < 0 ∨ 100 < u3.toInt) := by omega
        clear p1527197
        refine lv_aload_n hx hb dX11_person_30 rfl (lv_at hl 0 rfl) ?_
        refine lv_iconst (v := (-1)) hx hb dX11_person_31 (by decide) ?_
        refine t_callV (As := [.int (-1)]) (rest := []) E hW (c_X11_refuse l G cI cJ cZ cD cR cT kp L f1527193 hW.2.2.2 _ h0 (-1) rh0 (by decide)) rh0 (by decide) rfl wk_X11_refuse tw_603 rfl ⟨Nat.le_of_ble_eq_true rfl, Nat.le_of_ble_eq_true rfl⟩ ⟨rfl, rfl⟩ hl.1 rfl (Nat.le_of_ble_eq_true rfl) dX11_person_32 ⟨Nat.le_of_ble_eq_true rfl, Nat.le_of_ble_eq_true rfl⟩ (fun v1527235 f1527236 H locs q1527237 hW => ?_)
        obtain ⟨⟨x1527239, rfl, p1527240⟩, g1527238⟩ := q1527237
        have p1527240 : (-6 : Int) ≤ x1527239.toInt ∧ x1527239.toInt ≤ -1 := p1527240
        have hF := FM.tr hF g1527238 rfl
        exact e_I E hW rfl ⟨⟨_, rfl, trivial⟩, hF⟩ dX11_person_35
def ms_X11_price : List (Nat × Nat) := [(11, 15), (520, 0)]
def po_X11_price (kp : Nat → Nat) (L : List Nat) (f0 : Nat → va_E) (h0 : Nat) (u1 : Int32) (u2 : Int32) : Option Value → (Nat → va_E) → Prop := fun v f => (∃ r : Int32, v = some (.int r) ∧ (True)) ∧ FM kp L ms_X11_price f0 f
set_option maxHeartbeats 4000000 in
set_option maxRecDepth 100000 in
theorem c_X11_price (l : Launch) (G : va_G) (cI cJ cZ cD cR cT : ClassId) (kp : Nat → Nat) (L : List Nat) (f0 : Nat → va_E) (hTH : TH cI cJ cZ cD cR cT kp L f0) (sz : Nat) (h0 : Nat) (u1 : Int32) (u2 : Int32) (rh0 : RK kp L h0 11) : Met l yX11_price (Cond.code yX11_price cX11_price 3 (some .int) :: wTab) ({ frames := 2, cells := 0, slots := 0, locals := 62 }) (va_Pc [.ref h0, .int u1, .int u2] (PreW G (tys6 cI cJ cZ cD cR cT) (va_pl L f0) sz)) (QT (po_X11_price kp L f0 h0 u1 u2) G cI cJ cZ cD cR cT (va_A (va_pl L f0) sz) kp L) 0 0 (va_A (va_pl L f0) sz) := by
  refine metT (by decide) (Nat.le_of_ble_eq_true rfl) hTH ?_
  intro p e s m below meth c A ls E hW hl
  obtain ⟨hx, hb, -, hml, hown, hts, -, -, -⟩ := id E
  have hF : FM kp L ms_X11_price f0 f0 := FM.rf
  have hl : lv_has ls 3 [(0, .ref h0), (1, .int u1), (2, .int u2)] := hl
  refine lv_iload_n hx hb dX11_price_0 rfl (lv_at hl 1 rfl) ?_
  refine t_callS (As := [.int u1]) (rest := []) E hW (c_X11_isWeek l G cI cJ cZ cD cR cT kp L f0 hW.2.2.2 _ u1) wk_X11_isWeek tw_780 rfl ⟨Nat.le_of_ble_eq_true rfl, Nat.le_of_ble_eq_true rfl⟩ ⟨rfl, rfl⟩ hl.1 rfl (Nat.le_of_ble_eq_true rfl) dX11_price_1 ⟨Nat.le_of_ble_eq_true rfl, Nat.le_of_ble_eq_true rfl⟩ (fun v1527241 f1527242 H locs q1527243 hW => ?_)
  obtain ⟨⟨x1527245, rfl, p1527246⟩, g1527244⟩ := q1527243
  have hF := FM.tr hF g1527244 rfl
  refine q_if_eq (tgt := 18) hx hb dX11_price_4 (by decide) rfl (fun c1527247 => ?_) (fun c1527247 => ?_)
  · have q1527248 : (u1.toInt < 0 ∨ 399 < u1.toInt) := by omega
    clear p1527246
    refine lv_aload_n hx hb dX11_price_18 rfl (lv_at hl 0 rfl) ?_
    refine lv_iconst (v := (-1)) hx hb dX11_price_19 (by decide) ?_
    refine t_callV (As := [.int (-1)]) (rest := []) E hW (c_X11_refuse l G cI cJ cZ cD cR cT kp L f1527242 hW.2.2.2 _ h0 (-1) rh0 (by decide)) rh0 (by decide) rfl wk_X11_refuse tw_603 rfl ⟨Nat.le_of_ble_eq_true rfl, Nat.le_of_ble_eq_true rfl⟩ ⟨rfl, rfl⟩ hl.1 rfl (Nat.le_of_ble_eq_true rfl) dX11_price_20 ⟨Nat.le_of_ble_eq_true rfl, Nat.le_of_ble_eq_true rfl⟩ (fun v1527249 f1527250 H locs q1527251 hW => ?_)
    obtain ⟨⟨x1527253, rfl, p1527254⟩, g1527252⟩ := q1527251
    have p1527254 : (-6 : Int) ≤ x1527253.toInt ∧ x1527253.toInt ≤ -1 := p1527254
    have hF := FM.tr hF g1527252 rfl
    exact e_I E hW rfl ⟨⟨_, rfl, trivial⟩, hF⟩ dX11_price_23
  · have q1527255 : 0 ≤ u1.toInt ∧ u1.toInt ≤ 399 := by omega
    clear p1527246
    refine lv_iload_n hx hb dX11_price_7 rfl (lv_at hl 2 rfl) ?_
    refine lv_iconst (v := 0) hx hb dX11_price_8 (by decide) ?_
    refine lv_sipush (v := 10000) hx hb dX11_price_9 (by decide) ?_
    refine t_callS (As := [.int u2, .int 0, .int 10000]) (rest := []) E hW (c_X11_within l G cI cJ cZ cD cR cT kp L f1527242 hW.2.2.2 _ u2 0 10000 (by decide)) wk_X11_within tw_599 rfl ⟨Nat.le_of_ble_eq_true rfl, Nat.le_of_ble_eq_true rfl⟩ ⟨rfl, rfl⟩ hl.1 rfl (Nat.le_of_ble_eq_true rfl) dX11_price_12 ⟨Nat.le_of_ble_eq_true rfl, Nat.le_of_ble_eq_true rfl⟩ (fun v1527256 f1527257 H locs q1527258 hW => ?_)
    obtain ⟨⟨x1527260, rfl, p1527261⟩, g1527259⟩ := q1527258
    have p1527261 : (x1527260.toInt = 1 ∧ 0 ≤ u2.toInt ∧ u2.toInt ≤ 10000) ∨ (x1527260.toInt = 0 ∧ (u2.toInt < 0 ∨ 10000 < u2.toInt)) := p1527261
    have hF := FM.tr hF g1527259 rfl
    refine q_if_ne (tgt := 24) hx hb dX11_price_15 (by decide) rfl (fun c1527262 => ?_) (fun c1527262 => ?_)
    · have q1527263 : 0 ≤ u2.toInt ∧ u2.toInt ≤ 10000 := by omega
      clear p1527261
      refine lv_aload_n hx hb dX11_price_24 rfl (lv_at hl 0 rfl) ?_
      refine fg_RX11_12 E hW rh0 dX11_price_25 (fun a1527264 m1527265 r1527266 => ?_)
      refine fg_RX11_194 E hW r1527266 dX11_price_28 (fun a1527267 m1527268 r1527269 => ?_)
      refine fg_RX11_198 E hW r1527269 dX11_price_31 (fun a1527270 m1527271 r1527272 => ?_)
      refine lv_iload_n hx hb dX11_price_34 rfl (lv_at hl 1 rfl) ?_
      refine lv_iload_n hx hb dX11_price_35 rfl (lv_at hl 2 rfl) ?_
      refine gs_520 E hW r1527272 ⟨by omega, by omega⟩ dX11_price_36 (fun f1527273 H locs e1527274 n1527275 g1527276 hW => ?_)
      have hF := FM.tr hF g1527276 rfl
      refine lv_aload_n hx hb dX11_price_37 rfl (lv_at hl 0 rfl) ?_
      refine lv_iconst (v := 0) hx hb dX11_price_38 (by decide) ?_
      refine t_callV (As := [.int 0]) (rest := []) E hW (c_X11_accept l G cI cJ cZ cD cR cT kp L f1527273 hW.2.2.2 _ h0 0 rh0) rh0 (by decide) rfl wk_X11_accept tw_611 rfl ⟨Nat.le_of_ble_eq_true rfl, Nat.le_of_ble_eq_true rfl⟩ ⟨rfl, rfl⟩ hl.1 rfl (Nat.le_of_ble_eq_true rfl) dX11_price_39 ⟨Nat.le_of_ble_eq_true rfl, Nat.le_of_ble_eq_true rfl⟩ (fun v1527277 f1527278 H locs q1527279 hW => ?_)
      obtain ⟨⟨x1527281, rfl, p1527282⟩, g1527280⟩ := q1527279
      clear p1527282
      have hF := FM.tr hF g1527280 rfl
      exact e_I E hW rfl ⟨⟨_, rfl, trivial⟩, hF⟩ dX11_price_42
    · have q1527283 : (u2.toInt < 0 ∨ 10000 < u2.toInt) := by omega
      clear p1527261
      refine lv_aload_n hx hb dX11_price_18 rfl (lv_at hl 0 rfl) ?_
      refine lv_iconst (v := (-1)) hx hb dX11_price_19 (by decide) ?_
      refine t_callV (As := [.int (-1)]) (rest := []) E hW (c_X11_refuse l G cI cJ cZ cD cR cT kp L f1527257 hW.2.2.2 _ h0 (-1) rh0 (by decide)) rh0 (by decide) rfl wk_X11_refuse tw_603 rfl ⟨Nat.le_of_ble_eq_true rfl, Nat.le_of_ble_eq_true rfl⟩ ⟨rfl, rfl⟩ hl.1 rfl (Nat.le_of_ble_eq_true rfl) dX11_price_20 ⟨Nat.le_of_ble_eq_true rfl, Nat.le_of_ble_eq_true rfl⟩ (fun v1527284 f1527285 H locs q1527286 hW => ?_)
      obtain ⟨⟨x1527288, rfl, p1527289⟩, g1527287⟩ := q1527286
      have p1527289 : (-6 : Int) ≤ x1527288.toInt ∧ x1527288.toInt ≤ -1 := p1527289
      have hF := FM.tr hF g1527287 rfl
      exact e_I E hW rfl ⟨⟨_, rfl, trivial⟩, hF⟩ dX11_price_23
def ms_X8_floats : List (Nat × Nat) := []
def po_X8_floats (kp : Nat → Nat) (L : List Nat) (f0 : Nat → va_E) (h0 : Nat) : Option Value → (Nat → va_E) → Prop := fun v f => (∃ r : Int32, v = some (.int r) ∧ ((0 : Int) ≤ r.toInt ∧ r.toInt ≤ 100)) ∧ FM kp L ms_X8_floats f0 f
set_option maxHeartbeats 4000000 in
set_option maxRecDepth 100000 in
theorem c_X8_floats (l : Launch) (G : va_G) (cI cJ cZ cD cR cT : ClassId) (kp : Nat → Nat) (L : List Nat) (f0 : Nat → va_E) (hTH : TH cI cJ cZ cD cR cT kp L f0) (sz : Nat) (h0 : Nat) (rh0 : RK kp L h0 8) : Met l yX8_floats (Cond.code yX8_floats cX8_floats 1 (some .int) :: wTab) ({ frames := 1, cells := 0, slots := 0, locals := 40 }) (va_Pc [.ref h0] (PreW G (tys6 cI cJ cZ cD cR cT) (va_pl L f0) sz)) (QT (po_X8_floats kp L f0 h0) G cI cJ cZ cD cR cT (va_A (va_pl L f0) sz) kp L) 0 0 (va_A (va_pl L f0) sz) := by
  refine metT (by decide) (Nat.le_of_ble_eq_true rfl) hTH ?_
  intro p e s m below meth c A ls E hW hl
  obtain ⟨hx, hb, -, hml, hown, hts, -, -, -⟩ := id E
  have hF : FM kp L ms_X8_floats f0 f0 := FM.rf
  have hl : lv_has ls 1 [(0, .ref h0)] := hl
  refine lv_aload_n hx hb dX8_floats_0 rfl (lv_at hl 0 rfl) ?_
  refine fg_RX8_19 E hW rh0 dX8_floats_1 (fun y1527290 m1527291 b1527292 => ?_)
  refine lv_iconst (v := 3) hx hb dX8_floats_4 (by decide) ?_
  refine q_iadd (Y := 3) hx hb dX8_floats_5 rfl rfl (by omega) (fun x1527293 h1527294 => ?_)
  refine lv_iconst (v := 4) hx hb dX8_floats_6 (by decide) ?_
  refine q_idiv (Y := 4) hx hb dX8_floats_7 rfl rfl (by omega) (by omega) (fun x1527295 h1527296 => ?_)
  exact e_I E hW rfl ⟨⟨_, rfl, (by first | omega | trivial)⟩, hF⟩ dX8_floats_8
def ms_X11_whyNoRow : List (Nat × Nat) := []
def po_X11_whyNoRow (kp : Nat → Nat) (L : List Nat) (f0 : Nat → va_E) (h0 : Nat) (u1 : Int32) (u2 : Int32) : Option Value → (Nat → va_E) → Prop := fun v f => (∃ r : Int32, v = some (.int r) ∧ ((-6 : Int) ≤ r.toInt ∧ r.toInt ≤ 0)) ∧ FM kp L ms_X11_whyNoRow f0 f
set_option maxHeartbeats 4000000 in
set_option maxRecDepth 100000 in
theorem c_X11_whyNoRow (l : Launch) (G : va_G) (cI cJ cZ cD cR cT : ClassId) (kp : Nat → Nat) (L : List Nat) (f0 : Nat → va_E) (hTH : TH cI cJ cZ cD cR cT kp L f0) (sz : Nat) (h0 : Nat) (u1 : Int32) (u2 : Int32) (rh0 : RK kp L h0 11) : Met l yX11_whyNoRow (Cond.code yX11_whyNoRow cX11_whyNoRow 4 (some .int) :: wTab) ({ frames := 2, cells := 0, slots := 0, locals := 61 }) (va_Pc [.ref h0, .int u1, .int u2] (PreW G (tys6 cI cJ cZ cD cR cT) (va_pl L f0) sz)) (QT (po_X11_whyNoRow kp L f0 h0 u1 u2) G cI cJ cZ cD cR cT (va_A (va_pl L f0) sz) kp L) 0 0 (va_A (va_pl L f0) sz) := by
  refine metT (by decide) (Nat.le_of_ble_eq_true rfl) hTH ?_
  intro p e s m below meth c A ls E hW hl
  obtain ⟨hx, hb, -, hml, hown, hts, -, -, -⟩ := id E
  have hF : FM kp L ms_X11_whyNoRow f0 f0 := FM.rf
  have hl : lv_has ls 4 [(0, .ref h0), (1, .int u1), (2, .int u2)] := hl
  refine lv_iload_n hx hb dX11_whyNoRow_0 rfl (lv_at hl 1 rfl) ?_
  refine t_callS (As := [.int u1]) (rest := []) E hW (c_X11_isWeek l G cI cJ cZ cD cR cT kp L f0 hW.2.2.2 _ u1) wk_X11_isWeek tw_780 rfl ⟨Nat.le_of_ble_eq_true rfl, Nat.le_of_ble_eq_true rfl⟩ ⟨rfl, rfl⟩ hl.1 rfl (Nat.le_of_ble_eq_true rfl) dX11_whyNoRow_1 ⟨Nat.le_of_ble_eq_true rfl, Nat.le_of_ble_eq_true rfl⟩ (fun v1527297 f1527298 H locs q1527299 hW => ?_)
  obtain ⟨⟨x1527301, rfl, p1527302⟩, g1527300⟩ := q1527299
  have hF := FM.tr hF g1527300 rfl
  refine q_if_ne (tgt := 9) hx hb dX11_whyNoRow_4 (by decide) rfl (fun c1527303 => ?_) (fun c1527303 => ?_)
  · have q1527304 : 0 ≤ u1.toInt ∧ u1.toInt ≤ 399 := by omega
    clear p1527302
    refine lv_aload_n hx hb dX11_whyNoRow_9 rfl (lv_at hl 0 rfl) ?_
    refine fg_RX11_12 E hW rh0 dX11_whyNoRow_10 (fun a1527305 m1527306 r1527307 => ?_)
    refine fg_RX11_114 E hW r1527307 dX11_whyNoRow_13 (fun a1527308 m1527309 r1527310 => ?_)
    refine lv_iload_n hx hb dX11_whyNoRow_16 rfl (lv_at hl 2 rfl) ?_
    refine t_callV (As := [.int u2]) (rest := []) E hW (c_X1_has l G cI cJ cZ cD cR cT kp L f1527298 hW.2.2.2 _ a1527308 u2 r1527310) r1527310 (by decide) rfl wk_X1_has tw_683 rfl ⟨Nat.le_of_ble_eq_true rfl, Nat.le_of_ble_eq_true rfl⟩ ⟨rfl, rfl⟩ hl.1 rfl (Nat.le_of_ble_eq_true rfl) dX11_whyNoRow_17 ⟨Nat.le_of_ble_eq_true rfl, Nat.le_of_ble_eq_true rfl⟩ (fun v1527311 f1527312 H locs q1527313 hW => ?_)
    obtain ⟨⟨x1527315, rfl, p1527316⟩, g1527314⟩ := q1527313
    have hF := FM.tr hF g1527314 rfl
    refine q_if_ne (tgt := 26) hx hb dX11_whyNoRow_20 (by decide) rfl (fun c1527317 => ?_) (fun c1527317 => ?_)
    · have q1527318 : 0 ≤ u2.toInt ∧ u2.toInt ≤ 39 := by omega
      clear p1527316
      refine lv_iload_n hx hb dX11_whyNoRow_26 rfl (lv_at hl 1 rfl) ?_
      refine lv_aload_n hx hb dX11_whyNoRow_27 rfl (lv_at hl 0 rfl) ?_
      refine fg_RX11_12 E hW rh0 dX11_whyNoRow_28 (fun a1527319 m1527320 r1527321 => ?_)
      obtain rfl : a1527305 = a1527319 := (((fm_R g1527314 rh0 rfl).trans m1527306)).symm.trans m1527320
      refine fg_RX11_255 E hW r1527307 dX11_whyNoRow_31 (fun y1527322 m1527323 b1527324 => ?_)
      refine q_icmp_ge (tgt := 40) hx hb dX11_whyNoRow_34 (by decide) rfl rfl (fun c1527325 => ?_) (fun c1527325 => ?_)
      · refine lv_aload_n hx hb dX11_whyNoRow_40 rfl (lv_at hl 0 rfl) ?_
        refine fg_RX11_12 E hW rh0 dX11_whyNoRow_41 (fun a1527326 m1527327 r1527328 => ?_)
        obtain rfl : a1527305 = a1527326 := (m1527320).symm.trans m1527327
        refine fg_RX11_194 E hW r1527307 dX11_whyNoRow_44 (fun a1527329 m1527330 r1527331 => ?_)
        refine fg_RX11_359 E hW r1527331 dX11_whyNoRow_47 (fun a1527332 m1527333 r1527334 => ?_)
        refine lv_iload_n hx hb dX11_whyNoRow_50 rfl (lv_at hl 1 rfl) ?_
        refine gl_521 E hW r1527334 ⟨by omega, by omega⟩ dX11_whyNoRow_51 (fun o1527335 m1527337 k1527336 => ?_)
        rcases o1527335 with _ | a1527338
        · have hl : lv_has ls 4 [(0, .ref h0), (1, .int u1), (2, .int u2)] := hl
          show W p l e ({ frames := 2, cells := 0, slots := 0, locals := 61 }) s m ([.ref h0, .int u1, .int u2] : List Value).toArray below meth c _ _ 0 0 (MQ below (QT (po_X11_whyNoRow kp L f0 h0 u1 u2) G cI cJ cZ cD cR cT A kp L) ([.ref h0, .int u1, .int u2] : List Value).toArray s 0 0 A) (F0 m 52 ls [.null])
          refine lv_ifnullN (tgt := 58) hx hb dX11_whyNoRow_52 (by decide) ?_
          refine lv_aload_n hx hb dX11_whyNoRow_58 rfl (lv_at hl 0 rfl) ?_
          refine fg_RX11_30 E hW rh0 dX11_whyNoRow_59 (fun a1527340 m1527341 r1527342 => ?_)
          refine t_callV (As := []) (rest := []) E hW (c_X8_floats l G cI cJ cZ cD cR cT kp L f1527312 hW.2.2.2 _ a1527340 r1527342) r1527342 (by decide) rfl wk_X8_floats tw_791 rfl ⟨Nat.le_of_ble_eq_true rfl, Nat.le_of_ble_eq_true rfl⟩ ⟨rfl, rfl⟩ hl.1 rfl (Nat.le_of_ble_eq_true rfl) dX11_whyNoRow_62 ⟨Nat.le_of_ble_eq_true rfl, Nat.le_of_ble_eq_true rfl⟩ (fun v1527343 f1527344 H locs q1527345 hW => ?_)
          obtain ⟨⟨x1527347, rfl, p1527348⟩, g1527346⟩ := q1527345
          have hF := FM.tr hF g1527346 rfl
          refine lv_istore_n (lv' := [(3, .int x1527347), (0, .ref h0), (1, .int u1), (2, .int u2)]) hx hb dX11_whyNoRow_65 rfl hl (by decide) rfl (fun ls hl => ?_)
          refine lv_iload_n hx hb dX11_whyNoRow_66 rfl (lv_at hl 0 rfl) ?_
          have J1527363 : ∀ (y1527361 : Int32) (b1527362 : (-6 : Int) ≤ y1527361.toInt ∧ y1527361.toInt ≤ 0) (H : Heap) (locs : List Loc) (ls : Array Slot), WS G cI cJ cZ cD cR cT A kp L f1527344 s H locs → FM kp L ms_X11_whyNoRow f0 f1527344 → lv_has ls 4 [(3, .int x1527347), (0, .ref h0), (1, .int u1), (2, .int u2)] → W p l e ({ frames := 2, cells := 0, slots := 0, locals := 61 }) s m ([.ref h0, .int u1, .int u2] : List Value).toArray below meth c H locs 0 0 (MQ below (QT (po_X11_whyNoRow kp L f0 h0 u1 u2) G cI cJ cZ cD cR cT A kp L) ([.ref h0, .int u1, .int u2] : List Value).toArray s 0 0 A) (F0 m 92 ls [.int y1527361]) := by
            intro y1527361 b1527362 H locs ls hW hF hl
            clear c1527303 c1527317
            exact e_I E hW rfl ⟨⟨_, rfl, (by first | omega | trivial)⟩, hF⟩ dX11_whyNoRow_92
          refine q_if_eq (tgt := 86) hx hb dX11_whyNoRow_67 (by decide) rfl (fun c1527364 => ?_) (fun c1527364 => ?_)
          · refine lv_bipush (v := (-6)) hx hb dX11_whyNoRow_86 (by decide) ?_
            refine lv_goto (tgt := 92) hx hb dX11_whyNoRow_88 (by decide) ?_
            exact J1527363 (-6) (by decide) _ _ _ hW hF (lv_sub hl [0, 1, 2, 3] rfl)
          · refine lv_iload_n hx hb dX11_whyNoRow_70 rfl (lv_at hl 0 rfl) ?_
            refine lv_aload_n hx hb dX11_whyNoRow_71 rfl (lv_at hl 1 rfl) ?_
            refine fg_RX11_12 E hW rh0 dX11_whyNoRow_72 (fun a1527365 m1527366 r1527367 => ?_)
            obtain rfl : a1527305 = a1527365 := (((fm_R g1527346 rh0 rfl).trans m1527327)).symm.trans m1527366
            refine fg_RX11_114 E hW r1527307 dX11_whyNoRow_75 (fun a1527368 m1527369 r1527370 => ?_)
            obtain rfl : a1527308 = a1527368 := (((fm_R g1527346 r1527307 rfl).trans ((fm_R g1527314 r1527307 rfl).trans m1527309))).symm.trans m1527369
            refine fg_RX11_130 E hW r1527310 dX11_whyNoRow_78 (fun y1527371 m1527372 b1527373 => ?_)
            refine lv_iload_n hx hb dX11_whyNoRow_81 rfl (lv_at hl 3 rfl) ?_
            refine q_isub hx hb dX11_whyNoRow_82 rfl rfl (by omega) (fun x1527374 h1527375 => ?_)
            refine q_icmp_le (tgt := 91) hx hb dX11_whyNoRow_83 (by decide) rfl rfl (fun c1527376 => ?_) (fun c1527376 => ?_)
            · refine lv_iconst (v := 0) hx hb dX11_whyNoRow_91 (by decide) ?_
              exact J1527363 0 (by decide) _ _ _ hW hF (lv_sub hl [0, 1, 2, 3] rfl)
            · refine lv_bipush (v := (-6)) hx hb dX11_whyNoRow_86 (by decide) ?_
              refine lv_goto (tgt := 92) hx hb dX11_whyNoRow_88 (by decide) ?_
              exact J1527363 (-6) (by decide) _ _ _ hW hF (lv_sub hl [0, 1, 2, 3] rfl)
        · have r1527339 : RK kp L a1527338 6 := k1527336 _ rfl
          have hl : lv_has ls 4 [(0, .ref h0), (1, .int u1), (2, .int u2)] := hl
          show W p l e ({ frames := 2, cells := 0, slots := 0, locals := 61 }) s m ([.ref h0, .int u1, .int u2] : List Value).toArray below meth c _ _ 0 0 (MQ below (QT (po_X11_whyNoRow kp L f0 h0 u1 u2) G cI cJ cZ cD cR cT A kp L) ([.ref h0, .int u1, .int u2] : List Value).toArray s 0 0 A) (F0 m 52 ls [.ref a1527338])
          refine lv_ifnull hx hb dX11_whyNoRow_52 ?_
          refine lv_bipush (v := (-4)) hx hb dX11_whyNoRow_55 (by decide) ?_
          exact e_I E hW rfl ⟨⟨_, rfl, (by have hk : ((-4) : Int32).toInt = -4 := rfl; first | decide | omega)⟩, hF⟩ dX11_whyNoRow_57
      · refine lv_bipush (v := (-3)) hx hb dX11_whyNoRow_37 (by decide) ?_
        exact e_I E hW rfl ⟨⟨_, rfl, (by have hk : ((-3) : Int32).toInt = -3 := rfl; first | decide | omega)⟩, hF⟩ dX11_whyNoRow_39
    · clear p1527316
      refine lv_bipush (v := (-2)) hx hb dX11_whyNoRow_23 (by decide) ?_
      exact e_I E hW rfl ⟨⟨_, rfl, (by have hk : ((-2) : Int32).toInt = -2 := rfl; first | decide | omega)⟩, hF⟩ dX11_whyNoRow_25
  · have q1527377 : (u1.toInt < 0 ∨ 399 < u1.toInt) := by omega
    clear p1527302
    refine lv_iconst (v := (-1)) hx hb dX11_whyNoRow_7 (by decide) ?_
    exact e_I E hW rfl ⟨⟨_, rfl, (by have hk : ((-1) : Int32).toInt = -1 := rfl; first | decide | omega)⟩, hF⟩ dX11_whyNoRow_8
def ms_X11_seal : List (Nat × Nat) := [(1, 12), (1, 13), (1, 14)]
def po_X11_seal (kp : Nat → Nat) (L : List Nat) (f0 : Nat → va_E) (h0 : Nat) : Option Value → (Nat → va_E) → Prop := fun v f => (∃ r : Int32, v = some (.int r) ∧ ((0 : Int) ≤ r.toInt ∧ r.toInt ≤ 40)) ∧ FM kp L ms_X11_seal f0 f
set_option maxHeartbeats 4000000 in
set_option maxRecDepth 100000 in
theorem c_X11_seal (l : Launch) (G : va_G) (cI cJ cZ cD cR cT : ClassId) (kp : Nat → Nat) (L : List Nat) (f0 : Nat → va_E) (hTH : TH cI cJ cZ cD cR cT kp L f0) (sz : Nat) (h0 : Nat) (rh0 : RK kp L h0 11) : Met l yX11_seal (Cond.code yX11_seal cX11_seal 1 (some .int) :: wTab) ({ frames := 3, cells := 0, slots := 0, locals := 83 }) (va_Pc [.ref h0] (PreW G (tys6 cI cJ cZ cD cR cT) (va_pl L f0) sz)) (QT (po_X11_seal kp L f0 h0) G cI cJ cZ cD cR cT (va_A (va_pl L f0) sz) kp L) 0 0 (va_A (va_pl L f0) sz) := by
  refine metT (by decide) (Nat.le_of_ble_eq_true rfl) hTH ?_
  intro p e s m below meth c A ls E hW hl
  obtain ⟨hx, hb, -, hml, hown, hts, -, -, -⟩ := id E
  have hF : FM kp L ms_X11_seal f0 f0 := FM.rf
  have hl : lv_has ls 1 [(0, .ref h0)] := hl
  refine lv_aload_n hx hb dX11_seal_0 rfl (lv_at hl 0 rfl) ?_
  refine fg_RX11_12 E hW rh0 dX11_seal_1 (fun a1527378 m1527379 r1527380 => ?_)
  refine fg_RX11_114 E hW r1527380 dX11_seal_4 (fun a1527381 m1527382 r1527383 => ?_)
  refine t_callV (As := []) (rest := []) E hW (c_X1_keepSums l G cI cJ cZ cD cR cT kp L f0 hW.2.2.2 _ a1527381 r1527383) r1527383 (by decide) rfl wk_X1_keepSums tw_1344 rfl ⟨Nat.le_of_ble_eq_true rfl, Nat.le_of_ble_eq_true rfl⟩ ⟨rfl, rfl⟩ hl.1 rfl (Nat.le_of_ble_eq_true rfl) dX11_seal_7 ⟨Nat.le_of_ble_eq_true rfl, Nat.le_of_ble_eq_true rfl⟩ (fun v1527384 f1527385 H locs q1527386 hW => ?_)
  obtain ⟨rfl, g1527387⟩ := q1527386
  have hF := FM.tr hF g1527387 rfl
  refine lv_aload_n hx hb dX11_seal_10 rfl (lv_at hl 0 rfl) ?_
  refine fg_RX11_12 E hW rh0 dX11_seal_11 (fun a1527388 m1527389 r1527390 => ?_)
  obtain rfl : a1527378 = a1527388 := (((fm_R g1527387 rh0 rfl).trans m1527379)).symm.trans m1527389
  refine fg_RX11_114 E hW r1527380 dX11_seal_14 (fun a1527391 m1527392 r1527393 => ?_)
  obtain rfl : a1527381 = a1527391 := (((fm_R g1527387 r1527380 rfl).trans m1527382)).symm.trans m1527392
  refine fg_RX11_130 E hW r1527383 dX11_seal_17 (fun y1527394 m1527395 b1527396 => ?_)
  exact e_I E hW rfl ⟨⟨_, rfl, (by first | omega | trivial)⟩, hF⟩ dX11_seal_20
def ms_X11_status : List (Nat × Nat) := []
def po_X11_status (kp : Nat → Nat) (L : List Nat) (f0 : Nat → va_E) (h0 : Nat) : Option Value → (Nat → va_E) → Prop := fun v f => (∃ r : Int32, v = some (.int r) ∧ (True)) ∧ FM kp L ms_X11_status f0 f
set_option maxHeartbeats 4000000 in
set_option maxRecDepth 100000 in
theorem c_X11_status (l : Launch) (G : va_G) (cI cJ cZ cD cR cT : ClassId) (kp : Nat → Nat) (L : List Nat) (f0 : Nat → va_E) (hTH : TH cI cJ cZ cD cR cT kp L f0) (sz : Nat) (h0 : Nat) (rh0 : RK kp L h0 11) : Met l yX11_status (Cond.code yX11_status cX11_status 1 (some .int) :: wTab) ({ frames := 1, cells := 0, slots := 0, locals := 40 }) (va_Pc [.ref h0] (PreW G (tys6 cI cJ cZ cD cR cT) (va_pl L f0) sz)) (QT (po_X11_status kp L f0 h0) G cI cJ cZ cD cR cT (va_A (va_pl L f0) sz) kp L) 0 0 (va_A (va_pl L f0) sz) := by
  refine metT (by decide) (Nat.le_of_ble_eq_true rfl) hTH ?_
  intro p e s m below meth c A ls E hW hl
  obtain ⟨hx, hb, -, hml, hown, hts, -, -, -⟩ := id E
  have hF : FM kp L ms_X11_status f0 f0 := FM.rf
  have hl : lv_has ls 1 [(0, .ref h0)] := hl
  refine lv_aload_n hx hb dX11_status_0 rfl (lv_at hl 0 rfl) ?_
  refine fg_RX11_356 E hW rh0 dX11_status_1 (fun y1527397 m1527398 => ?_)
  exact e_I E hW rfl ⟨⟨_, rfl, trivial⟩, hF⟩ dX11_status_4
def ms_X11_take : List (Nat × Nat) := [(0, 14), (11, 15), (115, 0), (164, 0), (166, 0), (222, 0), (223, 0), (347, 0)]
def po_X11_take (kp : Nat → Nat) (L : List Nat) (f0 : Nat → va_E) (h0 : Nat) (u1 : Int32) (u2 : Int32) (u3 : Int32) : Option Value → (Nat → va_E) → Prop := fun v f => (∃ r : Int32, v = some (.int r) ∧ (True)) ∧ FM kp L ms_X11_take f0 f
set_option maxHeartbeats 4000000 in
set_option maxRecDepth 100000 in
theorem c_X11_take (l : Launch) (G : va_G) (cI cJ cZ cD cR cT : ClassId) (kp : Nat → Nat) (L : List Nat) (f0 : Nat → va_E) (hTH : TH cI cJ cZ cD cR cT kp L f0) (sz : Nat) (h0 : Nat) (u1 : Int32) (u2 : Int32) (u3 : Int32) (rh0 : RK kp L h0 11) : Met l yX11_take (Cond.code yX11_take cX11_take 7 (some .int) :: wTab) ({ frames := 5, cells := 0, slots := 0, locals := 143 }) (va_Pc [.ref h0, .int u1, .int u2, .int u3] (PreW G (tys6 cI cJ cZ cD cR cT) (va_pl L f0) sz)) (QT (po_X11_take kp L f0 h0 u1 u2 u3) G cI cJ cZ cD cR cT (va_A (va_pl L f0) sz) kp L) 0 0 (va_A (va_pl L f0) sz) := by
  refine metT (by decide) (Nat.le_of_ble_eq_true rfl) hTH ?_
  intro p e s m below meth c A ls E hW hl
  obtain ⟨hx, hb, -, hml, hown, hts, -, -, -⟩ := id E
  have hF : FM kp L ms_X11_take f0 f0 := FM.rf
  have hl : lv_has ls 7 [(0, .ref h0), (1, .int u1), (2, .int u2), (3, .int u3)] := hl
  refine lv_aload_n hx hb dX11_take_0 rfl (lv_at hl 0 rfl) ?_
  refine fg_RX11_12 E hW rh0 dX11_take_1 (fun a1527400 m1527401 r1527402 => ?_)
  refine fg_RX11_114 E hW r1527402 dX11_take_4 (fun a1527403 m1527404 r1527405 => ?_)
  refine lv_astore (lv' := [(4, .ref a1527403), (0, .ref h0), (1, .int u1), (2, .int u2), (3, .int u3)]) hx hb dX11_take_7 hl (by decide) rfl (fun ls hl => ?_)
  refine lv_iload_n hx hb dX11_take_9 rfl (lv_at hl 4 rfl) ?_
  refine lv_iconst (v := 0) hx hb dX11_take_10 (by decide) ?_
  refine lv_iconst (v := 1) hx hb dX11_take_11 (by decide) ?_
  refine t_callS (As := [.int u3, .int 0, .int 1]) (rest := []) E hW (c_X11_within l G cI cJ cZ cD cR cT kp L f0 hW.2.2.2 _ u3 0 1 (by decide)) wk_X11_within tw_599 rfl ⟨Nat.le_of_ble_eq_true rfl, Nat.le_of_ble_eq_true rfl⟩ ⟨rfl, rfl⟩ hl.1 rfl (Nat.le_of_ble_eq_true rfl) dX11_take_12 ⟨Nat.le_of_ble_eq_true rfl, Nat.le_of_ble_eq_true rfl⟩ (fun v1527406 f1527407 H locs q1527408 hW => ?_)
  obtain ⟨⟨x1527410, rfl, p1527411⟩, g1527409⟩ := q1527408
  have p1527411 : (x1527410.toInt = 1 ∧ 0 ≤ u3.toInt ∧ u3.toInt ≤ 1) ∨ (x1527410.toInt = 0 ∧ (u3.toInt < 0 ∨ 1 < u3.toInt)) := p1527411
  have hF := FM.tr hF g1527409 rfl
  refine q_if_ne (tgt := 24) hx hb dX11_take_15 (by decide) rfl (fun c1527412 => ?_) (fun c1527412 => ?_)
  · have q1527413 : 0 ≤ u3.toInt ∧ u3.toInt ≤ 1 := by omega
    clear p1527411
    refine lv_aload_n hx hb dX11_take_24 rfl (lv_at hl 1 rfl) ?_
    refine fg_RX11_12 E hW rh0 dX11_take_25 (fun a1527414 m1527415 r1527416 => ?_)
    obtain rfl : a1527400 = a1527414 := (((fm_R g1527409 rh0 rfl).trans m1527401)).symm.trans m1527415
    refine fg_RX11_63 E hW r1527402 dX11_take_28 (fun a1527417 m1527418 r1527419 => ?_)
    refine lv_iload_n hx hb dX11_take_31 rfl (lv_at hl 2 rfl) ?_
    refine t_callV (As := [.int u1]) (rest := []) E hW (c_X4_has l G cI cJ cZ cD cR cT kp L f1527407 hW.2.2.2 _ a1527417 u1 r1527419) r1527419 (by decide) rfl wk_X4_has tw_619 rfl ⟨Nat.le_of_ble_eq_true rfl, Nat.le_of_ble_eq_true rfl⟩ ⟨rfl, rfl⟩ hl.1 rfl (Nat.le_of_ble_eq_true rfl) dX11_take_32 ⟨Nat.le_of_ble_eq_true rfl, Nat.le_of_ble_eq_true rfl⟩ (fun v1527420 f1527421 H locs q1527422 hW => ?_)
    obtain ⟨⟨x1527424, rfl, p1527425⟩, g1527423⟩ := q1527422
    have hF := FM.tr hF g1527423 rfl
    refine q_if_eq (tgt := 47) hx hb dX11_take_35 (by decide) rfl (fun c1527426 => ?_) (fun c1527426 => ?_)
    · clear p1527425
      refine lv_aload_n hx hb dX11_take_47 rfl (lv_at hl 1 rfl) ?_
      refine lv_bipush (v := (-2)) hx hb dX11_take_48 (by decide) ?_
      refine t_callV (As := [.int (-2)]) (rest := []) E hW (c_X11_refuse l G cI cJ cZ cD cR cT kp L f1527421 hW.2.2.2 _ h0 (-2) rh0 (by decide)) rh0 (by decide) rfl wk_X11_refuse tw_603 rfl ⟨Nat.le_of_ble_eq_true rfl, Nat.le_of_ble_eq_true rfl⟩ ⟨rfl, rfl⟩ hl.1 rfl (Nat.le_of_ble_eq_true rfl) dX11_take_50 ⟨Nat.le_of_ble_eq_true rfl, Nat.le_of_ble_eq_true rfl⟩ (fun v1527427 f1527428 H locs q1527429 hW => ?_)
      obtain ⟨⟨x1527431, rfl, p1527432⟩, g1527430⟩ := q1527429
      have p1527432 : (-6 : Int) ≤ x1527431.toInt ∧ x1527431.toInt ≤ -1 := p1527432
      have hF := FM.tr hF g1527430 rfl
      exact e_I E hW rfl ⟨⟨_, rfl, trivial⟩, hF⟩ dX11_take_53
    · have q1527433 : 0 ≤ u1.toInt ∧ u1.toInt ≤ 39 := by omega
      clear p1527425
      refine lv_aload hx hb dX11_take_38 (lv_at hl 0 rfl) ?_
      refine lv_iload_n hx hb dX11_take_40 rfl (lv_at hl 3 rfl) ?_
      refine t_callV (As := [.int u2]) (rest := []) E hW (c_X1_has l G cI cJ cZ cD cR cT kp L f1527421 hW.2.2.2 _ a1527403 u2 r1527405) r1527405 (by decide) rfl wk_X1_has tw_683 rfl ⟨Nat.le_of_ble_eq_true rfl, Nat.le_of_ble_eq_true rfl⟩ ⟨rfl, rfl⟩ hl.1 rfl (Nat.le_of_ble_eq_true rfl) dX11_take_41 ⟨Nat.le_of_ble_eq_true rfl, Nat.le_of_ble_eq_true rfl⟩ (fun v1527434 f1527435 H locs q1527436 hW => ?_)
      obtain ⟨⟨x1527438, rfl, p1527439⟩, g1527437⟩ := q1527436
      have hF := FM.tr hF g1527437 rfl
      refine q_if_ne (tgt := 54) hx hb dX11_take_44 (by decide) rfl (fun c1527440 => ?_) (fun c1527440 => ?_)
      · have q1527441 : 0 ≤ u2.toInt ∧ u2.toInt ≤ 39 := by omega
        clear p1527439
        refine lv_iload_n hx hb dX11_take_54 rfl (lv_at hl 4 rfl) ?_
        have J1527444 : ∀ (y1527442 : Int32) (b1527443 : (0 : Int) ≤ y1527442.toInt ∧ y1527442.toInt ≤ 1) (H : Heap) (locs : List Loc) (ls : Array Slot), WS G cI cJ cZ cD cR cT A kp L f1527435 s H locs → FM kp L ms_X11_take f0 f1527435 → lv_has ls 7 [(4, .ref a1527403), (0, .ref h0), (1, .int u1), (2, .int u2), (3, .int u3)] → W p l e ({ frames := 5, cells := 0, slots := 0, locals := 143 }) s m ([.ref h0, .int u1, .int u2, .int u3] : List Value).toArray below meth c H locs 0 0 (MQ below (QT (po_X11_take kp L f0 h0 u1 u2 u3) G cI cJ cZ cD cR cT A kp L) ([.ref h0, .int u1, .int u2, .int u3] : List Value).toArray s 0 0 A) (F0 m 63 ls [.int y1527442]) := by
          intro y1527442 b1527443 H locs ls hW hF hl
          clear c1527412 c1527426 c1527440
          refine lv_istore (lv' := [(5, .int y1527442), (4, .ref a1527403), (0, .ref h0), (1, .int u1), (2, .int u2), (3, .int u3)]) hx hb dX11_take_63 hl (by decide) rfl (fun ls hl => ?_)
          refine lv_aload hx hb dX11_take_65 (lv_at hl 1 rfl) ?_
          refine fg_RX11_182 E hW r1527405 dX11_take_67 (fun a1527445 m1527446 r1527447 => ?_)
          refine lv_iload_n hx hb dX11_take_70 rfl (lv_at hl 4 rfl) ?_
          refine gl_167 E hW r1527447 ⟨by omega, by omega⟩ dX11_take_71 (fun y1527448 m1527449 => ?_)
          refine lv_iconst (v := 1) hx hb dX11_take_72 (by decide) ?_
          have J1527453 : ∀ (y1527451 : Int32) (b1527452 : (0 : Int) ≤ y1527451.toInt ∧ y1527451.toInt ≤ 1) (H : Heap) (locs : List Loc) (ls : Array Slot), WS G cI cJ cZ cD cR cT A kp L f1527435 s H locs → FM kp L ms_X11_take f0 f1527435 → lv_has ls 7 [(5, .int y1527442), (4, .ref a1527403), (0, .ref h0), (1, .int u1), (2, .int u2), (3, .int u3)] → W p l e ({ frames := 5, cells := 0, slots := 0, locals := 143 }) s m ([.ref h0, .int u1, .int u2, .int u3] : List Value).toArray below meth c H locs 0 0 (MQ below (QT (po_X11_take kp L f0 h0 u1 u2 u3) G cI cJ cZ cD cR cT A kp L) ([.ref h0, .int u1, .int u2, .int u3] : List Value).toArray s 0 0 A) (F0 m 81 ls [.int y1527451]) := by
            intro y1527451 b1527452 H locs ls hW hF hl
            refine lv_istore (lv' := [(6, .int y1527451), (5, .int y1527442), (4, .ref a1527403), (0, .ref h0), (1, .int u1), (2, .int u2), (3, .int u3)]) hx hb dX11_take_81 hl (by decide) rfl (fun ls hl => ?_)
            refine lv_aload_n hx hb dX11_take_83 rfl (lv_at hl 3 rfl) ?_
            refine fg_RX11_12 E hW rh0 dX11_take_84 (fun a1527454 m1527455 r1527456 => ?_)
            obtain rfl : a1527400 = a1527454 := (((fm_R g1527437 rh0 rfl).trans ((fm_R g1527423 rh0 rfl).trans m1527415))).symm.trans m1527455
            refine fg_RX11_63 E hW r1527402 dX11_take_87 (fun a1527457 m1527458 r1527459 => ?_)
            obtain rfl : a1527417 = a1527457 := (((fm_R g1527437 r1527402 rfl).trans ((fm_R g1527423 r1527402 rfl).trans m1527418))).symm.trans m1527458
            refine fg_RX11_87 E hW r1527419 dX11_take_90 (fun a1527460 m1527461 r1527462 => ?_)
            refine lv_iload_n hx hb dX11_take_93 rfl (lv_at hl 4 rfl) ?_
            refine gl_346 E hW r1527462 ⟨by omega, by omega⟩ dX11_take_94 (fun y1527463 m1527464 => ?_)
            refine q_if_ne (tgt := 116) hx hb dX11_take_95 (by decide) rfl (fun c1527466 => ?_) (fun c1527466 => ?_)
            · refine lv_aload_n hx hb dX11_take_116 rfl (lv_at hl 3 rfl) ?_
              refine lv_bipush (v := (-3)) hx hb dX11_take_117 (by decide) ?_
              refine t_callV (As := [.int (-3)]) (rest := []) E hW (c_X11_refuse l G cI cJ cZ cD cR cT kp L f1527435 hW.2.2.2 _ h0 (-3) rh0 (by decide)) rh0 (by decide) rfl wk_X11_refuse tw_603 rfl ⟨Nat.le_of_ble_eq_true rfl, Nat.le_of_ble_eq_true rfl⟩ ⟨rfl, rfl⟩ hl.1 rfl (Nat.le_of_ble_eq_true rfl) dX11_take_119 ⟨Nat.le_of_ble_eq_true rfl, Nat.le_of_ble_eq_true rfl⟩ (fun v1527467 f1527468 H locs q1527469 hW => ?_)
              obtain ⟨⟨x1527471, rfl, p1527472⟩, g1527470⟩ := q1527469
              have p1527472 : (-6 : Int) ≤ x1527471.toInt ∧ x1527471.toInt ≤ -1 := p1527472
              have hF := FM.tr hF g1527470 rfl
              exact e_I E hW rfl ⟨⟨_, rfl, trivial⟩, hF⟩ dX11_take_122
            · refine lv_aload hx hb dX11_take_98 (lv_at hl 2 rfl) ?_
              refine fg_RX11_154 E hW r1527405 dX11_take_100 (fun a1527473 m1527474 r1527475 => ?_)
              refine lv_iload_n hx hb dX11_take_103 rfl (lv_at hl 5 rfl) ?_
              refine gl_164 E hW r1527475 ⟨by omega, by omega⟩ dX11_take_104 (fun y1527476 m1527477 b1527478 => ?_)
              refine lv_iconst (v := (-1)) hx hb dX11_take_105 (by decide) ?_
              refine q_icmp_ne (Y := -1) (tgt := 116) hx hb dX11_take_106 (by decide) rfl rfl (fun c1527479 => ?_) (fun c1527479 => ?_)
              · refine lv_aload_n hx hb dX11_take_116 rfl (lv_at hl 3 rfl) ?_
                refine lv_bipush (v := (-3)) hx hb dX11_take_117 (by decide) ?_
                refine t_callV (As := [.int (-3)]) (rest := []) E hW (c_X11_refuse l G cI cJ cZ cD cR cT kp L f1527435 hW.2.2.2 _ h0 (-3) rh0 (by decide)) rh0 (by decide) rfl wk_X11_refuse tw_603 rfl ⟨Nat.le_of_ble_eq_true rfl, Nat.le_of_ble_eq_true rfl⟩ ⟨rfl, rfl⟩ hl.1 rfl (Nat.le_of_ble_eq_true rfl) dX11_take_119 ⟨Nat.le_of_ble_eq_true rfl, Nat.le_of_ble_eq_true rfl⟩ (fun v1527480 f1527481 H locs q1527482 hW => ?_)
                obtain ⟨⟨x1527484, rfl, p1527485⟩, g1527483⟩ := q1527482
                have p1527485 : (-6 : Int) ≤ x1527484.toInt ∧ x1527484.toInt ≤ -1 := p1527485
                have hF := FM.tr hF g1527483 rfl
                exact e_I E hW rfl ⟨⟨_, rfl, trivial⟩, hF⟩ dX11_take_122
              · refine lv_iload hx hb dX11_take_109 (lv_at hl 1 rfl) ?_
                refine lv_iload hx hb dX11_take_111 (lv_at hl 0 rfl) ?_
                refine q_icmp_eq (tgt := 123) hx hb dX11_take_113 (by decide) rfl rfl (fun c1527486 => ?_) (fun c1527486 => ?_)
                · refine lv_aload_n hx hb dX11_take_123 rfl (lv_at hl 3 rfl) ?_
                  refine fg_RX11_12 E hW rh0 dX11_take_124 (fun a1527487 m1527488 r1527489 => ?_)
                  obtain rfl : a1527400 = a1527487 := (m1527455).symm.trans m1527488
                  refine t_callV (As := []) (rest := []) E hW (c_X0_lookAtNow l G cI cJ cZ cD cR cT kp L f1527435 hW.2.2.2 _ a1527400 r1527402) r1527402 (by decide) rfl wk_X0_lookAtNow tw_687 rfl ⟨Nat.le_of_ble_eq_true rfl, Nat.le_of_ble_eq_true rfl⟩ ⟨rfl, rfl⟩ hl.1 rfl (Nat.le_of_ble_eq_true rfl) dX11_take_127 ⟨Nat.le_of_ble_eq_true rfl, Nat.le_of_ble_eq_true rfl⟩ (fun v1527490 f1527491 H locs q1527492 hW => ?_)
                  obtain ⟨rfl, g1527493⟩ := q1527492
                  have hF := FM.tr hF g1527493 rfl
                  refine lv_iload hx hb dX11_take_130 (lv_at hl 1 rfl) ?_
                  refine q_if_eq (tgt := 157) hx hb dX11_take_132 (by decide) rfl (fun c1527494 => ?_) (fun c1527494 => ?_)
                  · refine lv_aload_n hx hb dX11_take_157 rfl (lv_at hl 3 rfl) ?_
                    refine fg_RX11_12 E hW rh0 dX11_take_158 (fun a1527495 m1527496 r1527497 => ?_)
                    obtain rfl : a1527400 = a1527495 := (((fm_R g1527493 rh0 rfl).trans m1527488)).symm.trans m1527496
                    refine lv_iload_n hx hb dX11_take_161 rfl (lv_at hl 4 rfl) ?_
                    refine lv_iload_n hx hb dX11_take_162 rfl (lv_at hl 5 rfl) ?_
                    refine lv_iload hx hb dX11_take_163 (lv_at hl 1 rfl) ?_
                    refine q_if_eq (tgt := 172) hx hb dX11_take_165 (by decide) rfl (fun c1527498 => ?_) (fun c1527498 => ?_)
                    · refine lv_iconst (v := 0) hx hb dX11_take_172 (by decide) ?_
                      refine t_callV (As := [.int u1, .int u2, .int 0]) (rest := []) E hW (c_X0_settle l G cI cJ cZ cD cR cT kp L f1527491 hW.2.2.2 _ a1527400 u1 u2 0 r1527402 (by omega) (by omega) (by decide)) r1527402 (by decide) rfl wk_X0_settle tw_667 rfl ⟨Nat.le_of_ble_eq_true rfl, Nat.le_of_ble_eq_true rfl⟩ ⟨rfl, rfl⟩ hl.1 rfl (Nat.le_of_ble_eq_true rfl) dX11_take_173 ⟨Nat.le_of_ble_eq_true rfl, Nat.le_of_ble_eq_true rfl⟩ (fun v1527499 f1527500 H locs q1527501 hW => ?_)
                      obtain ⟨rfl, g1527502⟩ := q1527501
                      have hF := FM.tr hF g1527502 rfl
                      refine lv_aload_n hx hb dX11_take_176 rfl (lv_at hl 3 rfl) ?_
                      refine lv_iconst (v := 0) hx hb dX11_take_177 (by decide) ?_
                      refine t_callV (As := [.int 0]) (rest := []) E hW (c_X11_accept l G cI cJ cZ cD cR cT kp L f1527500 hW.2.2.2 _ h0 0 rh0) rh0 (by decide) rfl wk_X11_accept tw_611 rfl ⟨Nat.le_of_ble_eq_true rfl, Nat.le_of_ble_eq_true rfl⟩ ⟨rfl, rfl⟩ hl.1 rfl (Nat.le_of_ble_eq_true rfl) dX11_take_178 ⟨Nat.le_of_ble_eq_true rfl, Nat.le_of_ble_eq_true rfl⟩ (fun v1527503 f1527504 H locs q1527505 hW => ?_)
                      obtain ⟨⟨x1527507, rfl, p1527508⟩, g1527506⟩ := q1527505
                      clear p1527508
                      have hF := FM.tr hF g1527506 rfl
                      exact e_I E hW rfl ⟨⟨_, rfl, trivial⟩, hF⟩ dX11_take_181
                    · exfalso; omega
                  · refine lv_aload_n hx hb dX11_take_135 rfl (lv_at hl 3 rfl) ?_
                    refine fg_RX11_12 E hW rh0 dX11_take_136 (fun a1527509 m1527510 r1527511 => ?_)
                    obtain rfl : a1527400 = a1527509 := (((fm_R g1527493 rh0 rfl).trans m1527488)).symm.trans m1527510
                    refine lv_sipush (v := 264) hx hb dX11_take_139 (by decide) ?_
                    refine lv_iload_n hx hb dX11_take_142 rfl (lv_at hl 4 rfl) ?_
                    refine lv_iload_n hx hb dX11_take_143 rfl (lv_at hl 5 rfl) ?_
                    refine t_callV (As := [.int 264, .int u1, .int u2]) (rest := []) E hW (c_X0_anyHolds l G cI cJ cZ cD cR cT kp L f1527491 hW.2.2.2 _ a1527400 264 u1 u2 r1527402 (by decide) (by omega) (by omega)) r1527402 (by decide) rfl wk_X0_anyHolds tw_1105 rfl ⟨Nat.le_of_ble_eq_true rfl, Nat.le_of_ble_eq_true rfl⟩ ⟨rfl, rfl⟩ hl.1 rfl (Nat.le_of_ble_eq_true rfl) dX11_take_144 ⟨Nat.le_of_ble_eq_true rfl, Nat.le_of_ble_eq_true rfl⟩ (fun v1527512 f1527513 H locs q1527514 hW => ?_)
                    obtain ⟨⟨x1527516, rfl, p1527517⟩, g1527515⟩ := q1527514
                    have p1527517 : (0 : Int) ≤ x1527516.toInt ∧ x1527516.toInt ≤ 1 := p1527517
                    have hF := FM.tr hF g1527515 rfl
                    refine q_if_ne (tgt := 157) hx hb dX11_take_147 (by decide) rfl (fun c1527518 => ?_) (fun c1527518 => ?_)
                    · refine lv_aload_n hx hb dX11_take_157 rfl (lv_at hl 3 rfl) ?_
                      refine fg_RX11_12 E hW rh0 dX11_take_158 (fun a1527519 m1527520 r1527521 => ?_)
                      obtain rfl : a1527400 = a1527519 := (((fm_R g1527515 rh0 rfl).trans m1527510)).symm.trans m1527520
                      refine lv_iload_n hx hb dX11_take_161 rfl (lv_at hl 4 rfl) ?_
                      refine lv_iload_n hx hb dX11_take_162 rfl (lv_at hl 5 rfl) ?_
                      refine lv_iload hx hb dX11_take_163 (lv_at hl 1 rfl) ?_
                      refine q_if_eq (tgt := 172) hx hb dX11_take_165 (by decide) rfl (fun c1527522 => ?_) (fun c1527522 => ?_)
                      · exfalso; omega
                      · refine lv_iconst (v := 1) hx hb dX11_take_168 (by decide) ?_
                        refine lv_goto (tgt := 173) hx hb dX11_take_169 (by decide) ?_
                        refine t_callV (As := [.int u1, .int u2, .int 1]) (rest := []) E hW (c_X0_settle l G cI cJ cZ cD cR cT kp L f1527513 hW.2.2.2 _ a1527400 u1 u2 1 r1527402 (by omega) (by omega) (by decide)) r1527402 (by decide) rfl wk_X0_settle tw_667 rfl ⟨Nat.le_of_ble_eq_true rfl, Nat.le_of_ble_eq_true rfl⟩ ⟨rfl, rfl⟩ hl.1 rfl (Nat.le_of_ble_eq_true rfl) dX11_take_173 ⟨Nat.le_of_ble_eq_true rfl, Nat.le_of_ble_eq_true rfl⟩ (fun v1527523 f1527524 H locs q1527525 hW => ?_)
                        obtain ⟨rfl, g1527526⟩ := q1527525
                        have hF := FM.tr hF g1527526 rfl
                        refine lv_aload_n hx hb dX11_take_176 rfl (lv_at hl 3 rfl) ?_
                        refine lv_iconst (v := 0) hx hb dX11_take_177 (by decide) ?_
                        refine t_callV (As := [.int 0]) (rest := []) E hW (c_X11_accept l G cI cJ cZ cD cR cT kp L f1527524 hW.2.2.2 _ h0 0 rh0) rh0 (by decide) rfl wk_X11_accept tw_611 rfl ⟨Nat.le_of_ble_eq_true rfl, Nat.le_of_ble_eq_true rfl⟩ ⟨rfl, rfl⟩ hl.1 rfl (Nat.le_of_ble_eq_true rfl) dX11_take_178 ⟨Nat.le_of_ble_eq_true rfl, Nat.le_of_ble_eq_true rfl⟩ (fun v1527527 f1527528 H locs q1527529 hW => ?_)
                        obtain ⟨⟨x1527531, rfl, p1527532⟩, g1527530⟩ := q1527529
                        clear p1527532
                        have hF := FM.tr hF g1527530 rfl
                        exact e_I E hW rfl ⟨⟨_, rfl, trivial⟩, hF⟩ dX11_take_181
                    · refine lv_aload_n hx hb dX11_take_150 rfl (lv_at hl 3 rfl) ?_
                      refine lv_bipush (v := (-3)) hx hb dX11_take_151 (by decide) ?_
                      refine t_callV (As := [.int (-3)]) (rest := []) E hW (c_X11_refuse l G cI cJ cZ cD cR cT kp L f1527513 hW.2.2.2 _ h0 (-3) rh0 (by decide)) rh0 (by decide) rfl wk_X11_refuse tw_603 rfl ⟨Nat.le_of_ble_eq_true rfl, Nat.le_of_ble_eq_true rfl⟩ ⟨rfl, rfl⟩ hl.1 rfl (Nat.le_of_ble_eq_true rfl) dX11_take_153 ⟨Nat.le_of_ble_eq_true rfl, Nat.le_of_ble_eq_true rfl⟩ (fun v1527533 f1527534 H locs q1527535 hW => ?_)
                      obtain ⟨⟨x1527537, rfl, p1527538⟩, g1527536⟩ := q1527535
                      have p1527538 : (-6 : Int) ≤ x1527537.toInt ∧ x1527537.toInt ≤ -1 := p1527538
                      have hF := FM.tr hF g1527536 rfl
                      exact e_I E hW rfl ⟨⟨_, rfl, trivial⟩, hF⟩ dX11_take_156
                · refine lv_aload_n hx hb dX11_take_116 rfl (lv_at hl 3 rfl) ?_
                  refine lv_bipush (v := (-3)) hx hb dX11_take_117 (by decide) ?_
                  refine t_callV (As := [.int (-3)]) (rest := []) E hW (c_X11_refuse l G cI cJ cZ cD cR cT kp L f1527435 hW.2.2.2 _ h0 (-3) rh0 (by decide)) rh0 (by decide) rfl wk_X11_refuse tw_603 rfl ⟨Nat.le_of_ble_eq_true rfl, Nat.le_of_ble_eq_true rfl⟩ ⟨rfl, rfl⟩ hl.1 rfl (Nat.le_of_ble_eq_true rfl) dX11_take_119 ⟨Nat.le_of_ble_eq_true rfl, Nat.le_of_ble_eq_true rfl⟩ (fun v1527539 f1527540 H locs q1527541 hW => ?_)
                  obtain ⟨⟨x1527543, rfl, p1527544⟩, g1527542⟩ := q1527541
                  have p1527544 : (-6 : Int) ≤ x1527543.toInt ∧ x1527543.toInt ≤ -1 := p1527544
                  have hF := FM.tr hF g1527542 rfl
                  exact e_I E hW rfl ⟨⟨_, rfl, trivial⟩, hF⟩ dX11_take_122
          refine q_icmp_ne (Y := 1) (tgt := 80) hx hb dX11_take_73 (by decide) rfl rfl (fun c1527545 => ?_) (fun c1527545 => ?_)
          · refine lv_iconst (v := 0) hx hb dX11_take_80 (by decide) ?_
            exact J1527453 0 (by decide) _ _ _ hW hF (lv_sub hl [0, 1, 2, 3, 4, 5] rfl)
          · refine lv_iconst (v := 1) hx hb dX11_take_76 (by decide) ?_
            refine lv_goto (tgt := 81) hx hb dX11_take_77 (by decide) ?_
            exact J1527453 1 (by decide) _ _ _ hW hF (lv_sub hl [0, 1, 2, 3, 4, 5] rfl)
        refine q_if_ne (tgt := 62) hx hb dX11_take_55 (by decide) rfl (fun c1527546 => ?_) (fun c1527546 => ?_)
        · refine lv_iconst (v := 0) hx hb dX11_take_62 (by decide) ?_
          exact J1527444 0 (by decide) _ _ _ hW hF (lv_sub hl [0, 1, 2, 3, 4] rfl)
        · refine lv_iconst (v := 1) hx hb dX11_take_58 (by decide) ?_
          refine lv_goto (tgt := 63) hx hb dX11_take_59 (by decide) ?_
          exact J1527444 1 (by decide) _ _ _ hW hF (lv_sub hl [0, 1, 2, 3, 4] rfl)
      · clear p1527439
        refine lv_aload_n hx hb dX11_take_47 rfl (lv_at hl 1 rfl) ?_
        refine lv_bipush (v := (-2)) hx hb dX11_take_48 (by decide) ?_
        refine t_callV (As := [.int (-2)]) (rest := []) E hW (c_X11_refuse l G cI cJ cZ cD cR cT kp L f1527435 hW.2.2.2 _ h0 (-2) rh0 (by decide)) rh0 (by decide) rfl wk_X11_refuse tw_603 rfl ⟨Nat.le_of_ble_eq_true rfl, Nat.le_of_ble_eq_true rfl⟩ ⟨rfl, rfl⟩ hl.1 rfl (Nat.le_of_ble_eq_true rfl) dX11_take_50 ⟨Nat.le_of_ble_eq_true rfl, Nat.le_of_ble_eq_true rfl⟩ (fun v1527547 f1527548 H locs q1527549 hW => ?_)
        obtain ⟨⟨x1527551, rfl, p1527552⟩, g1527550⟩ := q1527549
        have p1527552 : (-6 : Int) ≤ x1527551.toInt ∧ x1527551.toInt ≤ -1 := p1527552
        have hF := FM.tr hF g1527550 rfl
        exact e_I E hW rfl ⟨⟨_, rfl, trivial⟩, hF⟩ dX11_take_53
  · have q1527553 : (u3.toInt < 0 ∨ 1 < u3.toInt) := by omega
    clear p1527411
    refine lv_aload_n hx hb dX11_take_18 rfl (lv_at hl 1 rfl) ?_
    refine lv_iconst (v := (-1)) hx hb dX11_take_19 (by decide) ?_
    refine t_callV (As := [.int (-1)]) (rest := []) E hW (c_X11_refuse l G cI cJ cZ cD cR cT kp L f1527407 hW.2.2.2 _ h0 (-1) rh0 (by decide)) rh0 (by decide) rfl wk_X11_refuse tw_603 rfl ⟨Nat.le_of_ble_eq_true rfl, Nat.le_of_ble_eq_true rfl⟩ ⟨rfl, rfl⟩ hl.1 rfl (Nat.le_of_ble_eq_true rfl) dX11_take_20 ⟨Nat.le_of_ble_eq_true rfl, Nat.le_of_ble_eq_true rfl⟩ (fun v1527554 f1527555 H locs q1527556 hW => ?_)
    obtain ⟨⟨x1527558, rfl, p1527559⟩, g1527557⟩ := q1527556
    have p1527559 : (-6 : Int) ≤ x1527558.toInt ∧ x1527558.toInt ≤ -1 := p1527559
    have hF := FM.tr hF g1527557 rfl
    exact e_I E hW rfl ⟨⟨_, rfl, trivial⟩, hF⟩ dX11_take_23
def ms_X11_tells : List (Nat × Nat) := [(0, 14), (115, 0), (222, 0), (223, 0)]
def po_X11_tells (kp : Nat → Nat) (L : List Nat) (f0 : Nat → va_E) (h0 : Nat) (u1 : Int32) (u2 : Int32) : Option Value → (Nat → va_E) → Prop := fun v f => (∃ r : Int32, v = some (.int r) ∧ (True)) ∧ FM kp L ms_X11_tells f0 f
set_option maxHeartbeats 4000000 in
set_option maxRecDepth 100000 in
theorem c_X11_tells (l : Launch) (G : va_G) (cI cJ cZ cD cR cT : ClassId) (kp : Nat → Nat) (L : List Nat) (f0 : Nat → va_E) (hTH : TH cI cJ cZ cD cR cT kp L f0) (sz : Nat) (h0 : Nat) (u1 : Int32) (u2 : Int32) (rh0 : RK kp L h0 11) : Met l yX11_tells (Cond.code yX11_tells cX11_tells 4 (some .int) :: wTab) ({ frames := 6, cells := 0, slots := 0, locals := 165 }) (va_Pc [.ref h0, .int u1, .int u2] (PreW G (tys6 cI cJ cZ cD cR cT) (va_pl L f0) sz)) (QT (po_X11_tells kp L f0 h0 u1 u2) G cI cJ cZ cD cR cT (va_A (va_pl L f0) sz) kp L) 0 0 (va_A (va_pl L f0) sz) := by
  refine metT (by decide) (Nat.le_of_ble_eq_true rfl) hTH ?_
  intro p e s m below meth c A ls E hW hl
  obtain ⟨hx, hb, -, hml, hown, hts, -, -, -⟩ := id E
  have hF : FM kp L ms_X11_tells f0 f0 := FM.rf
  have hl : lv_has ls 4 [(0, .ref h0), (1, .int u1), (2, .int u2)] := hl
  refine lv_aload_n hx hb dX11_tells_0 rfl (lv_at hl 0 rfl) ?_
  refine fg_RX11_12 E hW rh0 dX11_tells_1 (fun a1527560 m1527561 r1527562 => ?_)
  refine fg_RX11_114 E hW r1527562 dX11_tells_4 (fun a1527563 m1527564 r1527565 => ?_)
  refine lv_astore_n (lv' := [(3, .ref a1527563), (0, .ref h0), (1, .int u1), (2, .int u2)]) hx hb dX11_tells_7 rfl hl (by decide) rfl (fun ls hl => ?_)
  refine lv_aload_n hx hb dX11_tells_8 rfl (lv_at hl 0 rfl) ?_
  refine lv_iload_n hx hb dX11_tells_9 rfl (lv_at hl 2 rfl) ?_
  refine t_callV (As := [.int u1]) (rest := []) E hW (c_X1_has l G cI cJ cZ cD cR cT kp L f0 hW.2.2.2 _ a1527563 u1 r1527565) r1527565 (by decide) rfl wk_X1_has tw_683 rfl ⟨Nat.le_of_ble_eq_true rfl, Nat.le_of_ble_eq_true rfl⟩ ⟨rfl, rfl⟩ hl.1 rfl (Nat.le_of_ble_eq_true rfl) dX11_tells_10 ⟨Nat.le_of_ble_eq_true rfl, Nat.le_of_ble_eq_true rfl⟩ (fun v1527566 f1527567 H locs q1527568 hW => ?_)
  obtain ⟨⟨x1527570, rfl, p1527571⟩, g1527569⟩ := q1527568
  have hF := FM.tr hF g1527569 rfl
  refine q_if_ne (tgt := 18) hx hb dX11_tells_13 (by decide) rfl (fun c1527572 => ?_) (fun c1527572 => ?_)
  · have q1527573 : 0 ≤ u1.toInt ∧ u1.toInt ≤ 39 := by omega
    clear p1527571
    refine lv_aload_n hx hb dX11_tells_18 rfl (lv_at hl 1 rfl) ?_
    refine fg_RX11_12 E hW rh0 dX11_tells_19 (fun a1527574 m1527575 r1527576 => ?_)
    obtain rfl : a1527560 = a1527574 := (((fm_R g1527569 rh0 rfl).trans m1527561)).symm.trans m1527575
    refine t_callV (As := []) (rest := []) E hW (c_X0_lookAtNow l G cI cJ cZ cD cR cT kp L f1527567 hW.2.2.2 _ a1527560 r1527562) r1527562 (by decide) rfl wk_X0_lookAtNow tw_687 rfl ⟨Nat.le_of_ble_eq_true rfl, Nat.le_of_ble_eq_true rfl⟩ ⟨rfl, rfl⟩ hl.1 rfl (Nat.le_of_ble_eq_true rfl) dX11_tells_22 ⟨Nat.le_of_ble_eq_true rfl, Nat.le_of_ble_eq_true rfl⟩ (fun v1527577 f1527578 H locs q1527579 hW => ?_)
    obtain ⟨rfl, g1527580⟩ := q1527579
    have hF := FM.tr hF g1527580 rfl
    refine lv_iload_n hx hb dX11_tells_25 rfl (lv_at hl 3 rfl) ?_
    by_cases c1527581 : u2.toInt = 0
    · refine lv_tableIn (tgt := 72) hx hb dX11_tells_26 (by omega) (by omega) (by rw [c1527581]; rfl) (by decide) ?_
      refine lv_aload_n hx hb dX11_tells_72 rfl (lv_at hl 0 rfl) ?_
      refine fg_RX11_154 E hW r1527565 dX11_tells_73 (fun a1527582 m1527583 r1527584 => ?_)
      refine lv_iload_n hx hb dX11_tells_76 rfl (lv_at hl 2 rfl) ?_
      refine gl_164 E hW r1527584 ⟨by omega, by omega⟩ dX11_tells_77 (fun y1527585 m1527586 b1527587 => ?_)
      exact e_I E hW rfl ⟨⟨_, rfl, trivial⟩, hF⟩ dX11_tells_78
    by_cases c1527588 : u2.toInt = 1
    · refine lv_tableIn (tgt := 79) hx hb dX11_tells_26 (by omega) (by omega) (by rw [c1527588]; rfl) (by decide) ?_
      refine lv_aload_n hx hb dX11_tells_79 rfl (lv_at hl 0 rfl) ?_
      refine fg_RX11_157 E hW r1527565 dX11_tells_80 (fun a1527589 m1527590 r1527591 => ?_)
      refine lv_iload_n hx hb dX11_tells_83 rfl (lv_at hl 2 rfl) ?_
      refine gl_163 E hW r1527591 ⟨by omega, by omega⟩ dX11_tells_84 (fun y1527592 m1527593 => ?_)
      exact e_I E hW rfl ⟨⟨_, rfl, trivial⟩, hF⟩ dX11_tells_85
    by_cases c1527595 : u2.toInt = 2
    · refine lv_tableIn (tgt := 86) hx hb dX11_tells_26 (by omega) (by omega) (by rw [c1527595]; rfl) (by decide) ?_
      refine lv_aload_n hx hb dX11_tells_86 rfl (lv_at hl 0 rfl) ?_
      refine fg_RX11_160 E hW r1527565 dX11_tells_87 (fun a1527596 m1527597 r1527598 => ?_)
      refine lv_iload_n hx hb dX11_tells_90 rfl (lv_at hl 2 rfl) ?_
      refine gl_165 E hW r1527598 ⟨by omega, by omega⟩ dX11_tells_91 (fun y1527599 m1527600 => ?_)
      exact e_I E hW rfl ⟨⟨_, rfl, trivial⟩, hF⟩ dX11_tells_92
    by_cases c1527602 : u2.toInt = 3
    · refine lv_tableIn (tgt := 93) hx hb dX11_tells_26 (by omega) (by omega) (by rw [c1527602]; rfl) (by decide) ?_
      refine lv_aload_n hx hb dX11_tells_93 rfl (lv_at hl 0 rfl) ?_
      refine fg_RX11_154 E hW r1527565 dX11_tells_94 (fun a1527603 m1527604 r1527605 => ?_)
      refine lv_iload_n hx hb dX11_tells_97 rfl (lv_at hl 2 rfl) ?_
      refine gl_164 E hW r1527605 ⟨by omega, by omega⟩ dX11_tells_98 (fun y1527606 m1527607 b1527608 => ?_)
      refine lv_iconst (v := (-1)) hx hb dX11_tells_99 (by decide) ?_
      have J1527624 : ∀ (f1527618 : Nat → va_E) (y1527622 : Int32) (m1527619 : oR (f1527618 a1527560) 1 = a1527563) (m1527620 : oR (f1527618 a1527563) 4 = a1527603) (m1527621 : oR (f1527618 h0) 0 = a1527560) (b1527623 : (-1 : Int) ≤ y1527622.toInt) (H : Heap) (locs : List Loc) (ls : Array Slot), WS G cI cJ cZ cD cR cT A kp L f1527618 s H locs → FM kp L ms_X11_tells f0 f1527618 → lv_has ls 4 [(3, .ref a1527563), (0, .ref h0), (1, .int u1), (2, .int u2)] → W p l e ({ frames := 6, cells := 0, slots := 0, locals := 165 }) s m ([.ref h0, .int u1, .int u2] : List Value).toArray below meth c H locs 0 0 (MQ below (QT (po_X11_tells kp L f0 h0 u1 u2) G cI cJ cZ cD cR cT A kp L) ([.ref h0, .int u1, .int u2] : List Value).toArray s 0 0 A) (F0 m 115 ls [.int y1527622]) := by
        intro f1527618 y1527622 m1527619 m1527620 m1527621 b1527623 H locs ls hW hF hl
        clear c1527572 b1527608
        exact e_I E hW rfl ⟨⟨_, rfl, trivial⟩, hF⟩ dX11_tells_115
      refine q_icmp_ne (Y := -1) (tgt := 107) hx hb dX11_tells_100 (by decide) rfl rfl (fun c1527625 => ?_) (fun c1527625 => ?_)
      · refine lv_aload_n hx hb dX11_tells_107 rfl (lv_at hl 1 rfl) ?_
        refine fg_RX11_12 E hW rh0 dX11_tells_108 (fun a1527626 m1527627 r1527628 => ?_)
        obtain rfl : a1527560 = a1527626 := (((fm_R g1527580 rh0 rfl).trans m1527575)).symm.trans m1527627
        refine lv_iload_n hx hb dX11_tells_111 rfl (lv_at hl 2 rfl) ?_
        refine t_callV (As := [.int u1]) (rest := []) E hW (c_X0_fairOf l G cI cJ cZ cD cR cT kp L f1527578 hW.2.2.2 _ a1527560 u1 r1527562 (by omega)) r1527562 (by decide) rfl wk_X0_fairOf tw_705 rfl ⟨Nat.le_of_ble_eq_true rfl, Nat.le_of_ble_eq_true rfl⟩ ⟨rfl, rfl⟩ hl.1 rfl (Nat.le_of_ble_eq_true rfl) dX11_tells_112 ⟨Nat.le_of_ble_eq_true rfl, Nat.le_of_ble_eq_true rfl⟩ (fun v1527629 f1527630 H locs q1527631 hW => ?_)
        obtain ⟨⟨x1527633, rfl, p1527634⟩, g1527632⟩ := q1527631
        have hF := FM.tr hF g1527632 rfl
        exact J1527624 f1527630 x1527633 ((fm_R g1527632 r1527562 rfl).trans ((fm_R g1527580 r1527562 rfl).trans ((fm_R g1527569 r1527562 rfl).trans m1527564))) ((fm_R g1527632 r1527565 rfl).trans m1527604) ((fm_R g1527632 rh0 rfl).trans m1527627) (by omega) _ _ _ hW hF (lv_sub hl [0, 1, 2, 3] rfl)
      · refine lv_iconst (v := (-1)) hx hb dX11_tells_103 (by decide) ?_
        refine lv_goto (tgt := 115) hx hb dX11_tells_104 (by decide) ?_
        exact J1527624 f1527578 (-1) ((fm_R g1527580 r1527562 rfl).trans ((fm_R g1527569 r1527562 rfl).trans m1527564)) m1527604 ((fm_R g1527580 rh0 rfl).trans m1527575) (by decide) _ _ _ hW hF (lv_sub hl [0, 1, 2, 3] rfl)
    by_cases c1527635 : u2.toInt = 4
    · refine lv_tableIn (tgt := 116) hx hb dX11_tells_26 (by omega) (by omega) (by rw [c1527635]; rfl) (by decide) ?_
      refine lv_aload_n hx hb dX11_tells_116 rfl (lv_at hl 1 rfl) ?_
      refine fg_RX11_12 E hW rh0 dX11_tells_117 (fun a1527636 m1527637 r1527638 => ?_)
      obtain rfl : a1527560 = a1527636 := (((fm_R g1527580 rh0 rfl).trans m1527575)).symm.trans m1527637
      refine lv_aload_n hx hb dX11_tells_120 rfl (lv_at hl 0 rfl) ?_
      refine fg_RX11_154 E hW r1527565 dX11_tells_121 (fun a1527639 m1527640 r1527641 => ?_)
      refine lv_iload_n hx hb dX11_tells_124 rfl (lv_at hl 2 rfl) ?_
      refine gl_164 E hW r1527641 ⟨by omega, by omega⟩ dX11_tells_125 (fun y1527642 m1527643 b1527644 => ?_)
      refine lv_iload_n hx hb dX11_tells_126 rfl (lv_at hl 2 rfl) ?_
      refine t_callV (As := [.int y1527642, .int u1]) (rest := []) E hW (c_X0_keepsFor l G cI cJ cZ cD cR cT kp L f1527578 hW.2.2.2 _ a1527560 y1527642 u1 r1527562 (by omega) (by omega)) r1527562 (by decide) rfl wk_X0_keepsFor tw_748 rfl ⟨Nat.le_of_ble_eq_true rfl, Nat.le_of_ble_eq_true rfl⟩ ⟨rfl, rfl⟩ hl.1 rfl (Nat.le_of_ble_eq_true rfl) dX11_tells_127 ⟨Nat.le_of_ble_eq_true rfl, Nat.le_of_ble_eq_true rfl⟩ (fun v1527645 f1527646 H locs q1527647 hW => ?_)
      obtain ⟨⟨x1527649, rfl, p1527650⟩, g1527648⟩ := q1527647
      have hF := FM.tr hF g1527648 rfl
      have J1527653 : ∀ (y1527651 : Int32) (b1527652 : (0 : Int) ≤ y1527651.toInt ∧ y1527651.toInt ≤ 1) (H : Heap) (locs : List Loc) (ls : Array Slot), WS G cI cJ cZ cD cR cT A kp L f1527646 s H locs → FM kp L ms_X11_tells f0 f1527646 → lv_has ls 4 [(3, .ref a1527563), (0, .ref h0), (1, .int u1), (2, .int u2)] → W p l e ({ frames := 6, cells := 0, slots := 0, locals := 165 }) s m ([.ref h0, .int u1, .int u2] : List Value).toArray below meth c H locs 0 0 (MQ below (QT (po_X11_tells kp L f0 h0 u1 u2) G cI cJ cZ cD cR cT A kp L) ([.ref h0, .int u1, .int u2] : List Value).toArray s 0 0 A) (F0 m 138 ls [.int y1527651]) := by
        intro y1527651 b1527652 H locs ls hW hF hl
        clear c1527572 p1527650
        exact e_I E hW rfl ⟨⟨_, rfl, trivial⟩, hF⟩ dX11_tells_138
      refine q_if_eq (tgt := 137) hx hb dX11_tells_130 (by decide) rfl (fun c1527654 => ?_) (fun c1527654 => ?_)
      · refine lv_iconst (v := 0) hx hb dX11_tells_137 (by decide) ?_
        exact J1527653 0 (by decide) _ _ _ hW hF (lv_sub hl [0, 1, 2, 3] rfl)
      · refine lv_iconst (v := 1) hx hb dX11_tells_133 (by decide) ?_
        refine lv_goto (tgt := 138) hx hb dX11_tells_134 (by decide) ?_
        exact J1527653 1 (by decide) _ _ _ hW hF (lv_sub hl [0, 1, 2, 3] rfl)
    by_cases c1527655 : u2.toInt = 5
    · refine lv_tableIn (tgt := 139) hx hb dX11_tells_26 (by omega) (by omega) (by rw [c1527655]; rfl) (by decide) ?_
      refine lv_aload_n hx hb dX11_tells_139 rfl (lv_at hl 1 rfl) ?_
      refine fg_RX11_12 E hW rh0 dX11_tells_140 (fun a1527656 m1527657 r1527658 => ?_)
      obtain rfl : a1527560 = a1527656 := (((fm_R g1527580 rh0 rfl).trans m1527575)).symm.trans m1527657
      refine fg_RX11_170 E hW r1527562 dX11_tells_143 (fun a1527659 m1527660 r1527661 => ?_)
      refine lv_iload_n hx hb dX11_tells_146 rfl (lv_at hl 2 rfl) ?_
      refine t_callV (As := [.int u1]) (rest := []) E hW (c_X10_stepOf l G cI cJ cZ cD cR cT kp L f1527578 hW.2.2.2 _ a1527659 u1 r1527661 (by omega)) r1527661 (by decide) rfl wk_X10_stepOf tw_756 rfl ⟨Nat.le_of_ble_eq_true rfl, Nat.le_of_ble_eq_true rfl⟩ ⟨rfl, rfl⟩ hl.1 rfl (Nat.le_of_ble_eq_true rfl) dX11_tells_147 ⟨Nat.le_of_ble_eq_true rfl, Nat.le_of_ble_eq_true rfl⟩ (fun v1527662 f1527663 H locs q1527664 hW => ?_)
      obtain ⟨⟨x1527666, rfl, p1527667⟩, g1527665⟩ := q1527664
      clear p1527667
      have hF := FM.tr hF g1527665 rfl
      exact e_I E hW rfl ⟨⟨_, rfl, trivial⟩, hF⟩ dX11_tells_150
    by_cases c1527668 : u2.toInt = 6
    · refine lv_tableIn (tgt := 151) hx hb dX11_tells_26 (by omega) (by omega) (by rw [c1527668]; rfl) (by decide) ?_
      refine lv_aload_n hx hb dX11_tells_151 rfl (lv_at hl 1 rfl) ?_
      refine fg_RX11_12 E hW rh0 dX11_tells_152 (fun a1527669 m1527670 r1527671 => ?_)
      obtain rfl : a1527560 = a1527669 := (((fm_R g1527580 rh0 rfl).trans m1527575)).symm.trans m1527670
      refine fg_RX11_170 E hW r1527562 dX11_tells_155 (fun a1527672 m1527673 r1527674 => ?_)
      refine lv_iload_n hx hb dX11_tells_158 rfl (lv_at hl 2 rfl) ?_
      refine t_callV (As := [.int u1]) (rest := []) E hW (c_X10_leftOf l G cI cJ cZ cD cR cT kp L f1527578 hW.2.2.2 _ a1527672 u1 r1527674 (by omega)) r1527674 (by decide) rfl wk_X10_leftOf tw_764 rfl ⟨Nat.le_of_ble_eq_true rfl, Nat.le_of_ble_eq_true rfl⟩ ⟨rfl, rfl⟩ hl.1 rfl (Nat.le_of_ble_eq_true rfl) dX11_tells_159 ⟨Nat.le_of_ble_eq_true rfl, Nat.le_of_ble_eq_true rfl⟩ (fun v1527675 f1527676 H locs q1527677 hW => ?_)
      obtain ⟨⟨x1527679, rfl, p1527680⟩, g1527678⟩ := q1527677
      clear p1527680
      have hF := FM.tr hF g1527678 rfl
      exact e_I E hW rfl ⟨⟨_, rfl, trivial⟩, hF⟩ dX11_tells_162
    by_cases c1527681 : u2.toInt = 7
    · refine lv_tableIn (tgt := 163) hx hb dX11_tells_26 (by omega) (by omega) (by rw [c1527681]; rfl) (by decide) ?_
      refine lv_aload_n hx hb dX11_tells_163 rfl (lv_at hl 0 rfl) ?_
      refine fg_RX11_182 E hW r1527565 dX11_tells_164 (fun a1527682 m1527683 r1527684 => ?_)
      refine lv_iload_n hx hb dX11_tells_167 rfl (lv_at hl 2 rfl) ?_
      refine gl_167 E hW r1527684 ⟨by omega, by omega⟩ dX11_tells_168 (fun y1527685 m1527686 => ?_)
      exact e_I E hW rfl ⟨⟨_, rfl, trivial⟩, hF⟩ dX11_tells_169
    refine lv_tableOut (tgt := 170) hx hb dX11_tells_26 (by omega) (by decide) ?_
    refine lv_iconst (v := (-1)) hx hb dX11_tells_170 (by decide) ?_
    exact e_I E hW rfl ⟨⟨_, rfl, trivial⟩, hF⟩ dX11_tells_171
  · clear p1527571
    refine lv_iconst (v := (-1)) hx hb dX11_tells_16 (by decide) ?_
    exact e_I E hW rfl ⟨⟨_, rfl, trivial⟩, hF⟩ dX11_tells_17
def ms_X11_wish : List (Nat × Nat) := [(11, 9), (11, 15), (768, 0)]
def po_X11_wish (kp : Nat → Nat) (L : List Nat) (f0 : Nat → va_E) (h0 : Nat) (u1 : Int32) : Option Value → (Nat → va_E) → Prop := fun v f => (∃ r : Int32, v = some (.int r) ∧ (True)) ∧ FM kp L ms_X11_wish f0 f
set_option maxHeartbeats 4000000 in
set_option maxRecDepth 100000 in
theorem c_X11_wish (l : Launch) (G : va_G) (cI cJ cZ cD cR cT : ClassId) (kp : Nat → Nat) (L : List Nat) (f0 : Nat → va_E) (hTH : TH cI cJ cZ cD cR cT kp L f0) (sz : Nat) (h0 : Nat) (u1 : Int32) (rh0 : RK kp L h0 11) : Met l yX11_wish (Cond.code yX11_wish cX11_wish 2 (some .int) :: wTab) ({ frames := 2, cells := 0, slots := 0, locals := 62 }) (va_Pc [.ref h0, .int u1] (PreW G (tys6 cI cJ cZ cD cR cT) (va_pl L f0) sz)) (QT (po_X11_wish kp L f0 h0 u1) G cI cJ cZ cD cR cT (va_A (va_pl L f0) sz) kp L) 0 0 (va_A (va_pl L f0) sz) := by
  refine metT (by decide) (Nat.le_of_ble_eq_true rfl) hTH ?_
  intro p e s m below meth c A ls E hW hl
  obtain ⟨hx, hb, -, hml, hown, hts, -, -, -⟩ := id E
  have hF : FM kp L ms_X11_wish f0 f0 := FM.rf
  have hl : lv_has ls 2 [(0, .ref h0), (1, .int u1)] := hl
  refine lv_aload_n hx hb dX11_wish_0 rfl (lv_at hl 0 rfl) ?_
  refine fg_RX11_12 E hW rh0 dX11_wish_1 (fun a1527688 m1527689 r1527690 => ?_)
  refine fg_RX11_114 E hW r1527690 dX11_wish_4 (fun a1527691 m1527692 r1527693 => ?_)
  refine lv_iload_n hx hb dX11_wish_7 rfl (lv_at hl 1 rfl) ?_
  refine t_callV (As := [.int u1]) (rest := []) E hW (c_X1_has l G cI cJ cZ cD cR cT kp L f0 hW.2.2.2 _ a1527691 u1 r1527693) r1527693 (by decide) rfl wk_X1_has tw_683 rfl ⟨Nat.le_of_ble_eq_true rfl, Nat.le_of_ble_eq_true rfl⟩ ⟨rfl, rfl⟩ hl.1 rfl (Nat.le_of_ble_eq_true rfl) dX11_wish_8 ⟨Nat.le_of_ble_eq_true rfl, Nat.le_of_ble_eq_true rfl⟩ (fun v1527694 f1527695 H locs q1527696 hW => ?_)
  obtain ⟨⟨x1527698, rfl, p1527699⟩, g1527697⟩ := q1527696
  have hF := FM.tr hF g1527697 rfl
  refine q_if_ne (tgt := 21) hx hb dX11_wish_11 (by decide) rfl (fun c1527700 => ?_) (fun c1527700 => ?_)
  · have q1527701 : 0 ≤ u1.toInt ∧ u1.toInt ≤ 39 := by omega
    clear p1527699
    refine lv_aload_n hx hb dX11_wish_21 rfl (lv_at hl 0 rfl) ?_
    refine fg_RX11_12 E hW rh0 dX11_wish_22 (fun a1527702 m1527703 r1527704 => ?_)
    obtain rfl : a1527688 = a1527702 := (((fm_R g1527697 rh0 rfl).trans m1527689)).symm.trans m1527703
    refine fg_RX11_114 E hW r1527690 dX11_wish_25 (fun a1527705 m1527706 r1527707 => ?_)
    obtain rfl : a1527691 = a1527705 := (((fm_R g1527697 r1527690 rfl).trans m1527692)).symm.trans m1527706
    refine fg_RX11_154 E hW r1527693 dX11_wish_28 (fun a1527708 m1527709 r1527710 => ?_)
    refine lv_iload_n hx hb dX11_wish_31 rfl (lv_at hl 1 rfl) ?_
    refine gl_164 E hW r1527710 ⟨by omega, by omega⟩ dX11_wish_32 (fun y1527711 m1527712 b1527713 => ?_)
    refine lv_iconst (v := (-1)) hx hb dX11_wish_33 (by decide) ?_
    refine q_icmp_ne (Y := -1) (tgt := 44) hx hb dX11_wish_34 (by decide) rfl rfl (fun c1527714 => ?_) (fun c1527714 => ?_)
    · refine lv_aload_n hx hb dX11_wish_44 rfl (lv_at hl 0 rfl) ?_
      refine lv_iload_n hx hb dX11_wish_45 rfl (lv_at hl 1 rfl) ?_
      refine t_callV (As := [.int u1]) (rest := []) E hW (c_X11_isWished l G cI cJ cZ cD cR cT kp L f1527695 hW.2.2.2 _ h0 u1 rh0 (by omega)) rh0 (by decide) rfl wk_X11_isWished tw_1256 rfl ⟨Nat.le_of_ble_eq_true rfl, Nat.le_of_ble_eq_true rfl⟩ ⟨rfl, rfl⟩ hl.1 rfl (Nat.le_of_ble_eq_true rfl) dX11_wish_46 ⟨Nat.le_of_ble_eq_true rfl, Nat.le_of_ble_eq_true rfl⟩ (fun v1527715 f1527716 H locs q1527717 hW => ?_)
      obtain ⟨⟨x1527719, rfl, p1527720⟩, g1527718⟩ := q1527717
      have hF := FM.tr hF g1527718 rfl
      refine q_if_eq (tgt := 59) hx hb dX11_wish_49 (by decide) rfl (fun c1527721 => ?_) (fun c1527721 => ?_)
      · refine lv_aload_n hx hb dX11_wish_59 rfl (lv_at hl 0 rfl) ?_
        refine fg_RX11_309 E hW rh0 dX11_wish_60 (fun y1527722 m1527723 b1527724 => ?_)
        refine lv_bipush (v := 6) hx hb dX11_wish_63 (by decide) ?_
        refine q_icmp_lt (Y := 6) (tgt := 75) hx hb dX11_wish_65 (by decide) rfl rfl (fun c1527725 => ?_) (fun c1527725 => ?_)
        · refine lv_aload_n hx hb dX11_wish_75 rfl (lv_at hl 0 rfl) ?_
          refine fg_RX11_41 E hW rh0 dX11_wish_76 (fun a1527726 m1527727 r1527728 => ?_)
          refine lv_aload_n hx hb dX11_wish_79 rfl (lv_at hl 0 rfl) ?_
          refine fg_RX11_309 E hW rh0 dX11_wish_80 (fun y1527729 m1527730 b1527731 => ?_)
          obtain rfl : y1527722 = y1527729 := (m1527723).symm.trans m1527730
          refine lv_iload_n hx hb dX11_wish_83 rfl (lv_at hl 1 rfl) ?_
          refine gs_768 E hW r1527728 ⟨by omega, by omega⟩ (by omega) dX11_wish_84 (fun f1527732 H locs e1527733 n1527734 g1527735 hW => ?_)
          have hF := FM.tr hF g1527735 rfl
          refine lv_aload_n hx hb dX11_wish_85 rfl (lv_at hl 0 rfl) ?_
          refine lv_dup hx hb dX11_wish_86 rfl ?_
          refine fg_RX11_309 E hW rh0 dX11_wish_87 (fun y1527736 m1527737 b1527738 => ?_)
          obtain rfl : y1527722 = y1527736 := (((fm_I g1527735 rh0 rfl).trans m1527730)).symm.trans m1527737
          refine lv_iconst (v := 1) hx hb dX11_wish_90 (by decide) ?_
          refine q_iadd (Y := 1) hx hb dX11_wish_91 rfl rfl (by omega) (fun x1527739 h1527740 => ?_)
          refine fp_RX11_309 E hW rh0 (by omega) dX11_wish_92 (fun f1527741 H locs e1527742 n1527743 g1527744 hW => ?_)
          have hF := FM.tr hF g1527744 rfl
          refine lv_aload_n hx hb dX11_wish_95 rfl (lv_at hl 0 rfl) ?_
          refine lv_aload_n hx hb dX11_wish_96 rfl (lv_at hl 0 rfl) ?_
          refine fg_RX11_309 E hW rh0 dX11_wish_97 (fun y1527745 m1527746 b1527747 => ?_)
          obtain rfl : x1527739 = y1527745 := (e1527742).symm.trans m1527746
          refine t_callV (As := [.int x1527739]) (rest := []) E hW (c_X11_accept l G cI cJ cZ cD cR cT kp L f1527741 hW.2.2.2 _ h0 x1527739 rh0) rh0 (by decide) rfl wk_X11_accept tw_611 rfl ⟨Nat.le_of_ble_eq_true rfl, Nat.le_of_ble_eq_true rfl⟩ ⟨rfl, rfl⟩ hl.1 rfl (Nat.le_of_ble_eq_true rfl) dX11_wish_100 ⟨Nat.le_of_ble_eq_true rfl, Nat.le_of_ble_eq_true rfl⟩ (fun v1527748 f1527749 H locs q1527750 hW => ?_)
          obtain ⟨⟨x1527752, rfl, p1527753⟩, g1527751⟩ := q1527750
          clear p1527753
          have hF := FM.tr hF g1527751 rfl
          exact e_I E hW rfl ⟨⟨_, rfl, trivial⟩, hF⟩ dX11_wish_103
        · refine lv_aload_n hx hb dX11_wish_68 rfl (lv_at hl 0 rfl) ?_
          refine lv_bipush (v := (-5)) hx hb dX11_wish_69 (by decide) ?_
          refine t_callV (As := [.int (-5)]) (rest := []) E hW (c_X11_refuse l G cI cJ cZ cD cR cT kp L f1527716 hW.2.2.2 _ h0 (-5) rh0 (by decide)) rh0 (by decide) rfl wk_X11_refuse tw_603 rfl ⟨Nat.le_of_ble_eq_true rfl, Nat.le_of_ble_eq_true rfl⟩ ⟨rfl, rfl⟩ hl.1 rfl (Nat.le_of_ble_eq_true rfl) dX11_wish_71 ⟨Nat.le_of_ble_eq_true rfl, Nat.le_of_ble_eq_true rfl⟩ (fun v1527754 f1527755 H locs q1527756 hW => ?_)
          obtain ⟨⟨x1527758, rfl, p1527759⟩, g1527757⟩ := q1527756
          have p1527759 : (-6 : Int) ≤ x1527758.toInt ∧ x1527758.toInt ≤ -1 := p1527759
          have hF := FM.tr hF g1527757 rfl
          exact e_I E hW rfl ⟨⟨_, rfl, trivial⟩, hF⟩ dX11_wish_74
      · refine lv_aload_n hx hb dX11_wish_52 rfl (lv_at hl 0 rfl) ?_
        refine lv_bipush (v := (-4)) hx hb dX11_wish_53 (by decide) ?_
        refine t_callV (As := [.int (-4)]) (rest := []) E hW (c_X11_refuse l G cI cJ cZ cD cR cT kp L f1527716 hW.2.2.2 _ h0 (-4) rh0 (by decide)) rh0 (by decide) rfl wk_X11_refuse tw_603 rfl ⟨Nat.le_of_ble_eq_true rfl, Nat.le_of_ble_eq_true rfl⟩ ⟨rfl, rfl⟩ hl.1 rfl (Nat.le_of_ble_eq_true rfl) dX11_wish_55 ⟨Nat.le_of_ble_eq_true rfl, Nat.le_of_ble_eq_true rfl⟩ (fun v1527760 f1527761 H locs q1527762 hW => ?_)
        obtain ⟨⟨x1527764, rfl, p1527765⟩, g1527763⟩ := q1527762
        have p1527765 : (-6 : Int) ≤ x1527764.toInt ∧ x1527764.toInt ≤ -1 := p1527765
        have hF := FM.tr hF g1527763 rfl
        exact e_I E hW rfl ⟨⟨_, rfl, trivial⟩, hF⟩ dX11_wish_58
    · refine lv_aload_n hx hb dX11_wish_37 rfl (lv_at hl 0 rfl) ?_
      refine lv_bipush (v := (-3)) hx hb dX11_wish_38 (by decide) ?_
      refine t_callV (As := [.int (-3)]) (rest := []) E hW (c_X11_refuse l G cI cJ cZ cD cR cT kp L f1527695 hW.2.2.2 _ h0 (-3) rh0 (by decide)) rh0 (by decide) rfl wk_X11_refuse tw_603 rfl ⟨Nat.le_of_ble_eq_true rfl, Nat.le_of_ble_eq_true rfl⟩ ⟨rfl, rfl⟩ hl.1 rfl (Nat.le_of_ble_eq_true rfl) dX11_wish_40 ⟨Nat.le_of_ble_eq_true rfl, Nat.le_of_ble_eq_true rfl⟩ (fun v1527766 f1527767 H locs q1527768 hW => ?_)
      obtain ⟨⟨x1527770, rfl, p1527771⟩, g1527769⟩ := q1527768
      have p1527771 : (-6 : Int) ≤ x1527770.toInt ∧ x1527770.toInt ≤ -1 := p1527771
      have hF := FM.tr hF g1527769 rfl
      exact e_I E hW rfl ⟨⟨_, rfl, trivial⟩, hF⟩ dX11_wish_43
  · clear p1527699
    refine lv_aload_n hx hb dX11_wish_14 rfl (lv_at hl 0 rfl) ?_
    refine lv_bipush (v := (-2)) hx hb dX11_wish_15 (by decide) ?_
    refine t_callV (As := [.int (-2)]) (rest := []) E hW (c_X11_refuse l G cI cJ cZ cD cR cT kp L f1527695 hW.2.2.2 _ h0 (-2) rh0 (by decide)) rh0 (by decide) rfl wk_X11_refuse tw_603 rfl ⟨Nat.le_of_ble_eq_true rfl, Nat.le_of_ble_eq_true rfl⟩ ⟨rfl, rfl⟩ hl.1 rfl (Nat.le_of_ble_eq_true rfl) dX11_wish_17 ⟨Nat.le_of_ble_eq_true rfl, Nat.le_of_ble_eq_true rfl⟩ (fun v1527772 f1527773 H locs q1527774 hW => ?_)
    obtain ⟨⟨x1527776, rfl, p1527777⟩, g1527775⟩ := q1527774
    have p1527777 : (-6 : Int) ≤ x1527776.toInt ∧ x1527776.toInt ≤ -1 := p1527777
    have hF := FM.tr hF g1527775 rfl
    exact e_I E hW rfl ⟨⟨_, rfl, trivial⟩, hF⟩ dX11_wish_20
def ms_X11_writ : List (Nat × Nat) := [(0, 14), (10, 0), (11, 15), (222, 0), (223, 0), (701, 0), (702, 0), (703, 0), (704, 0), (705, 0), (706, 0)]
def po_X11_writ (kp : Nat → Nat) (L : List Nat) (f0 : Nat → va_E) (h0 : Nat) (u1 : Int32) : Option Value → (Nat → va_E) → Prop := fun v f => (∃ r : Int32, v = some (.int r) ∧ (True)) ∧ FM kp L ms_X11_writ f0 f
set_option maxHeartbeats 4000000 in
set_option maxRecDepth 100000 in
theorem c_X11_writ (l : Launch) (G : va_G) (cI cJ cZ cD cR cT : ClassId) (kp : Nat → Nat) (L : List Nat) (f0 : Nat → va_E) (hTH : TH cI cJ cZ cD cR cT kp L f0) (sz : Nat) (h0 : Nat) (u1 : Int32) (rh0 : RK kp L h0 11) : Met l yX11_writ (Cond.code yX11_writ cX11_writ 4 (some .int) :: wTab) ({ frames := 4, cells := 0, slots := 0, locals := 108 }) (va_Pc [.ref h0, .int u1] (PreW G (tys6 cI cJ cZ cD cR cT) (va_pl L f0) sz)) (QT (po_X11_writ kp L f0 h0 u1) G cI cJ cZ cD cR cT (va_A (va_pl L f0) sz) kp L) 0 0 (va_A (va_pl L f0) sz) := by
  refine metT (by decide) (Nat.le_of_ble_eq_true rfl) hTH ?_
  intro p e s m below meth c A ls E hW hl
  obtain ⟨hx, hb, -, hml, hown, hts, -, -, -⟩ := id E
  have hF : FM kp L ms_X11_writ f0 f0 := FM.rf
  have hl : lv_has ls 4 [(0, .ref h0), (1, .int u1)] := hl
  refine lv_aload_n hx hb dX11_writ_0 rfl (lv_at hl 0 rfl) ?_
  refine fg_RX11_12 E hW rh0 dX11_writ_1 (fun a1527778 m1527779 r1527780 => ?_)
  refine fg_RX11_114 E hW r1527780 dX11_writ_4 (fun a1527781 m1527782 r1527783 => ?_)
  refine lv_astore_n (lv' := [(2, .ref a1527781), (0, .ref h0), (1, .int u1)]) hx hb dX11_writ_7 rfl hl (by decide) rfl (fun ls hl => ?_)
  refine lv_aload_n hx hb dX11_writ_8 rfl (lv_at hl 1 rfl) ?_
  refine fg_RX11_12 E hW rh0 dX11_writ_9 (fun a1527784 m1527785 r1527786 => ?_)
  obtain rfl : a1527778 = a1527784 := (m1527779).symm.trans m1527785
  refine fg_RX11_170 E hW r1527780 dX11_writ_12 (fun a1527787 m1527788 r1527789 => ?_)
  refine lv_astore_n (lv' := [(3, .ref a1527787), (2, .ref a1527781), (0, .ref h0), (1, .int u1)]) hx hb dX11_writ_15 rfl hl (by decide) rfl (fun ls hl => ?_)
  refine lv_aload_n hx hb dX11_writ_16 rfl (lv_at hl 1 rfl) ?_
  refine lv_iload_n hx hb dX11_writ_17 rfl (lv_at hl 3 rfl) ?_
  refine t_callV (As := [.int u1]) (rest := []) E hW (c_X1_has l G cI cJ cZ cD cR cT kp L f0 hW.2.2.2 _ a1527781 u1 r1527783) r1527783 (by decide) rfl wk_X1_has tw_683 rfl ⟨Nat.le_of_ble_eq_true rfl, Nat.le_of_ble_eq_true rfl⟩ ⟨rfl, rfl⟩ hl.1 rfl (Nat.le_of_ble_eq_true rfl) dX11_writ_18 ⟨Nat.le_of_ble_eq_true rfl, Nat.le_of_ble_eq_true rfl⟩ (fun v1527790 f1527791 H locs q1527792 hW => ?_)
  obtain ⟨⟨x1527794, rfl, p1527795⟩, g1527793⟩ := q1527792
  have hF := FM.tr hF g1527793 rfl
  refine q_if_ne (tgt := 31) hx hb dX11_writ_21 (by decide) rfl (fun c1527796 => ?_) (fun c1527796 => ?_)
  · have q1527797 : 0 ≤ u1.toInt ∧ u1.toInt ≤ 39 := by omega
    clear p1527795
    refine lv_aload_n hx hb dX11_writ_31 rfl (lv_at hl 1 rfl) ?_
    refine fg_RX11_154 E hW r1527783 dX11_writ_32 (fun a1527798 m1527799 r1527800 => ?_)
    refine lv_iload_n hx hb dX11_writ_35 rfl (lv_at hl 3 rfl) ?_
    refine gl_164 E hW r1527800 ⟨by omega, by omega⟩ dX11_writ_36 (fun y1527801 m1527802 b1527803 => ?_)
    refine lv_iconst (v := (-1)) hx hb dX11_writ_37 (by decide) ?_
    refine q_icmp_eq (Y := -1) (tgt := 59) hx hb dX11_writ_38 (by decide) rfl rfl (fun c1527804 => ?_) (fun c1527804 => ?_)
    · refine lv_aload_n hx hb dX11_writ_59 rfl (lv_at hl 2 rfl) ?_
      refine lv_bipush (v := (-3)) hx hb dX11_writ_60 (by decide) ?_
      refine t_callV (As := [.int (-3)]) (rest := []) E hW (c_X11_refuse l G cI cJ cZ cD cR cT kp L f1527791 hW.2.2.2 _ h0 (-3) rh0 (by decide)) rh0 (by decide) rfl wk_X11_refuse tw_603 rfl ⟨Nat.le_of_ble_eq_true rfl, Nat.le_of_ble_eq_true rfl⟩ ⟨rfl, rfl⟩ hl.1 rfl (Nat.le_of_ble_eq_true rfl) dX11_writ_62 ⟨Nat.le_of_ble_eq_true rfl, Nat.le_of_ble_eq_true rfl⟩ (fun v1527805 f1527806 H locs q1527807 hW => ?_)
      obtain ⟨⟨x1527809, rfl, p1527810⟩, g1527808⟩ := q1527807
      have p1527810 : (-6 : Int) ≤ x1527809.toInt ∧ x1527809.toInt ≤ -1 := p1527810
      have hF := FM.tr hF g1527808 rfl
      exact e_I E hW rfl ⟨⟨_, rfl, trivial⟩, hF⟩ dX11_writ_65
    · refine lv_aload_n hx hb dX11_writ_41 rfl (lv_at hl 1 rfl) ?_
      refine fg_RX11_160 E hW r1527783 dX11_writ_42 (fun a1527811 m1527812 r1527813 => ?_)
      refine lv_iload_n hx hb dX11_writ_45 rfl (lv_at hl 3 rfl) ?_
      refine gl_165 E hW r1527813 ⟨by omega, by omega⟩ dX11_writ_46 (fun y1527814 m1527815 => ?_)
      refine q_if_eq (tgt := 59) hx hb dX11_writ_47 (by decide) rfl (fun c1527817 => ?_) (fun c1527817 => ?_)
      · refine lv_aload_n hx hb dX11_writ_59 rfl (lv_at hl 2 rfl) ?_
        refine lv_bipush (v := (-3)) hx hb dX11_writ_60 (by decide) ?_
        refine t_callV (As := [.int (-3)]) (rest := []) E hW (c_X11_refuse l G cI cJ cZ cD cR cT kp L f1527791 hW.2.2.2 _ h0 (-3) rh0 (by decide)) rh0 (by decide) rfl wk_X11_refuse tw_603 rfl ⟨Nat.le_of_ble_eq_true rfl, Nat.le_of_ble_eq_true rfl⟩ ⟨rfl, rfl⟩ hl.1 rfl (Nat.le_of_ble_eq_true rfl) dX11_writ_62 ⟨Nat.le_of_ble_eq_true rfl, Nat.le_of_ble_eq_true rfl⟩ (fun v1527818 f1527819 H locs q1527820 hW => ?_)
        obtain ⟨⟨x1527822, rfl, p1527823⟩, g1527821⟩ := q1527820
        have p1527823 : (-6 : Int) ≤ x1527822.toInt ∧ x1527822.toInt ≤ -1 := p1527823
        have hF := FM.tr hF g1527821 rfl
        exact e_I E hW rfl ⟨⟨_, rfl, trivial⟩, hF⟩ dX11_writ_65
      · refine lv_aload_n hx hb dX11_writ_50 rfl (lv_at hl 0 rfl) ?_
        refine lv_iload_n hx hb dX11_writ_51 rfl (lv_at hl 3 rfl) ?_
        refine t_callV (As := [.int u1]) (rest := []) E hW (c_X10_openOn l G cI cJ cZ cD cR cT kp L f1527791 hW.2.2.2 _ a1527787 u1 r1527789 (by omega)) r1527789 (by decide) rfl wk_X10_openOn tw_1080 rfl ⟨Nat.le_of_ble_eq_true rfl, Nat.le_of_ble_eq_true rfl⟩ ⟨rfl, rfl⟩ hl.1 rfl (Nat.le_of_ble_eq_true rfl) dX11_writ_52 ⟨Nat.le_of_ble_eq_true rfl, Nat.le_of_ble_eq_true rfl⟩ (fun v1527824 f1527825 H locs q1527826 hW => ?_)
        obtain ⟨⟨x1527828, rfl, p1527829⟩, g1527827⟩ := q1527826
        have hF := FM.tr hF g1527827 rfl
        refine lv_iconst (v := (-1)) hx hb dX11_writ_55 (by decide) ?_
        refine q_icmp_eq (Y := -1) (tgt := 66) hx hb dX11_writ_56 (by decide) rfl rfl (fun c1527830 => ?_) (fun c1527830 => ?_)
        · refine lv_aload_n hx hb dX11_writ_66 rfl (lv_at hl 0 rfl) ?_
          refine fg_RX11_251 E hW r1527789 dX11_writ_67 (fun y1527831 m1527832 b1527833 => ?_)
          refine lv_bipush (v := 60) hx hb dX11_writ_70 (by decide) ?_
          refine q_icmp_lt (Y := 60) (tgt := 82) hx hb dX11_writ_72 (by decide) rfl rfl (fun c1527834 => ?_) (fun c1527834 => ?_)
          · refine lv_aload_n hx hb dX11_writ_82 rfl (lv_at hl 2 rfl) ?_
            refine fg_RX11_12 E hW rh0 dX11_writ_83 (fun a1527835 m1527836 r1527837 => ?_)
            obtain rfl : a1527778 = a1527835 := (((fm_R g1527827 rh0 rfl).trans ((fm_R g1527793 rh0 rfl).trans m1527785))).symm.trans m1527836
            refine t_callV (As := []) (rest := []) E hW (c_X0_lookAtNow l G cI cJ cZ cD cR cT kp L f1527825 hW.2.2.2 _ a1527778 r1527780) r1527780 (by decide) rfl wk_X0_lookAtNow tw_687 rfl ⟨Nat.le_of_ble_eq_true rfl, Nat.le_of_ble_eq_true rfl⟩ ⟨rfl, rfl⟩ hl.1 rfl (Nat.le_of_ble_eq_true rfl) dX11_writ_86 ⟨Nat.le_of_ble_eq_true rfl, Nat.le_of_ble_eq_true rfl⟩ (fun v1527838 f1527839 H locs q1527840 hW => ?_)
            obtain ⟨rfl, g1527841⟩ := q1527840
            have hF := FM.tr hF g1527841 rfl
            refine lv_aload_n hx hb dX11_writ_89 rfl (lv_at hl 0 rfl) ?_
            refine lv_iload_n hx hb dX11_writ_90 rfl (lv_at hl 3 rfl) ?_
            refine lv_aload_n hx hb dX11_writ_91 rfl (lv_at hl 1 rfl) ?_
            refine fg_RX11_154 E hW r1527783 dX11_writ_92 (fun a1527842 m1527843 r1527844 => ?_)
            obtain rfl : a1527798 = a1527842 := (((fm_R g1527841 r1527783 rfl).trans ((fm_R g1527827 r1527783 rfl).trans m1527799))).symm.trans m1527843
            refine lv_iload_n hx hb dX11_writ_95 rfl (lv_at hl 3 rfl) ?_
            refine gl_164 E hW r1527800 ⟨by omega, by omega⟩ dX11_writ_96 (fun y1527845 m1527846 b1527847 => ?_)
            obtain rfl : y1527801 = y1527845 := (((congrArg (fun z => aI z (u1 : Int32).toNatClampNeg) (fm_A g1527841 r1527800 (by decide) rfl)).trans ((congrArg (fun z => aI z (u1 : Int32).toNatClampNeg) (fm_A g1527827 r1527800 (by decide) rfl)).trans m1527802))).symm.trans m1527846
            refine lv_aload_n hx hb dX11_writ_97 rfl (lv_at hl 2 rfl) ?_
            refine fg_RX11_12 E hW rh0 dX11_writ_98 (fun a1527848 m1527849 r1527850 => ?_)
            obtain rfl : a1527778 = a1527848 := (((fm_R g1527841 rh0 rfl).trans m1527836)).symm.trans m1527849
            refine fg_RX11_219 E hW r1527780 dX11_writ_101 (fun a1527851 m1527852 r1527853 => ?_)
            refine lv_iconst (v := 0) hx hb dX11_writ_104 (by decide) ?_
            refine t_callV (As := [.int 0]) (rest := [.int y1527801, .int u1, .ref a1527787]) E hW (c_X2_weeksOf l G cI cJ cZ cD cR cT kp L f1527839 hW.2.2.2 _ a1527851 0 r1527853 (by decide)) r1527853 (by decide) rfl wk_X2_weeksOf tw_1081 rfl ⟨Nat.le_of_ble_eq_true rfl, Nat.le_of_ble_eq_true rfl⟩ ⟨rfl, rfl⟩ hl.1 rfl (Nat.le_of_ble_eq_true rfl) dX11_writ_105 ⟨Nat.le_of_ble_eq_true rfl, Nat.le_of_ble_eq_true rfl⟩ (fun v1527854 f1527855 H locs q1527856 hW => ?_)
            obtain ⟨⟨x1527858, rfl, p1527859⟩, g1527857⟩ := q1527856
            clear p1527859
            have hF := FM.tr hF g1527857 rfl
            refine lv_aload_n hx hb dX11_writ_108 rfl (lv_at hl 2 rfl) ?_
            refine fg_RX11_12 E hW rh0 dX11_writ_109 (fun a1527860 m1527861 r1527862 => ?_)
            obtain rfl : a1527778 = a1527860 := (((fm_R g1527857 rh0 rfl).trans m1527849)).symm.trans m1527861
            refine fg_RX11_255 E hW r1527780 dX11_writ_112 (fun y1527863 m1527864 b1527865 => ?_)
            refine t_callV (As := [.int u1, .int y1527801, .int x1527858, .int y1527863]) (rest := []) E hW (c_X10_add l G cI cJ cZ cD cR cT kp L f1527855 hW.2.2.2 _ a1527787 u1 y1527801 x1527858 y1527863 r1527789 (by omega) (by omega) (by omega)) r1527789 (by decide) rfl wk_X10_add tw_1085 rfl ⟨Nat.le_of_ble_eq_true rfl, Nat.le_of_ble_eq_true rfl⟩ ⟨rfl, rfl⟩ hl.1 rfl (Nat.le_of_ble_eq_true rfl) dX11_writ_115 ⟨Nat.le_of_ble_eq_true rfl, Nat.le_of_ble_eq_true rfl⟩ (fun v1527866 f1527867 H locs q1527868 hW => ?_)
            obtain ⟨rfl, g1527869⟩ := q1527868
            have hF := FM.tr hF g1527869 rfl
            refine lv_aload_n hx hb dX11_writ_118 rfl (lv_at hl 2 rfl) ?_
            refine lv_aload_n hx hb dX11_writ_119 rfl (lv_at hl 0 rfl) ?_
            refine fg_RX11_251 E hW r1527789 dX11_writ_120 (fun y1527870 m1527871 b1527872 => ?_)
            refine t_callV (As := [.int y1527870]) (rest := []) E hW (c_X11_accept l G cI cJ cZ cD cR cT kp L f1527867 hW.2.2.2 _ h0 y1527870 rh0) rh0 (by decide) rfl wk_X11_accept tw_611 rfl ⟨Nat.le_of_ble_eq_true rfl, Nat.le_of_ble_eq_true rfl⟩ ⟨rfl, rfl⟩ hl.1 rfl (Nat.le_of_ble_eq_true rfl) dX11_writ_123 ⟨Nat.le_of_ble_eq_true rfl, Nat.le_of_ble_eq_true rfl⟩ (fun v1527873 f1527874 H locs q1527875 hW => ?_)
            obtain ⟨⟨x1527877, rfl, p1527878⟩, g1527876⟩ := q1527875
            clear p1527878
            have hF := FM.tr hF g1527876 rfl
            exact e_I E hW rfl ⟨⟨_, rfl, trivial⟩, hF⟩ dX11_writ_126
          · refine lv_aload_n hx hb dX11_writ_75 rfl (lv_at hl 2 rfl) ?_
            refine lv_bipush (v := (-5)) hx hb dX11_writ_76 (by decide) ?_
            refine t_callV (As := [.int (-5)]) (rest := []) E hW (c_X11_refuse l G cI cJ cZ cD cR cT kp L f1527825 hW.2.2.2 _ h0 (-5) rh0 (by decide)) rh0 (by decide) rfl wk_X11_refuse tw_603 rfl ⟨Nat.le_of_ble_eq_true rfl, Nat.le_of_ble_eq_true rfl⟩ ⟨rfl, rfl⟩ hl.1 rfl (Nat.le_of_ble_eq_true rfl) dX11_writ_78 ⟨Nat.le_of_ble_eq_true rfl, Nat.le_of_ble_eq_true rfl⟩ (fun v1527879 f1527880 H locs q1527881 hW => ?_)
            obtain ⟨⟨x1527883, rfl, p1527884⟩, g1527882⟩ := q1527881
            have p1527884 : (-6 : Int) ≤ x1527883.toInt ∧ x1527883.toInt ≤ -1 := p1527884
            have hF := FM.tr hF g1527882 rfl
            exact e_I E hW rfl ⟨⟨_, rfl, trivial⟩, hF⟩ dX11_writ_81
        · refine lv_aload_n hx hb dX11_writ_59 rfl (lv_at hl 2 rfl) ?_
          refine lv_bipush (v := (-3)) hx hb dX11_writ_60 (by decide) ?_
          refine t_callV (As := [.int (-3)]) (rest := []) E hW (c_X11_refuse l G cI cJ cZ cD cR cT kp L f1527825 hW.2.2.2 _ h0 (-3) rh0 (by decide)) rh0 (by decide) rfl wk_X11_refuse tw_603 rfl ⟨Nat.le_of_ble_eq_true rfl, Nat.le_of_ble_eq_true rfl⟩ ⟨rfl, rfl⟩ hl.1 rfl (Nat.le_of_ble_eq_true rfl) dX11_writ_62 ⟨Nat.le_of_ble_eq_true rfl, Nat.le_of_ble_eq_true rfl⟩ (fun v1527885 f1527886 H locs q1527887 hW => ?_)
          obtain ⟨⟨x1527889, rfl, p1527890⟩, g1527888⟩ := q1527887
          have p1527890 : (-6 : Int) ≤ x1527889.toInt ∧ x1527889.toInt ≤ -1 := p1527890
          have hF := FM.tr hF g1527888 rfl
          exact e_I E hW rfl ⟨⟨_, rfl, trivial⟩, hF⟩ dX11_writ_65
  · clear p1527795
    refine lv_aload_n hx hb dX11_writ_24 rfl (lv_at hl 2 rfl) ?_
    refine lv_bipush (v := (-2)) hx hb dX11_writ_25 (by decide) ?_
    refine t_callV (As := [.int (-2)]) (rest := []) E hW (c_X11_refuse l G cI cJ cZ cD cR cT kp L f1527791 hW.2.2.2 _ h0 (-2) rh0 (by decide)) rh0 (by decide) rfl wk_X11_refuse tw_603 rfl ⟨Nat.le_of_ble_eq_true rfl, Nat.le_of_ble_eq_true rfl⟩ ⟨rfl, rfl⟩ hl.1 rfl (Nat.le_of_ble_eq_true rfl) dX11_writ_27 ⟨Nat.le_of_ble_eq_true rfl, Nat.le_of_ble_eq_true rfl⟩ (fun v1527891 f1527892 H locs q1527893 hW => ?_)
    obtain ⟨⟨x1527895, rfl, p1527896⟩, g1527894⟩ := q1527893
    have p1527896 : (-6 : Int) ≤ x1527895.toInt ∧ x1527895.toInt ≤ -1 := p1527896
    have hF := FM.tr hF g1527894 rfl
    exact e_I E hW rfl ⟨⟨_, rfl, trivial⟩, hF⟩ dX11_writ_30
