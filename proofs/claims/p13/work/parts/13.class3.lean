
def ms_X11_accept : List (Nat × Nat) := [(11, 15)]
def po_X11_accept (kp : Nat → Nat) (L : List Nat) (f0 : Nat → va_E) (h0 : Nat) (u1 : Int32) : Option Value → (Nat → va_E) → Prop := fun v f => (∃ r : Int32, v = some (.int r) ∧ (True)) ∧ FM kp L ms_X11_accept f0 f
set_option maxHeartbeats 4000000 in
set_option maxRecDepth 100000 in
theorem c_X11_accept (l : Launch) (G : va_G) (cI cJ cZ cD cR cT : ClassId) (kp : Nat → Nat) (L : List Nat) (f0 : Nat → va_E) (hTH : TH cI cJ cZ cD cR cT kp L f0) (sz : Nat) (h0 : Nat) (u1 : Int32) (rh0 : RK kp L h0 11) : Met l yX11_accept (Cond.code yX11_accept cX11_accept 2 (some .int) :: wTab) ({ frames := 1, cells := 0, slots := 0, locals := 40 }) (va_Pc [.ref h0, .int u1] (PreW G (tys6 cI cJ cZ cD cR cT) (va_pl L f0) sz)) (QT (po_X11_accept kp L f0 h0 u1) G cI cJ cZ cD cR cT (va_A (va_pl L f0) sz) kp L) 0 0 (va_A (va_pl L f0) sz) := by
  refine metT (by decide) (Nat.le_of_ble_eq_true rfl) hTH ?_
  intro p e s m below meth c A ls E hW hl
  obtain ⟨hx, hb, -, hml, hown, hts, -, -, -⟩ := id E
  have hF : FM kp L ms_X11_accept f0 f0 := FM.rf
  have hl : lv_has ls 2 [(0, .ref h0), (1, .int u1)] := hl
  refine lv_aload_n hx hb dX11_accept_0 rfl (lv_at hl 0 rfl) ?_
  refine lv_iconst (v := 0) hx hb dX11_accept_1 (by decide) ?_
  refine fp_RX11_356 E hW rh0 dX11_accept_2 (fun f1471990 H locs e1471991 n1471992 g1471993 hW => ?_)
  have hF := FM.tr hF g1471993 rfl
  refine lv_iload_n hx hb dX11_accept_5 rfl (lv_at hl 1 rfl) ?_
  exact e_I E hW rfl ⟨⟨_, rfl, trivial⟩, hF⟩ dX11_accept_6
def ms_X11_within : List (Nat × Nat) := []
def po_X11_within (kp : Nat → Nat) (L : List Nat) (f0 : Nat → va_E) (u1 : Int32) (u2 : Int32) (u3 : Int32) : Option Value → (Nat → va_E) → Prop := fun v f => (∃ r : Int32, v = some (.int r) ∧ ((r.toInt = 1 ∧ u2.toInt ≤ u1.toInt ∧ u1.toInt ≤ u3.toInt) ∨ (r.toInt = 0 ∧ (u1.toInt < u2.toInt ∨ u3.toInt < u1.toInt)))) ∧ FM kp L ms_X11_within f0 f
set_option maxHeartbeats 4000000 in
set_option maxRecDepth 100000 in
theorem c_X11_within (l : Launch) (G : va_G) (cI cJ cZ cD cR cT : ClassId) (kp : Nat → Nat) (L : List Nat) (f0 : Nat → va_E) (hTH : TH cI cJ cZ cD cR cT kp L f0) (sz : Nat) (u1 : Int32) (u2 : Int32) (u3 : Int32) (pu2 : (-10000 : Int) ≤ u2.toInt ∧ u2.toInt ≤ 31) : Met l yX11_within (Cond.code yX11_within cX11_within 3 (some .boolean) :: wTab) ({ frames := 1, cells := 0, slots := 0, locals := 40 }) (va_Pc [.int u1, .int u2, .int u3] (PreW G (tys6 cI cJ cZ cD cR cT) (va_pl L f0) sz)) (QT (po_X11_within kp L f0 u1 u2 u3) G cI cJ cZ cD cR cT (va_A (va_pl L f0) sz) kp L) 0 0 (va_A (va_pl L f0) sz) := by
  refine metT (by decide) (Nat.le_of_ble_eq_true rfl) hTH ?_
  intro p e s m below meth c A ls E hW hl
  obtain ⟨hx, hb, -, hml, hown, hts, -, -, -⟩ := id E
  have hF : FM kp L ms_X11_within f0 f0 := FM.rf
  have hl : lv_has ls 3 [(0, .int u1), (1, .int u2), (2, .int u3)] := hl
  refine lv_iload_n hx hb dX11_within_0 rfl (lv_at hl 0 rfl) ?_
  refine lv_iload_n hx hb dX11_within_1 rfl (lv_at hl 1 rfl) ?_
  refine q_icmp_lt (tgt := 14) hx hb dX11_within_2 (by decide) rfl rfl (fun c1471994 => ?_) (fun c1471994 => ?_)
  · refine lv_iconst (v := 0) hx hb dX11_within_14 (by decide) ?_
    exact e_Z E hW rfl (by decide) ⟨⟨_, rfl, (by have hk : (0 : Int32).toInt = 0 := rfl; first | decide | omega)⟩, hF⟩ dX11_within_15
  · refine lv_iload_n hx hb dX11_within_5 rfl (lv_at hl 0 rfl) ?_
    refine lv_iload_n hx hb dX11_within_6 rfl (lv_at hl 2 rfl) ?_
    refine q_icmp_gt (tgt := 14) hx hb dX11_within_7 (by decide) rfl rfl (fun c1471995 => ?_) (fun c1471995 => ?_)
    · have hb1471996 : u3.toInt ≤ 2147483646 := by have := i32_b u1; omega
      refine lv_iconst (v := 0) hx hb dX11_within_14 (by decide) ?_
      exact e_Z E hW rfl (by decide) ⟨⟨_, rfl, (by have hk : (0 : Int32).toInt = 0 := rfl; first | decide | omega)⟩, hF⟩ dX11_within_15
    · refine lv_iconst (v := 1) hx hb dX11_within_10 (by decide) ?_
      refine lv_goto (tgt := 15) hx hb dX11_within_11 (by decide) ?_
      exact e_Z E hW rfl (by decide) ⟨⟨_, rfl, (by have hk : (1 : Int32).toInt = 1 := rfl; first | decide | omega)⟩, hF⟩ dX11_within_15
def ms_X11_agree : List (Nat × Nat) := []
def po_X11_agree (kp : Nat → Nat) (L : List Nat) (f0 : Nat → va_E) (h0 : Nat) (u1 : Int32) (u2 : Int32) : Option Value → (Nat → va_E) → Prop := fun v f => (∃ r : Int32, v = some (.int r) ∧ ((-1 : Int) ≤ r.toInt)) ∧ FM kp L ms_X11_agree f0 f
set_option maxHeartbeats 4000000 in
set_option maxRecDepth 100000 in
theorem c_X11_agree (l : Launch) (G : va_G) (cI cJ cZ cD cR cT : ClassId) (kp : Nat → Nat) (L : List Nat) (f0 : Nat → va_E) (hTH : TH cI cJ cZ cD cR cT kp L f0) (sz : Nat) (h0 : Nat) (u1 : Int32) (u2 : Int32) (rh0 : RK kp L h0 11) : Met l yX11_agree (Cond.code yX11_agree cX11_agree 3 (some .int) :: wTab) ({ frames := 3, cells := 0, slots := 0, locals := 92 }) (va_Pc [.ref h0, .int u1, .int u2] (PreW G (tys6 cI cJ cZ cD cR cT) (va_pl L f0) sz)) (QT (po_X11_agree kp L f0 h0 u1 u2) G cI cJ cZ cD cR cT (va_A (va_pl L f0) sz) kp L) 0 0 (va_A (va_pl L f0) sz) := by
  refine metT (by decide) (Nat.le_of_ble_eq_true rfl) hTH ?_
  intro p e s m below meth c A ls E hW hl
  obtain ⟨hx, hb, -, hml, hown, hts, -, -, -⟩ := id E
  have hF : FM kp L ms_X11_agree f0 f0 := FM.rf
  have hl : lv_has ls 3 [(0, .ref h0), (1, .int u1), (2, .int u2)] := hl
  refine lv_iload_n hx hb dX11_agree_0 rfl (lv_at hl 1 rfl) ?_
  refine lv_sipush (v := (-10000)) hx hb dX11_agree_1 (by decide) ?_
  refine lv_sipush (v := 10000) hx hb dX11_agree_4 (by decide) ?_
  refine t_callS (As := [.int u1, .int (-10000), .int 10000]) (rest := []) E hW (c_X11_within l G cI cJ cZ cD cR cT kp L f0 hW.2.2.2 _ u1 (-10000) 10000 (by decide)) wk_X11_within tw_599 rfl ⟨Nat.le_of_ble_eq_true rfl, Nat.le_of_ble_eq_true rfl⟩ ⟨rfl, rfl⟩ hl.1 rfl (Nat.le_of_ble_eq_true rfl) dX11_agree_7 ⟨Nat.le_of_ble_eq_true rfl, Nat.le_of_ble_eq_true rfl⟩ (fun v1471997 f1471998 H locs q1471999 hW => ?_)
  obtain ⟨⟨x1472001, rfl, p1472002⟩, g1472000⟩ := q1471999
  have p1472002 : (x1472001.toInt = 1 ∧ (-10000) ≤ u1.toInt ∧ u1.toInt ≤ 10000) ∨ (x1472001.toInt = 0 ∧ (u1.toInt < (-10000) ∨ 10000 < u1.toInt)) := p1472002
  have hF := FM.tr hF g1472000 rfl
  refine q_if_eq (tgt := 26) hx hb dX11_agree_10 (by decide) rfl (fun c1472003 => ?_) (fun c1472003 => ?_)
  · have q1472004 : (u1.toInt < (-10000) ∨ 10000 < u1.toInt) := by omega
    clear p1472002
    refine lv_iconst (v := (-1)) hx hb dX11_agree_26 (by decide) ?_
    exact e_I E hW rfl ⟨⟨_, rfl, (by have hk : ((-1) : Int32).toInt = -1 := rfl; first | decide | omega)⟩, hF⟩ dX11_agree_27
  · have q1472005 : (-10000) ≤ u1.toInt ∧ u1.toInt ≤ 10000 := by omega
    clear p1472002
    refine lv_iload_n hx hb dX11_agree_13 rfl (lv_at hl 2 rfl) ?_
    refine lv_sipush (v := (-10000)) hx hb dX11_agree_14 (by decide) ?_
    refine lv_sipush (v := 10000) hx hb dX11_agree_17 (by decide) ?_
    refine t_callS (As := [.int u2, .int (-10000), .int 10000]) (rest := []) E hW (c_X11_within l G cI cJ cZ cD cR cT kp L f1471998 hW.2.2.2 _ u2 (-10000) 10000 (by decide)) wk_X11_within tw_599 rfl ⟨Nat.le_of_ble_eq_true rfl, Nat.le_of_ble_eq_true rfl⟩ ⟨rfl, rfl⟩ hl.1 rfl (Nat.le_of_ble_eq_true rfl) dX11_agree_20 ⟨Nat.le_of_ble_eq_true rfl, Nat.le_of_ble_eq_true rfl⟩ (fun v1472006 f1472007 H locs q1472008 hW => ?_)
    obtain ⟨⟨x1472010, rfl, p1472011⟩, g1472009⟩ := q1472008
    have p1472011 : (x1472010.toInt = 1 ∧ (-10000) ≤ u2.toInt ∧ u2.toInt ≤ 10000) ∨ (x1472010.toInt = 0 ∧ (u2.toInt < (-10000) ∨ 10000 < u2.toInt)) := p1472011
    have hF := FM.tr hF g1472009 rfl
    refine q_if_ne (tgt := 28) hx hb dX11_agree_23 (by decide) rfl (fun c1472012 => ?_) (fun c1472012 => ?_)
    · have q1472013 : (-10000) ≤ u2.toInt ∧ u2.toInt ≤ 10000 := by omega
      clear p1472011
      refine lv_aload_n hx hb dX11_agree_28 rfl (lv_at hl 0 rfl) ?_
      refine fg_RX11_12 E hW rh0 dX11_agree_29 (fun a1472014 m1472015 r1472016 => ?_)
      refine fg_RX11_98 E hW r1472016 dX11_agree_32 (fun a1472017 m1472018 r1472019 => ?_)
      refine lv_iload_n hx hb dX11_agree_35 rfl (lv_at hl 1 rfl) ?_
      refine lv_iload_n hx hb dX11_agree_36 rfl (lv_at hl 2 rfl) ?_
      refine t_callV (As := [.int u1, .int u2]) (rest := []) E hW (c_X3_bestSet l G cI cJ cZ cD cR cT kp L f1472007 hW.2.2.2 _ a1472017 u1 u2 r1472019 (by omega) (by omega)) r1472019 (by decide) rfl wk_X3_bestSet tw_1238 rfl ⟨Nat.le_of_ble_eq_true rfl, Nat.le_of_ble_eq_true rfl⟩ ⟨rfl, rfl⟩ hl.1 rfl (Nat.le_of_ble_eq_true rfl) dX11_agree_37 ⟨Nat.le_of_ble_eq_true rfl, Nat.le_of_ble_eq_true rfl⟩ (fun v1472020 f1472021 H locs q1472022 hW => ?_)
      obtain ⟨⟨x1472024, rfl, p1472025⟩, g1472023⟩ := q1472022
      have hF := FM.tr hF g1472023 rfl
      exact e_I E hW rfl ⟨⟨_, rfl, (by first | omega | trivial)⟩, hF⟩ dX11_agree_40
    · have q1472026 : (u2.toInt < (-10000) ∨ 10000 < u2.toInt) := by omega
      clear p1472011
      refine lv_iconst (v := (-1)) hx hb dX11_agree_26 (by decide) ?_
      exact e_I E hW rfl ⟨⟨_, rfl, (by have hk : ((-1) : Int32).toInt = -1 := rfl; first | decide | omega)⟩, hF⟩ dX11_agree_27
def ms_X11_refuse : List (Nat × Nat) := [(11, 15)]
def po_X11_refuse (kp : Nat → Nat) (L : List Nat) (f0 : Nat → va_E) (h0 : Nat) (u1 : Int32) : Option Value → (Nat → va_E) → Prop := fun v f => (∃ r : Int32, v = some (.int r) ∧ ((-6 : Int) ≤ r.toInt ∧ r.toInt ≤ -1)) ∧ FM kp L ms_X11_refuse f0 f
set_option maxHeartbeats 4000000 in
set_option maxRecDepth 100000 in
theorem c_X11_refuse (l : Launch) (G : va_G) (cI cJ cZ cD cR cT : ClassId) (kp : Nat → Nat) (L : List Nat) (f0 : Nat → va_E) (hTH : TH cI cJ cZ cD cR cT kp L f0) (sz : Nat) (h0 : Nat) (u1 : Int32) (rh0 : RK kp L h0 11) (pu1 : (-6 : Int) ≤ u1.toInt ∧ u1.toInt ≤ -1) : Met l yX11_refuse (Cond.code yX11_refuse cX11_refuse 2 (some .int) :: wTab) ({ frames := 1, cells := 0, slots := 0, locals := 40 }) (va_Pc [.ref h0, .int u1] (PreW G (tys6 cI cJ cZ cD cR cT) (va_pl L f0) sz)) (QT (po_X11_refuse kp L f0 h0 u1) G cI cJ cZ cD cR cT (va_A (va_pl L f0) sz) kp L) 0 0 (va_A (va_pl L f0) sz) := by
  refine metT (by decide) (Nat.le_of_ble_eq_true rfl) hTH ?_
  intro p e s m below meth c A ls E hW hl
  obtain ⟨hx, hb, -, hml, hown, hts, -, -, -⟩ := id E
  have hF : FM kp L ms_X11_refuse f0 f0 := FM.rf
  have hl : lv_has ls 2 [(0, .ref h0), (1, .int u1)] := hl
  refine lv_aload_n hx hb dX11_refuse_0 rfl (lv_at hl 0 rfl) ?_
  refine lv_iload_n hx hb dX11_refuse_1 rfl (lv_at hl 1 rfl) ?_
  refine fp_RX11_356 E hW rh0 dX11_refuse_2 (fun f1472027 H locs e1472028 n1472029 g1472030 hW => ?_)
  have hF := FM.tr hF g1472030 rfl
  refine lv_iload_n hx hb dX11_refuse_5 rfl (lv_at hl 1 rfl) ?_
  exact e_I E hW rfl ⟨⟨_, rfl, (by first | omega | trivial)⟩, hF⟩ dX11_refuse_6
def ms_X11_alter : List (Nat × Nat) := [(11, 15), (163, 0)]
def po_X11_alter (kp : Nat → Nat) (L : List Nat) (f0 : Nat → va_E) (h0 : Nat) (u1 : Int32) (u2 : Int32) : Option Value → (Nat → va_E) → Prop := fun v f => (∃ r : Int32, v = some (.int r) ∧ (True)) ∧ FM kp L ms_X11_alter f0 f
set_option maxHeartbeats 4000000 in
set_option maxRecDepth 100000 in
theorem c_X11_alter (l : Launch) (G : va_G) (cI cJ cZ cD cR cT : ClassId) (kp : Nat → Nat) (L : List Nat) (f0 : Nat → va_E) (hTH : TH cI cJ cZ cD cR cT kp L f0) (sz : Nat) (h0 : Nat) (u1 : Int32) (u2 : Int32) (rh0 : RK kp L h0 11) : Met l yX11_alter (Cond.code yX11_alter cX11_alter 3 (some .int) :: wTab) ({ frames := 2, cells := 0, slots := 0, locals := 62 }) (va_Pc [.ref h0, .int u1, .int u2] (PreW G (tys6 cI cJ cZ cD cR cT) (va_pl L f0) sz)) (QT (po_X11_alter kp L f0 h0 u1 u2) G cI cJ cZ cD cR cT (va_A (va_pl L f0) sz) kp L) 0 0 (va_A (va_pl L f0) sz) := by
  refine metT (by decide) (Nat.le_of_ble_eq_true rfl) hTH ?_
  intro p e s m below meth c A ls E hW hl
  obtain ⟨hx, hb, -, hml, hown, hts, -, -, -⟩ := id E
  have hF : FM kp L ms_X11_alter f0 f0 := FM.rf
  have hl : lv_has ls 3 [(0, .ref h0), (1, .int u1), (2, .int u2)] := hl
  refine lv_iload_n hx hb dX11_alter_0 rfl (lv_at hl 2 rfl) ?_
  refine lv_iconst (v := 1) hx hb dX11_alter_1 (by decide) ?_
  refine lv_sipush (v := 255) hx hb dX11_alter_2 (by decide) ?_
  refine t_callS (As := [.int u2, .int 1, .int 255]) (rest := []) E hW (c_X11_within l G cI cJ cZ cD cR cT kp L f0 hW.2.2.2 _ u2 1 255 (by decide)) wk_X11_within tw_599 rfl ⟨Nat.le_of_ble_eq_true rfl, Nat.le_of_ble_eq_true rfl⟩ ⟨rfl, rfl⟩ hl.1 rfl (Nat.le_of_ble_eq_true rfl) dX11_alter_5 ⟨Nat.le_of_ble_eq_true rfl, Nat.le_of_ble_eq_true rfl⟩ (fun v1472031 f1472032 H locs q1472033 hW => ?_)
  obtain ⟨⟨x1472035, rfl, p1472036⟩, g1472034⟩ := q1472033
  have p1472036 : (x1472035.toInt = 1 ∧ 1 ≤ u2.toInt ∧ u2.toInt ≤ 255) ∨ (x1472035.toInt = 0 ∧ (u2.toInt < 1 ∨ 255 < u2.toInt)) := p1472036
  have hF := FM.tr hF g1472034 rfl
  refine q_if_ne (tgt := 17) hx hb dX11_alter_8 (by decide) rfl (fun c1472037 => ?_) (fun c1472037 => ?_)
  · have q1472038 : 1 ≤ u2.toInt ∧ u2.toInt ≤ 255 := by omega
    clear p1472036
    refine lv_aload_n hx hb dX11_alter_17 rfl (lv_at hl 0 rfl) ?_
    refine fg_RX11_12 E hW rh0 dX11_alter_18 (fun a1472039 m1472040 r1472041 => ?_)
    refine fg_RX11_114 E hW r1472041 dX11_alter_21 (fun a1472042 m1472043 r1472044 => ?_)
    refine lv_iload_n hx hb dX11_alter_24 rfl (lv_at hl 1 rfl) ?_
    refine t_callV (As := [.int u1]) (rest := []) E hW (c_X1_has l G cI cJ cZ cD cR cT kp L f1472032 hW.2.2.2 _ a1472042 u1 r1472044) r1472044 (by decide) rfl wk_X1_has tw_683 rfl ⟨Nat.le_of_ble_eq_true rfl, Nat.le_of_ble_eq_true rfl⟩ ⟨rfl, rfl⟩ hl.1 rfl (Nat.le_of_ble_eq_true rfl) dX11_alter_25 ⟨Nat.le_of_ble_eq_true rfl, Nat.le_of_ble_eq_true rfl⟩ (fun v1472045 f1472046 H locs q1472047 hW => ?_)
    obtain ⟨⟨x1472049, rfl, p1472050⟩, g1472048⟩ := q1472047
    have hF := FM.tr hF g1472048 rfl
    refine q_if_ne (tgt := 38) hx hb dX11_alter_28 (by decide) rfl (fun c1472051 => ?_) (fun c1472051 => ?_)
    · have q1472052 : 0 ≤ u1.toInt ∧ u1.toInt ≤ 39 := by omega
      clear p1472050
      refine lv_aload_n hx hb dX11_alter_38 rfl (lv_at hl 0 rfl) ?_
      refine fg_RX11_12 E hW rh0 dX11_alter_39 (fun a1472053 m1472054 r1472055 => ?_)
      obtain rfl : a1472039 = a1472053 := (((fm_R g1472048 rh0 rfl).trans m1472040)).symm.trans m1472054
      refine fg_RX11_114 E hW r1472041 dX11_alter_42 (fun a1472056 m1472057 r1472058 => ?_)
      obtain rfl : a1472042 = a1472056 := (((fm_R g1472048 r1472041 rfl).trans m1472043)).symm.trans m1472057
      refine fg_RX11_157 E hW r1472044 dX11_alter_45 (fun a1472059 m1472060 r1472061 => ?_)
      refine lv_iload_n hx hb dX11_alter_48 rfl (lv_at hl 1 rfl) ?_
      refine lv_dup2_11 hx hb dX11_alter_49 rfl rfl ?_
      refine gl_163 E hW r1472061 ⟨by omega, by omega⟩ dX11_alter_50 (fun y1472062 m1472063 => ?_)
      refine lv_iload_n hx hb dX11_alter_51 rfl (lv_at hl 2 rfl) ?_
      refine u_ixor hx hb dX11_alter_52 (fun x1472065 => ?_)
      refine gs_163 E hW r1472061 ⟨by omega, by omega⟩ dX11_alter_53 (fun f1472066 H locs e1472067 n1472068 g1472069 hW => ?_)
      have hF := FM.tr hF g1472069 rfl
      refine lv_aload_n hx hb dX11_alter_54 rfl (lv_at hl 0 rfl) ?_
      refine lv_aload_n hx hb dX11_alter_55 rfl (lv_at hl 0 rfl) ?_
      refine fg_RX11_12 E hW rh0 dX11_alter_56 (fun a1472070 m1472071 r1472072 => ?_)
      obtain rfl : a1472039 = a1472070 := (((fm_R g1472069 rh0 rfl).trans m1472054)).symm.trans m1472071
      refine fg_RX11_114 E hW r1472041 dX11_alter_59 (fun a1472073 m1472074 r1472075 => ?_)
      obtain rfl : a1472042 = a1472073 := (((fm_R g1472069 r1472041 rfl).trans m1472057)).symm.trans m1472074
      refine fg_RX11_157 E hW r1472044 dX11_alter_62 (fun a1472076 m1472077 r1472078 => ?_)
      obtain rfl : a1472059 = a1472076 := (((fm_R g1472069 r1472044 rfl).trans m1472060)).symm.trans m1472077
      refine lv_iload_n hx hb dX11_alter_65 rfl (lv_at hl 1 rfl) ?_
      refine gl_163 E hW r1472061 ⟨by omega, by omega⟩ dX11_alter_66 (fun y1472079 m1472080 => ?_)
      obtain rfl : x1472065 = y1472079 := ((show aI (f1472066 a1472059) (u1 : Int32).toNatClampNeg = x1472065 from by rw [e1472067]; exact up_s)).symm.trans m1472080
      refine t_callV (As := [.int x1472065]) (rest := []) E hW (c_X11_accept l G cI cJ cZ cD cR cT kp L f1472066 hW.2.2.2 _ h0 x1472065 rh0) rh0 (by decide) rfl wk_X11_accept tw_611 rfl ⟨Nat.le_of_ble_eq_true rfl, Nat.le_of_ble_eq_true rfl⟩ ⟨rfl, rfl⟩ hl.1 rfl (Nat.le_of_ble_eq_true rfl) dX11_alter_67 ⟨Nat.le_of_ble_eq_true rfl, Nat.le_of_ble_eq_true rfl⟩ (fun v1472082 f1472083 H locs q1472084 hW => ?_)
      obtain ⟨⟨x1472086, rfl, p1472087⟩, g1472085⟩ := q1472084
      clear p1472087
      have hF := FM.tr hF g1472085 rfl
      exact e_I E hW rfl ⟨⟨_, rfl, trivial⟩, hF⟩ dX11_alter_70
    · clear p1472050
      refine lv_aload_n hx hb dX11_alter_31 rfl (lv_at hl 0 rfl) ?_
      refine lv_bipush (v := (-2)) hx hb dX11_alter_32 (by decide) ?_
      refine t_callV (As := [.int (-2)]) (rest := []) E hW (c_X11_refuse l G cI cJ cZ cD cR cT kp L f1472046 hW.2.2.2 _ h0 (-2) rh0 (by decide)) rh0 (by decide) rfl wk_X11_refuse tw_603 rfl ⟨Nat.le_of_ble_eq_true rfl, Nat.le_of_ble_eq_true rfl⟩ ⟨rfl, rfl⟩ hl.1 rfl (Nat.le_of_ble_eq_true rfl) dX11_alter_34 ⟨Nat.le_of_ble_eq_true rfl, Nat.le_of_ble_eq_true rfl⟩ (fun v1472088 f1472089 H locs q1472090 hW => ?_)
      obtain ⟨⟨x1472092, rfl, p1472093⟩, g1472091⟩ := q1472090
      have p1472093 : (-6 : Int) ≤ x1472092.toInt ∧ x1472092.toInt ≤ -1 := p1472093
      have hF := FM.tr hF g1472091 rfl
      exact e_I E hW rfl ⟨⟨_, rfl, trivial⟩, hF⟩ dX11_alter_37
  · have q1472094 : (u2.toInt < 1 ∨ 255 < u2.toInt) := by omega
    clear p1472036
    refine lv_aload_n hx hb dX11_alter_11 rfl (lv_at hl 0 rfl) ?_
    refine lv_iconst (v := (-1)) hx hb dX11_alter_12 (by decide) ?_
    refine t_callV (As := [.int (-1)]) (rest := []) E hW (c_X11_refuse l G cI cJ cZ cD cR cT kp L f1472032 hW.2.2.2 _ h0 (-1) rh0 (by decide)) rh0 (by decide) rfl wk_X11_refuse tw_603 rfl ⟨Nat.le_of_ble_eq_true rfl, Nat.le_of_ble_eq_true rfl⟩ ⟨rfl, rfl⟩ hl.1 rfl (Nat.le_of_ble_eq_true rfl) dX11_alter_13 ⟨Nat.le_of_ble_eq_true rfl, Nat.le_of_ble_eq_true rfl⟩ (fun v1472095 f1472096 H locs q1472097 hW => ?_)
    obtain ⟨⟨x1472099, rfl, p1472100⟩, g1472098⟩ := q1472097
    have p1472100 : (-6 : Int) ≤ x1472099.toInt ∧ x1472099.toInt ≤ -1 := p1472100
    have hF := FM.tr hF g1472098 rfl
    exact e_I E hW rfl ⟨⟨_, rfl, trivial⟩, hF⟩ dX11_alter_16
def ms_X11_avoid : List (Nat × Nat) := [(11, 15), (706, 0)]
def po_X11_avoid (kp : Nat → Nat) (L : List Nat) (f0 : Nat → va_E) (h0 : Nat) (u1 : Int32) : Option Value → (Nat → va_E) → Prop := fun v f => (∃ r : Int32, v = some (.int r) ∧ (True)) ∧ FM kp L ms_X11_avoid f0 f
set_option maxHeartbeats 4000000 in
set_option maxRecDepth 100000 in
theorem c_X11_avoid (l : Launch) (G : va_G) (cI cJ cZ cD cR cT : ClassId) (kp : Nat → Nat) (L : List Nat) (f0 : Nat → va_E) (hTH : TH cI cJ cZ cD cR cT kp L f0) (sz : Nat) (h0 : Nat) (u1 : Int32) (rh0 : RK kp L h0 11) : Met l yX11_avoid (Cond.code yX11_avoid cX11_avoid 3 (some .int) :: wTab) ({ frames := 2, cells := 0, slots := 0, locals := 62 }) (va_Pc [.ref h0, .int u1] (PreW G (tys6 cI cJ cZ cD cR cT) (va_pl L f0) sz)) (QT (po_X11_avoid kp L f0 h0 u1) G cI cJ cZ cD cR cT (va_A (va_pl L f0) sz) kp L) 0 0 (va_A (va_pl L f0) sz) := by
  refine metT (by decide) (Nat.le_of_ble_eq_true rfl) hTH ?_
  intro p e s m below meth c A ls E hW hl
  obtain ⟨hx, hb, -, hml, hown, hts, -, -, -⟩ := id E
  have hF : FM kp L ms_X11_avoid f0 f0 := FM.rf
  have hl : lv_has ls 3 [(0, .ref h0), (1, .int u1)] := hl
  refine lv_aload_n hx hb dX11_avoid_0 rfl (lv_at hl 0 rfl) ?_
  refine fg_RX11_12 E hW rh0 dX11_avoid_1 (fun a1472101 m1472102 r1472103 => ?_)
  refine fg_RX11_114 E hW r1472103 dX11_avoid_4 (fun a1472104 m1472105 r1472106 => ?_)
  refine lv_iload_n hx hb dX11_avoid_7 rfl (lv_at hl 1 rfl) ?_
  refine t_callV (As := [.int u1]) (rest := []) E hW (c_X1_has l G cI cJ cZ cD cR cT kp L f0 hW.2.2.2 _ a1472104 u1 r1472106) r1472106 (by decide) rfl wk_X1_has tw_683 rfl ⟨Nat.le_of_ble_eq_true rfl, Nat.le_of_ble_eq_true rfl⟩ ⟨rfl, rfl⟩ hl.1 rfl (Nat.le_of_ble_eq_true rfl) dX11_avoid_8 ⟨Nat.le_of_ble_eq_true rfl, Nat.le_of_ble_eq_true rfl⟩ (fun v1472107 f1472108 H locs q1472109 hW => ?_)
  obtain ⟨⟨x1472111, rfl, p1472112⟩, g1472110⟩ := q1472109
  have hF := FM.tr hF g1472110 rfl
  refine q_if_ne (tgt := 21) hx hb dX11_avoid_11 (by decide) rfl (fun c1472113 => ?_) (fun c1472113 => ?_)
  · have q1472114 : 0 ≤ u1.toInt ∧ u1.toInt ≤ 39 := by omega
    clear p1472112
    refine lv_aload_n hx hb dX11_avoid_21 rfl (lv_at hl 0 rfl) ?_
    refine fg_RX11_12 E hW rh0 dX11_avoid_22 (fun a1472115 m1472116 r1472117 => ?_)
    obtain rfl : a1472101 = a1472115 := (((fm_R g1472110 rh0 rfl).trans m1472102)).symm.trans m1472116
    refine fg_RX11_170 E hW r1472103 dX11_avoid_25 (fun a1472118 m1472119 r1472120 => ?_)
    refine lv_iload_n hx hb dX11_avoid_28 rfl (lv_at hl 1 rfl) ?_
    refine t_callV (As := [.int u1]) (rest := []) E hW (c_X10_openOn l G cI cJ cZ cD cR cT kp L f1472108 hW.2.2.2 _ a1472118 u1 r1472120 (by omega)) r1472120 (by decide) rfl wk_X10_openOn tw_1080 rfl ⟨Nat.le_of_ble_eq_true rfl, Nat.le_of_ble_eq_true rfl⟩ ⟨rfl, rfl⟩ hl.1 rfl (Nat.le_of_ble_eq_true rfl) dX11_avoid_29 ⟨Nat.le_of_ble_eq_true rfl, Nat.le_of_ble_eq_true rfl⟩ (fun v1472121 f1472122 H locs q1472123 hW => ?_)
    obtain ⟨⟨x1472125, rfl, p1472126⟩, g1472124⟩ := q1472123
    have hF := FM.tr hF g1472124 rfl
    refine lv_istore_n (lv' := [(2, .int x1472125), (0, .ref h0), (1, .int u1)]) hx hb dX11_avoid_32 rfl hl (by decide) rfl (fun ls hl => ?_)
    refine lv_iload_n hx hb dX11_avoid_33 rfl (lv_at hl 0 rfl) ?_
    refine lv_iconst (v := (-1)) hx hb dX11_avoid_34 (by decide) ?_
    refine q_icmp_ne (Y := -1) (tgt := 45) hx hb dX11_avoid_35 (by decide) rfl rfl (fun c1472127 => ?_) (fun c1472127 => ?_)
    · refine lv_aload_n hx hb dX11_avoid_45 rfl (lv_at hl 1 rfl) ?_
      refine fg_RX11_12 E hW rh0 dX11_avoid_46 (fun a1472128 m1472129 r1472130 => ?_)
      obtain rfl : a1472101 = a1472128 := (((fm_R g1472124 rh0 rfl).trans m1472116)).symm.trans m1472129
      refine fg_RX11_170 E hW r1472103 dX11_avoid_49 (fun a1472131 m1472132 r1472133 => ?_)
      obtain rfl : a1472118 = a1472131 := (((fm_R g1472124 r1472103 rfl).trans m1472119)).symm.trans m1472132
      refine fg_RX11_261 E hW r1472120 dX11_avoid_52 (fun a1472134 m1472135 r1472136 => ?_)
      refine lv_iload_n hx hb dX11_avoid_55 rfl (lv_at hl 0 rfl) ?_
      refine lv_iconst (v := 0) hx hb dX11_avoid_56 (by decide) ?_
      refine gs_706 E hW r1472136 ⟨by omega, by omega⟩ dX11_avoid_57 (fun f1472137 H locs e1472138 n1472139 g1472140 hW => ?_)
      have hF := FM.tr hF g1472140 rfl
      refine lv_aload_n hx hb dX11_avoid_58 rfl (lv_at hl 1 rfl) ?_
      refine lv_iconst (v := 0) hx hb dX11_avoid_59 (by decide) ?_
      refine t_callV (As := [.int 0]) (rest := []) E hW (c_X11_accept l G cI cJ cZ cD cR cT kp L f1472137 hW.2.2.2 _ h0 0 rh0) rh0 (by decide) rfl wk_X11_accept tw_611 rfl ⟨Nat.le_of_ble_eq_true rfl, Nat.le_of_ble_eq_true rfl⟩ ⟨rfl, rfl⟩ hl.1 rfl (Nat.le_of_ble_eq_true rfl) dX11_avoid_60 ⟨Nat.le_of_ble_eq_true rfl, Nat.le_of_ble_eq_true rfl⟩ (fun v1472141 f1472142 H locs q1472143 hW => ?_)
      obtain ⟨⟨x1472145, rfl, p1472146⟩, g1472144⟩ := q1472143
      clear p1472146
      have hF := FM.tr hF g1472144 rfl
      exact e_I E hW rfl ⟨⟨_, rfl, trivial⟩, hF⟩ dX11_avoid_63
    · refine lv_aload_n hx hb dX11_avoid_38 rfl (lv_at hl 1 rfl) ?_
      refine lv_bipush (v := (-3)) hx hb dX11_avoid_39 (by decide) ?_
      refine t_callV (As := [.int (-3)]) (rest := []) E hW (c_X11_refuse l G cI cJ cZ cD cR cT kp L f1472122 hW.2.2.2 _ h0 (-3) rh0 (by decide)) rh0 (by decide) rfl wk_X11_refuse tw_603 rfl ⟨Nat.le_of_ble_eq_true rfl, Nat.le_of_ble_eq_true rfl⟩ ⟨rfl, rfl⟩ hl.1 rfl (Nat.le_of_ble_eq_true rfl) dX11_avoid_41 ⟨Nat.le_of_ble_eq_true rfl, Nat.le_of_ble_eq_true rfl⟩ (fun v1472147 f1472148 H locs q1472149 hW => ?_)
      obtain ⟨⟨x1472151, rfl, p1472152⟩, g1472150⟩ := q1472149
      have p1472152 : (-6 : Int) ≤ x1472151.toInt ∧ x1472151.toInt ≤ -1 := p1472152
      have hF := FM.tr hF g1472150 rfl
      exact e_I E hW rfl ⟨⟨_, rfl, trivial⟩, hF⟩ dX11_avoid_44
  · clear p1472112
    refine lv_aload_n hx hb dX11_avoid_14 rfl (lv_at hl 0 rfl) ?_
    refine lv_bipush (v := (-2)) hx hb dX11_avoid_15 (by decide) ?_
    refine t_callV (As := [.int (-2)]) (rest := []) E hW (c_X11_refuse l G cI cJ cZ cD cR cT kp L f1472108 hW.2.2.2 _ h0 (-2) rh0 (by decide)) rh0 (by decide) rfl wk_X11_refuse tw_603 rfl ⟨Nat.le_of_ble_eq_true rfl, Nat.le_of_ble_eq_true rfl⟩ ⟨rfl, rfl⟩ hl.1 rfl (Nat.le_of_ble_eq_true rfl) dX11_avoid_17 ⟨Nat.le_of_ble_eq_true rfl, Nat.le_of_ble_eq_true rfl⟩ (fun v1472153 f1472154 H locs q1472155 hW => ?_)
    obtain ⟨⟨x1472157, rfl, p1472158⟩, g1472156⟩ := q1472155
    have p1472158 : (-6 : Int) ≤ x1472157.toInt ∧ x1472157.toInt ≤ -1 := p1472158
    have hF := FM.tr hF g1472156 rfl
    exact e_I E hW rfl ⟨⟨_, rfl, trivial⟩, hF⟩ dX11_avoid_20
def ms_X11_back : List (Nat × Nat) := [(0, 6), (0, 9), (0, 12), (0, 13), (1, 0), (1, 8), (1, 12), (1, 13), (1, 14), (2, 0), (3, 0), (3, 1), (3, 2), (3, 3), (4, 0), (10, 0), (10, 7), (11, 15), (108, 0), (161, 0), (162, 0), (163, 0), (164, 0), (165, 0), (166, 0), (167, 0), (169, 0), (170, 0), (171, 0), (221, 0), (284, 0), (285, 0), (341, 0), (342, 0), (343, 0), (344, 0), (345, 0), (346, 0), (347, 0), (348, 0), (520, 0), (521, 0), (701, 0), (702, 0), (703, 0), (704, 0), (705, 0), (706, 0), (708, 0), (709, 0), (710, 0)]
def po_X11_back (kp : Nat → Nat) (L : List Nat) (f0 : Nat → va_E) (h0 : Nat) (u1 : Int32) : Option Value → (Nat → va_E) → Prop := fun v f => (∃ r : Int32, v = some (.int r) ∧ (True)) ∧ FM kp L ms_X11_back f0 f
set_option maxHeartbeats 4000000 in
set_option maxRecDepth 100000 in
theorem c_X11_back (l : Launch) (G : va_G) (cI cJ cZ cD cR cT : ClassId) (kp : Nat → Nat) (L : List Nat) (f0 : Nat → va_E) (hTH : TH cI cJ cZ cD cR cT kp L f0) (sz : Nat) (h0 : Nat) (u1 : Int32) (rh0 : RK kp L h0 11) : Met l yX11_back (Cond.code yX11_back cX11_back 2 (some .int) :: wTab) ({ frames := 3, cells := 0, slots := 0, locals := 103 }) (va_Pc [.ref h0, .int u1] (PreW G (tys6 cI cJ cZ cD cR cT) (va_pl L f0) sz)) (QT (po_X11_back kp L f0 h0 u1) G cI cJ cZ cD cR cT (va_A (va_pl L f0) sz) kp L) 0 0 (va_A (va_pl L f0) sz) := by
  refine metT (by decide) (Nat.le_of_ble_eq_true rfl) hTH ?_
  intro p e s m below meth c A ls E hW hl
  obtain ⟨hx, hb, -, hml, hown, hts, -, -, -⟩ := id E
  have hF : FM kp L ms_X11_back f0 f0 := FM.rf
  have hl : lv_has ls 2 [(0, .ref h0), (1, .int u1)] := hl
  refine lv_iload_n hx hb dX11_back_0 rfl (lv_at hl 1 rfl) ?_
  refine lv_iconst (v := 0) hx hb dX11_back_1 (by decide) ?_
  refine lv_iconst (v := 1) hx hb dX11_back_2 (by decide) ?_
  refine t_callS (As := [.int u1, .int 0, .int 1]) (rest := []) E hW (c_X11_within l G cI cJ cZ cD cR cT kp L f0 hW.2.2.2 _ u1 0 1 (by decide)) wk_X11_within tw_599 rfl ⟨Nat.le_of_ble_eq_true rfl, Nat.le_of_ble_eq_true rfl⟩ ⟨rfl, rfl⟩ hl.1 rfl (Nat.le_of_ble_eq_true rfl) dX11_back_3 ⟨Nat.le_of_ble_eq_true rfl, Nat.le_of_ble_eq_true rfl⟩ (fun v1472159 f1472160 H locs q1472161 hW => ?_)
  obtain ⟨⟨x1472163, rfl, p1472164⟩, g1472162⟩ := q1472161
  have p1472164 : (x1472163.toInt = 1 ∧ 0 ≤ u1.toInt ∧ u1.toInt ≤ 1) ∨ (x1472163.toInt = 0 ∧ (u1.toInt < 0 ∨ 1 < u1.toInt)) := p1472164
  have hF := FM.tr hF g1472162 rfl
  refine q_if_ne (tgt := 15) hx hb dX11_back_6 (by decide) rfl (fun c1472165 => ?_) (fun c1472165 => ?_)
  · have q1472166 : 0 ≤ u1.toInt ∧ u1.toInt ≤ 1 := by omega
    clear p1472164
    refine lv_iload_n hx hb dX11_back_15 rfl (lv_at hl 1 rfl) ?_
    refine q_if_ne (tgt := 29) hx hb dX11_back_16 (by decide) rfl (fun c1472167 => ?_) (fun c1472167 => ?_)
    · refine lv_aload_n hx hb dX11_back_29 rfl (lv_at hl 0 rfl) ?_
      refine fg_RX11_353 E hW rh0 dX11_back_30 (fun y1472168 m1472169 b1472170 => ?_)
      refine q_if_ne (tgt := 43) hx hb dX11_back_33 (by decide) rfl (fun c1472171 => ?_) (fun c1472171 => ?_)
      · refine lv_aload_n hx hb dX11_back_43 rfl (lv_at hl 0 rfl) ?_
        refine fg_RX11_12 E hW rh0 dX11_back_44 (fun a1472172 m1472173 r1472174 => ?_)
        refine lv_iload_n hx hb dX11_back_47 rfl (lv_at hl 1 rfl) ?_
        refine q_if_ne (tgt := 58) hx hb dX11_back_48 (by decide) rfl (fun c1472178 => ?_) (fun c1472178 => ?_)
        · refine lv_aload_n hx hb dX11_back_58 rfl (lv_at hl 0 rfl) ?_
          refine fg_RX11_24 E hW rh0 dX11_back_59 (fun a1472179 m1472180 r1472181 => ?_)
          refine t_callV (As := [.ref a1472179]) (rest := []) E hW (c_X0_copyFrom l G cI cJ cZ cD cR cT kp L f1472160 hW.2.2.2 _ a1472172 a1472179 r1472174 r1472181) r1472174 (by decide) rfl wk_X0_copyFrom tw_1285 rfl ⟨Nat.le_of_ble_eq_true rfl, Nat.le_of_ble_eq_true rfl⟩ ⟨rfl, rfl⟩ hl.1 rfl (Nat.le_of_ble_eq_true rfl) dX11_back_62 ⟨Nat.le_of_ble_eq_true rfl, Nat.le_of_ble_eq_true rfl⟩ (fun v1472182 f1472183 H locs q1472184 hW => ?_)
          obtain ⟨rfl, g1472185⟩ := q1472184
          have hF := FM.tr hF g1472185 rfl
          refine lv_aload_n hx hb dX11_back_65 rfl (lv_at hl 0 rfl) ?_
          refine lv_iconst (v := 0) hx hb dX11_back_66 (by decide) ?_
          refine t_callV (As := [.int 0]) (rest := []) E hW (c_X11_accept l G cI cJ cZ cD cR cT kp L f1472183 hW.2.2.2 _ h0 0 rh0) rh0 (by decide) rfl wk_X11_accept tw_611 rfl ⟨Nat.le_of_ble_eq_true rfl, Nat.le_of_ble_eq_true rfl⟩ ⟨rfl, rfl⟩ hl.1 rfl (Nat.le_of_ble_eq_true rfl) dX11_back_67 ⟨Nat.le_of_ble_eq_true rfl, Nat.le_of_ble_eq_true rfl⟩ (fun v1472186 f1472187 H locs q1472188 hW => ?_)
          obtain ⟨⟨x1472190, rfl, p1472191⟩, g1472189⟩ := q1472188
          clear p1472191
          have hF := FM.tr hF g1472189 rfl
          exact e_I E hW rfl ⟨⟨_, rfl, trivial⟩, hF⟩ dX11_back_70
        · exfalso; omega
      · refine lv_aload_n hx hb dX11_back_36 rfl (lv_at hl 0 rfl) ?_
        refine lv_bipush (v := (-2)) hx hb dX11_back_37 (by decide) ?_
        refine t_callV (As := [.int (-2)]) (rest := []) E hW (c_X11_refuse l G cI cJ cZ cD cR cT kp L f1472160 hW.2.2.2 _ h0 (-2) rh0 (by decide)) rh0 (by decide) rfl wk_X11_refuse tw_603 rfl ⟨Nat.le_of_ble_eq_true rfl, Nat.le_of_ble_eq_true rfl⟩ ⟨rfl, rfl⟩ hl.1 rfl (Nat.le_of_ble_eq_true rfl) dX11_back_39 ⟨Nat.le_of_ble_eq_true rfl, Nat.le_of_ble_eq_true rfl⟩ (fun v1472192 f1472193 H locs q1472194 hW => ?_)
        obtain ⟨⟨x1472196, rfl, p1472197⟩, g1472195⟩ := q1472194
        have p1472197 : (-6 : Int) ≤ x1472196.toInt ∧ x1472196.toInt ≤ -1 := p1472197
        have hF := FM.tr hF g1472195 rfl
        exact e_I E hW rfl ⟨⟨_, rfl, trivial⟩, hF⟩ dX11_back_42
    · refine lv_aload_n hx hb dX11_back_19 rfl (lv_at hl 0 rfl) ?_
      refine fg_RX11_349 E hW rh0 dX11_back_20 (fun y1472198 m1472199 b1472200 => ?_)
      refine q_if_ne (tgt := 43) hx hb dX11_back_23 (by decide) rfl (fun c1472201 => ?_) (fun c1472201 => ?_)
      · refine lv_aload_n hx hb dX11_back_43 rfl (lv_at hl 0 rfl) ?_
        refine fg_RX11_12 E hW rh0 dX11_back_44 (fun a1472202 m1472203 r1472204 => ?_)
        refine lv_iload_n hx hb dX11_back_47 rfl (lv_at hl 1 rfl) ?_
        refine q_if_ne (tgt := 58) hx hb dX11_back_48 (by decide) rfl (fun c1472208 => ?_) (fun c1472208 => ?_)
        · exfalso; omega
        · refine lv_aload_n hx hb dX11_back_51 rfl (lv_at hl 0 rfl) ?_
          refine fg_RX11_21 E hW rh0 dX11_back_52 (fun a1472209 m1472210 r1472211 => ?_)
          refine lv_goto (tgt := 62) hx hb dX11_back_55 (by decide) ?_
          refine t_callV (As := [.ref a1472209]) (rest := []) E hW (c_X0_copyFrom l G cI cJ cZ cD cR cT kp L f1472160 hW.2.2.2 _ a1472202 a1472209 r1472204 r1472211) r1472204 (by decide) rfl wk_X0_copyFrom tw_1285 rfl ⟨Nat.le_of_ble_eq_true rfl, Nat.le_of_ble_eq_true rfl⟩ ⟨rfl, rfl⟩ hl.1 rfl (Nat.le_of_ble_eq_true rfl) dX11_back_62 ⟨Nat.le_of_ble_eq_true rfl, Nat.le_of_ble_eq_true rfl⟩ (fun v1472212 f1472213 H locs q1472214 hW => ?_)
          obtain ⟨rfl, g1472215⟩ := q1472214
          have hF := FM.tr hF g1472215 rfl
          refine lv_aload_n hx hb dX11_back_65 rfl (lv_at hl 0 rfl) ?_
          refine lv_iconst (v := 0) hx hb dX11_back_66 (by decide) ?_
          refine t_callV (As := [.int 0]) (rest := []) E hW (c_X11_accept l G cI cJ cZ cD cR cT kp L f1472213 hW.2.2.2 _ h0 0 rh0) rh0 (by decide) rfl wk_X11_accept tw_611 rfl ⟨Nat.le_of_ble_eq_true rfl, Nat.le_of_ble_eq_true rfl⟩ ⟨rfl, rfl⟩ hl.1 rfl (Nat.le_of_ble_eq_true rfl) dX11_back_67 ⟨Nat.le_of_ble_eq_true rfl, Nat.le_of_ble_eq_true rfl⟩ (fun v1472216 f1472217 H locs q1472218 hW => ?_)
          obtain ⟨⟨x1472220, rfl, p1472221⟩, g1472219⟩ := q1472218
          clear p1472221
          have hF := FM.tr hF g1472219 rfl
          exact e_I E hW rfl ⟨⟨_, rfl, trivial⟩, hF⟩ dX11_back_70
      · refine lv_goto (tgt := 36) hx hb dX11_back_26 (by decide) ?_
        refine lv_aload_n hx hb dX11_back_36 rfl (lv_at hl 0 rfl) ?_
        refine lv_bipush (v := (-2)) hx hb dX11_back_37 (by decide) ?_
        refine t_callV (As := [.int (-2)]) (rest := []) E hW (c_X11_refuse l G cI cJ cZ cD cR cT kp L f1472160 hW.2.2.2 _ h0 (-2) rh0 (by decide)) rh0 (by decide) rfl wk_X11_refuse tw_603 rfl ⟨Nat.le_of_ble_eq_true rfl, Nat.le_of_ble_eq_true rfl⟩ ⟨rfl, rfl⟩ hl.1 rfl (Nat.le_of_ble_eq_true rfl) dX11_back_39 ⟨Nat.le_of_ble_eq_true rfl, Nat.le_of_ble_eq_true rfl⟩ (fun v1472222 f1472223 H locs q1472224 hW => ?_)
        obtain ⟨⟨x1472226, rfl, p1472227⟩, g1472225⟩ := q1472224
        have p1472227 : (-6 : Int) ≤ x1472226.toInt ∧ x1472226.toInt ≤ -1 := p1472227
        have hF := FM.tr hF g1472225 rfl
        exact e_I E hW rfl ⟨⟨_, rfl, trivial⟩, hF⟩ dX11_back_42
  · have q1472228 : (u1.toInt < 0 ∨ 1 < u1.toInt) := by omega
    clear p1472164
    refine lv_aload_n hx hb dX11_back_9 rfl (lv_at hl 0 rfl) ?_
    refine lv_iconst (v := (-1)) hx hb dX11_back_10 (by decide) ?_
    refine t_callV (As := [.int (-1)]) (rest := []) E hW (c_X11_refuse l G cI cJ cZ cD cR cT kp L f1472160 hW.2.2.2 _ h0 (-1) rh0 (by decide)) rh0 (by decide) rfl wk_X11_refuse tw_603 rfl ⟨Nat.le_of_ble_eq_true rfl, Nat.le_of_ble_eq_true rfl⟩ ⟨rfl, rfl⟩ hl.1 rfl (Nat.le_of_ble_eq_true rfl) dX11_back_11 ⟨Nat.le_of_ble_eq_true rfl, Nat.le_of_ble_eq_true rfl⟩ (fun v1472229 f1472230 H locs q1472231 hW => ?_)
    obtain ⟨⟨x1472233, rfl, p1472234⟩, g1472232⟩ := q1472231
    have p1472234 : (-6 : Int) ≤ x1472233.toInt ∧ x1472233.toInt ≤ -1 := p1472234
    have hF := FM.tr hF g1472232 rfl
    exact e_I E hW rfl ⟨⟨_, rfl, trivial⟩, hF⟩ dX11_back_14
def ms_X11_bitsOfRow : List (Nat × Nat) := []
def po_X11_bitsOfRow (kp : Nat → Nat) (L : List Nat) (f0 : Nat → va_E) (h0 : Nat) (u1 : Int32) : Option Value → (Nat → va_E) → Prop := fun v f => (∃ r : Int32, v = some (.int r) ∧ (True)) ∧ FM kp L ms_X11_bitsOfRow f0 f
set_option maxHeartbeats 4000000 in
set_option maxRecDepth 100000 in
theorem c_X11_bitsOfRow (l : Launch) (G : va_G) (cI cJ cZ cD cR cT : ClassId) (kp : Nat → Nat) (L : List Nat) (f0 : Nat → va_E) (hTH : TH cI cJ cZ cD cR cT kp L f0) (sz : Nat) (h0 : Nat) (u1 : Int32) (rh0 : RK kp L h0 11) (pu1 : (0 : Int) ≤ u1.toInt) : Met l yX11_bitsOfRow (Cond.code yX11_bitsOfRow cX11_bitsOfRow 4 (some .int) :: wTab) ({ frames := 1, cells := 0, slots := 0, locals := 40 }) (va_Pc [.ref h0, .int u1] (PreW G (tys6 cI cJ cZ cD cR cT) (va_pl L f0) sz)) (QT (po_X11_bitsOfRow kp L f0 h0 u1) G cI cJ cZ cD cR cT (va_A (va_pl L f0) sz) kp L) 0 0 (va_A (va_pl L f0) sz) := by
  refine metT (by decide) (Nat.le_of_ble_eq_true rfl) hTH ?_
  intro p e s m below meth c A ls E hW hl
  obtain ⟨hx, hb, -, hml, hown, hts, -, -, -⟩ := id E
  have hF : FM kp L ms_X11_bitsOfRow f0 f0 := FM.rf
  have hl : lv_has ls 4 [(0, .ref h0), (1, .int u1)] := hl
  refine lv_iconst (v := 0) hx hb dX11_bitsOfRow_0 (by decide) ?_
  refine lv_istore_n (lv' := [(2, .int 0), (0, .ref h0), (1, .int u1)]) hx hb dX11_bitsOfRow_1 rfl hl (by decide) rfl (fun ls hl => ?_)
  refine lv_iconst (v := 0) hx hb dX11_bitsOfRow_2 (by decide) ?_
  refine lv_istore_n (lv' := [(3, .int 0), (2, .int 0), (0, .ref h0), (1, .int u1)]) hx hb dX11_bitsOfRow_3 rfl hl (by decide) rfl (fun ls hl => ?_)
  have L1472386 : ∀ (n : Nat), ∀ (y1472383 : Int32) (y1472385 : Int32) (b1472384 : (0 : Int) ≤ y1472383.toInt ∧ y1472383.toInt ≤ 6) (hm : (7 : Int) - y1472383.toInt ≤ n) (H : Heap) (locs : List Loc) (ls : Array Slot), WS G cI cJ cZ cD cR cT A kp L f0 s H locs → FM kp L ms_X11_bitsOfRow f0 f0 → lv_has ls 4 [(3, .int y1472383), (2, .int y1472385), (0, .ref h0), (1, .int u1)] → W p l e ({ frames := 1, cells := 0, slots := 0, locals := 40 }) s m ([.ref h0, .int u1] : List Value).toArray below meth c H locs 0 0 (MQ below (QT (po_X11_bitsOfRow kp L f0 h0 u1) G cI cJ cZ cD cR cT A kp L) ([.ref h0, .int u1] : List Value).toArray s 0 0 A) (F0 m 4 ls []) := by
    intro n
    induction n with
    | zero =>
      intro y1472383 y1472385 b1472384 hm H locs ls hW hF hl
      have hz := i32_b y1472383
      exfalso; omega
    | succ n ih =>
      intro y1472383 y1472385 b1472384 hm H locs ls hW hF hl
      have ih4 := ih
      refine lv_iload_n hx hb dX11_bitsOfRow_4 rfl (lv_at hl 0 rfl) ?_
      refine lv_aload_n hx hb dX11_bitsOfRow_5 rfl (lv_at hl 2 rfl) ?_
      refine fg_RX11_309 E hW rh0 dX11_bitsOfRow_6 (fun y1472387 m1472388 b1472389 => ?_)
      refine q_icmp_ge (tgt := 35) hx hb dX11_bitsOfRow_9 (by decide) rfl rfl (fun c1472404 => ?_) (fun c1472404 => ?_)
      · refine lv_iload_n hx hb dX11_bitsOfRow_35 rfl (lv_at hl 1 rfl) ?_
        exact e_I E hW rfl ⟨⟨_, rfl, trivial⟩, hF⟩ dX11_bitsOfRow_36
      · refine lv_iload_n hx hb dX11_bitsOfRow_12 rfl (lv_at hl 1 rfl) ?_
        refine lv_iload_n hx hb dX11_bitsOfRow_13 rfl (lv_at hl 3 rfl) ?_
        refine lv_iload_n hx hb dX11_bitsOfRow_14 rfl (lv_at hl 0 rfl) ?_
        refine u_ishr hx hb dX11_bitsOfRow_15 (fun x1472405 => ?_)
        refine lv_iconst (v := 1) hx hb dX11_bitsOfRow_16 (by decide) ?_
        refine q_iand (M := 1) (k := 1) hx hb dX11_bitsOfRow_17 (by decide) (by decide) (by decide) (fun x1472406 h1472407 => ?_)
        refine lv_aload_n hx hb dX11_bitsOfRow_18 rfl (lv_at hl 2 rfl) ?_
        refine fg_RX11_309 E hW rh0 dX11_bitsOfRow_19 (fun y1472408 m1472409 b1472410 => ?_)
        obtain rfl : y1472387 = y1472408 := (m1472388).symm.trans m1472409
        refine lv_iconst (v := 1) hx hb dX11_bitsOfRow_22 (by decide) ?_
        refine q_isub (Y := 1) hx hb dX11_bitsOfRow_23 rfl rfl (by omega) (fun x1472411 h1472412 => ?_)
        refine lv_iload_n hx hb dX11_bitsOfRow_24 rfl (lv_at hl 0 rfl) ?_
        refine q_isub hx hb dX11_bitsOfRow_25 rfl rfl (by omega) (fun x1472413 h1472414 => ?_)
        refine u_ishl hx hb dX11_bitsOfRow_26 (fun x1472415 => ?_)
        refine u_ior hx hb dX11_bitsOfRow_27 (fun x1472416 => ?_)
        refine lv_istore_n (lv' := [(2, .int x1472416), (3, .int y1472383), (0, .ref h0), (1, .int u1)]) hx hb dX11_bitsOfRow_28 rfl hl (by decide) rfl (fun ls hl => ?_)
        refine q_iinc hx hb dX11_bitsOfRow_29 hl (k := 1) rfl rfl rfl (by omega) (by decide) (fun i1472417 ls h1472418 hl => ?_)
        have hl : lv_has ls 4 [(3, .int i1472417), (2, .int x1472416), (0, .ref h0), (1, .int u1)] := hl
        refine lv_goto (tgt := 4) hx hb dX11_bitsOfRow_32 (by decide) ?_
        exact ih4 i1472417 x1472416 (by omega) (by omega) _ _ _ hW hF (lv_sub hl [0, 1, 2, 3] rfl)
  have hk1472419 : (0 : Int32).toInt = 0 := rfl
  have hk1472420 : (0 : Int32).toInt = 0 := rfl
  exact L1472386 7 0 0 (by decide) (by omega) _ _ _ hW hF (lv_sub hl [0, 1, 2, 3] rfl)
def ms_X11_brave : List (Nat × Nat) := [(3, 1), (11, 15)]
def po_X11_brave (kp : Nat → Nat) (L : List Nat) (f0 : Nat → va_E) (h0 : Nat) (u1 : Int32) : Option Value → (Nat → va_E) → Prop := fun v f => (∃ r : Int32, v = some (.int r) ∧ (True)) ∧ FM kp L ms_X11_brave f0 f
set_option maxHeartbeats 4000000 in
set_option maxRecDepth 100000 in
theorem c_X11_brave (l : Launch) (G : va_G) (cI cJ cZ cD cR cT : ClassId) (kp : Nat → Nat) (L : List Nat) (f0 : Nat → va_E) (hTH : TH cI cJ cZ cD cR cT kp L f0) (sz : Nat) (h0 : Nat) (u1 : Int32) (rh0 : RK kp L h0 11) : Met l yX11_brave (Cond.code yX11_brave cX11_brave 3 (some .int) :: wTab) ({ frames := 2, cells := 0, slots := 0, locals := 62 }) (va_Pc [.ref h0, .int u1] (PreW G (tys6 cI cJ cZ cD cR cT) (va_pl L f0) sz)) (QT (po_X11_brave kp L f0 h0 u1) G cI cJ cZ cD cR cT (va_A (va_pl L f0) sz) kp L) 0 0 (va_A (va_pl L f0) sz) := by
  refine metT (by decide) (Nat.le_of_ble_eq_true rfl) hTH ?_
  intro p e s m below meth c A ls E hW hl
  obtain ⟨hx, hb, -, hml, hown, hts, -, -, -⟩ := id E
  have hF : FM kp L ms_X11_brave f0 f0 := FM.rf
  have hl : lv_has ls 3 [(0, .ref h0), (1, .int u1)] := hl
  refine lv_iload_n hx hb dX11_brave_0 rfl (lv_at hl 1 rfl) ?_
  refine lv_iconst (v := 0) hx hb dX11_brave_1 (by decide) ?_
  refine lv_bipush (v := 101) hx hb dX11_brave_2 (by decide) ?_
  refine t_callS (As := [.int u1, .int 0, .int 101]) (rest := []) E hW (c_X11_within l G cI cJ cZ cD cR cT kp L f0 hW.2.2.2 _ u1 0 101 (by decide)) wk_X11_within tw_599 rfl ⟨Nat.le_of_ble_eq_true rfl, Nat.le_of_ble_eq_true rfl⟩ ⟨rfl, rfl⟩ hl.1 rfl (Nat.le_of_ble_eq_true rfl) dX11_brave_4 ⟨Nat.le_of_ble_eq_true rfl, Nat.le_of_ble_eq_true rfl⟩ (fun v1472421 f1472422 H locs q1472423 hW => ?_)
  obtain ⟨⟨x1472425, rfl, p1472426⟩, g1472424⟩ := q1472423
  have p1472426 : (x1472425.toInt = 1 ∧ 0 ≤ u1.toInt ∧ u1.toInt ≤ 101) ∨ (x1472425.toInt = 0 ∧ (u1.toInt < 0 ∨ 101 < u1.toInt)) := p1472426
  have hF := FM.tr hF g1472424 rfl
  refine q_if_ne (tgt := 16) hx hb dX11_brave_7 (by decide) rfl (fun c1472427 => ?_) (fun c1472427 => ?_)
  · have q1472428 : 0 ≤ u1.toInt ∧ u1.toInt ≤ 101 := by omega
    clear p1472426
    refine lv_aload_n hx hb dX11_brave_16 rfl (lv_at hl 0 rfl) ?_
    refine fg_RX11_12 E hW rh0 dX11_brave_17 (fun a1472429 m1472430 r1472431 => ?_)
    refine fg_RX11_98 E hW r1472431 dX11_brave_20 (fun a1472432 m1472433 r1472434 => ?_)
    refine fg_RX11_282 E hW r1472434 dX11_brave_23 (fun y1472435 m1472436 => ?_)
    refine lv_istore_n (lv' := [(2, .int y1472435), (0, .ref h0), (1, .int u1)]) hx hb dX11_brave_26 rfl hl (by decide) rfl (fun ls hl => ?_)
    refine lv_aload_n hx hb dX11_brave_27 rfl (lv_at hl 1 rfl) ?_
    refine fg_RX11_12 E hW rh0 dX11_brave_28 (fun a1472438 m1472439 r1472440 => ?_)
    obtain rfl : a1472429 = a1472438 := (m1472430).symm.trans m1472439
    refine fg_RX11_98 E hW r1472431 dX11_brave_31 (fun a1472441 m1472442 r1472443 => ?_)
    obtain rfl : a1472432 = a1472441 := (m1472433).symm.trans m1472442
    refine lv_iload_n hx hb dX11_brave_34 rfl (lv_at hl 2 rfl) ?_
    refine fp_RX11_282 E hW r1472434 dX11_brave_35 (fun f1472444 H locs e1472445 n1472446 g1472447 hW => ?_)
    have hF := FM.tr hF g1472447 rfl
    refine lv_aload_n hx hb dX11_brave_38 rfl (lv_at hl 1 rfl) ?_
    refine lv_iload_n hx hb dX11_brave_39 rfl (lv_at hl 0 rfl) ?_
    refine t_callV (As := [.int y1472435]) (rest := []) E hW (c_X11_accept l G cI cJ cZ cD cR cT kp L f1472444 hW.2.2.2 _ h0 y1472435 rh0) rh0 (by decide) rfl wk_X11_accept tw_611 rfl ⟨Nat.le_of_ble_eq_true rfl, Nat.le_of_ble_eq_true rfl⟩ ⟨rfl, rfl⟩ hl.1 rfl (Nat.le_of_ble_eq_true rfl) dX11_brave_40 ⟨Nat.le_of_ble_eq_true rfl, Nat.le_of_ble_eq_true rfl⟩ (fun v1472448 f1472449 H locs q1472450 hW => ?_)
    obtain ⟨⟨x1472452, rfl, p1472453⟩, g1472451⟩ := q1472450
    clear p1472453
    have hF := FM.tr hF g1472451 rfl
    exact e_I E hW rfl ⟨⟨_, rfl, trivial⟩, hF⟩ dX11_brave_43
  · have q1472454 : (u1.toInt < 0 ∨ 101 < u1.toInt) := by omega
    clear p1472426
    refine lv_aload_n hx hb dX11_brave_10 rfl (lv_at hl 0 rfl) ?_
    refine lv_iconst (v := (-1)) hx hb dX11_brave_11 (by decide) ?_
    refine t_callV (As := [.int (-1)]) (rest := []) E hW (c_X11_refuse l G cI cJ cZ cD cR cT kp L f1472422 hW.2.2.2 _ h0 (-1) rh0 (by decide)) rh0 (by decide) rfl wk_X11_refuse tw_603 rfl ⟨Nat.le_of_ble_eq_true rfl, Nat.le_of_ble_eq_true rfl⟩ ⟨rfl, rfl⟩ hl.1 rfl (Nat.le_of_ble_eq_true rfl) dX11_brave_12 ⟨Nat.le_of_ble_eq_true rfl, Nat.le_of_ble_eq_true rfl⟩ (fun v1472455 f1472456 H locs q1472457 hW => ?_)
    obtain ⟨⟨x1472459, rfl, p1472460⟩, g1472458⟩ := q1472457
    have p1472460 : (-6 : Int) ≤ x1472459.toInt ∧ x1472459.toInt ≤ -1 := p1472460
    have hF := FM.tr hF g1472458 rfl
    exact e_I E hW rfl ⟨⟨_, rfl, trivial⟩, hF⟩ dX11_brave_15
def ms_X11_broke : List (Nat × Nat) := []
def po_X11_broke (kp : Nat → Nat) (L : List Nat) (f0 : Nat → va_E) (h0 : Nat) (u1 : Int32) (u2 : Int32) (u3 : Int32) (u4 : Int32) : Option Value → (Nat → va_E) → Prop := fun v f => (∃ r : Int32, v = some (.int r) ∧ (True)) ∧ FM kp L ms_X11_broke f0 f
set_option maxHeartbeats 4000000 in
set_option maxRecDepth 100000 in
theorem c_X11_broke (l : Launch) (G : va_G) (cI cJ cZ cD cR cT : ClassId) (kp : Nat → Nat) (L : List Nat) (f0 : Nat → va_E) (hTH : TH cI cJ cZ cD cR cT kp L f0) (sz : Nat) (h0 : Nat) (u1 : Int32) (u2 : Int32) (u3 : Int32) (u4 : Int32) (rh0 : RK kp L h0 11) : Met l yX11_broke (Cond.code yX11_broke cX11_broke 10 (some .int) :: wTab) ({ frames := 4, cells := 0, slots := 0, locals := 110 }) (va_Pc [.ref h0, .int u1, .int u2, .int u3, .int u4] (PreW G (tys6 cI cJ cZ cD cR cT) (va_pl L f0) sz)) (QT (po_X11_broke kp L f0 h0 u1 u2 u3 u4) G cI cJ cZ cD cR cT (va_A (va_pl L f0) sz) kp L) 0 0 (va_A (va_pl L f0) sz) := by
  refine metT (by decide) (Nat.le_of_ble_eq_true rfl) hTH ?_
  intro p e s m below meth c A ls E hW hl
  obtain ⟨hx, hb, -, hml, hown, hts, -, -, -⟩ := id E
  have hF : FM kp L ms_X11_broke f0 f0 := FM.rf
  have hl : lv_has ls 10 [(0, .ref h0), (1, .int u1), (2, .int u2), (3, .int u3), (4, .int u4)] := hl
  refine lv_aload_n hx hb dX11_broke_0 rfl (lv_at hl 0 rfl) ?_
  refine fg_RX11_12 E hW rh0 dX11_broke_1 (fun a1472461 m1472462 r1472463 => ?_)
  refine fg_RX11_63 E hW r1472463 dX11_broke_4 (fun a1472464 m1472465 r1472466 => ?_)
  refine lv_astore (lv' := [(5, .ref a1472464), (0, .ref h0), (1, .int u1), (2, .int u2), (3, .int u3), (4, .int u4)]) hx hb dX11_broke_7 hl (by decide) rfl (fun ls hl => ?_)
  refine lv_aload hx hb dX11_broke_9 (lv_at hl 0 rfl) ?_
  refine lv_iload_n hx hb dX11_broke_11 rfl (lv_at hl 2 rfl) ?_
  refine t_callV (As := [.int u1]) (rest := []) E hW (c_X4_has l G cI cJ cZ cD cR cT kp L f0 hW.2.2.2 _ a1472464 u1 r1472466) r1472466 (by decide) rfl wk_X4_has tw_619 rfl ⟨Nat.le_of_ble_eq_true rfl, Nat.le_of_ble_eq_true rfl⟩ ⟨rfl, rfl⟩ hl.1 rfl (Nat.le_of_ble_eq_true rfl) dX11_broke_12 ⟨Nat.le_of_ble_eq_true rfl, Nat.le_of_ble_eq_true rfl⟩ (fun v1472467 f1472468 H locs q1472469 hW => ?_)
  obtain ⟨⟨x1472471, rfl, p1472472⟩, g1472470⟩ := q1472469
  have hF := FM.tr hF g1472470 rfl
  refine q_if_eq (tgt := 48) hx hb dX11_broke_15 (by decide) rfl (fun c1472473 => ?_) (fun c1472473 => ?_)
  · clear p1472472
    refine lv_iconst (v := (-1)) hx hb dX11_broke_48 (by decide) ?_
    exact e_I E hW rfl ⟨⟨_, rfl, trivial⟩, hF⟩ dX11_broke_49
  · have q1472474 : 0 ≤ u1.toInt ∧ u1.toInt ≤ 39 := by omega
    clear p1472472
    refine lv_aload hx hb dX11_broke_18 (lv_at hl 0 rfl) ?_
    refine fg_RX11_141 E hW r1472466 dX11_broke_20 (fun a1472475 m1472476 r1472477 => ?_)
    refine lv_iload_n hx hb dX11_broke_23 rfl (lv_at hl 2 rfl) ?_
    refine gl_348 E hW r1472477 ⟨by omega, by omega⟩ dX11_broke_24 (fun y1472478 m1472479 => ?_)
    refine q_if_eq (tgt := 48) hx hb dX11_broke_25 (by decide) rfl (fun c1472481 => ?_) (fun c1472481 => ?_)
    · refine lv_iconst (v := (-1)) hx hb dX11_broke_48 (by decide) ?_
      exact e_I E hW rfl ⟨⟨_, rfl, trivial⟩, hF⟩ dX11_broke_49
    · refine lv_iload_n hx hb dX11_broke_28 rfl (lv_at hl 3 rfl) ?_
      refine lv_iconst (v := 1) hx hb dX11_broke_29 (by decide) ?_
      refine lv_sipush (v := 10000) hx hb dX11_broke_30 (by decide) ?_
      refine t_callS (As := [.int u2, .int 1, .int 10000]) (rest := []) E hW (c_X11_within l G cI cJ cZ cD cR cT kp L f1472468 hW.2.2.2 _ u2 1 10000 (by decide)) wk_X11_within tw_599 rfl ⟨Nat.le_of_ble_eq_true rfl, Nat.le_of_ble_eq_true rfl⟩ ⟨rfl, rfl⟩ hl.1 rfl (Nat.le_of_ble_eq_true rfl) dX11_broke_33 ⟨Nat.le_of_ble_eq_true rfl, Nat.le_of_ble_eq_true rfl⟩ (fun v1472482 f1472483 H locs q1472484 hW => ?_)
      obtain ⟨⟨x1472486, rfl, p1472487⟩, g1472485⟩ := q1472484
      have p1472487 : (x1472486.toInt = 1 ∧ 1 ≤ u2.toInt ∧ u2.toInt ≤ 10000) ∨ (x1472486.toInt = 0 ∧ (u2.toInt < 1 ∨ 10000 < u2.toInt)) := p1472487
      have hF := FM.tr hF g1472485 rfl
      refine q_if_eq (tgt := 48) hx hb dX11_broke_36 (by decide) rfl (fun c1472488 => ?_) (fun c1472488 => ?_)
      · have q1472489 : (u2.toInt < 1 ∨ 10000 < u2.toInt) := by omega
        clear p1472487
        refine lv_iconst (v := (-1)) hx hb dX11_broke_48 (by decide) ?_
        exact e_I E hW rfl ⟨⟨_, rfl, trivial⟩, hF⟩ dX11_broke_49
      · have q1472490 : 1 ≤ u2.toInt ∧ u2.toInt ≤ 10000 := by omega
        clear p1472487
        refine lv_iload_n hx hb dX11_broke_39 rfl (lv_at hl 4 rfl) ?_
        refine lv_iconst (v := 0) hx hb dX11_broke_40 (by decide) ?_
        refine lv_iconst (v := 2) hx hb dX11_broke_41 (by decide) ?_
        refine t_callS (As := [.int u3, .int 0, .int 2]) (rest := []) E hW (c_X11_within l G cI cJ cZ cD cR cT kp L f1472483 hW.2.2.2 _ u3 0 2 (by decide)) wk_X11_within tw_599 rfl ⟨Nat.le_of_ble_eq_true rfl, Nat.le_of_ble_eq_true rfl⟩ ⟨rfl, rfl⟩ hl.1 rfl (Nat.le_of_ble_eq_true rfl) dX11_broke_42 ⟨Nat.le_of_ble_eq_true rfl, Nat.le_of_ble_eq_true rfl⟩ (fun v1472491 f1472492 H locs q1472493 hW => ?_)
        obtain ⟨⟨x1472495, rfl, p1472496⟩, g1472494⟩ := q1472493
        have p1472496 : (x1472495.toInt = 1 ∧ 0 ≤ u3.toInt ∧ u3.toInt ≤ 2) ∨ (x1472495.toInt = 0 ∧ (u3.toInt < 0 ∨ 2 < u3.toInt)) := p1472496
        have hF := FM.tr hF g1472494 rfl
        refine q_if_ne (tgt := 50) hx hb dX11_broke_45 (by decide) rfl (fun c1472497 => ?_) (fun c1472497 => ?_)
        · have q1472498 : 0 ≤ u3.toInt ∧ u3.toInt ≤ 2 := by omega
          clear p1472496
          refine lv_iconst (v := 0) hx hb dX11_broke_50 (by decide) ?_
          refine lv_istore (lv' := [(6, .int 0), (5, .ref a1472464), (0, .ref h0), (1, .int u1), (2, .int u2), (3, .int u3), (4, .int u4)]) hx hb dX11_broke_51 hl (by decide) rfl (fun ls hl => ?_)
          refine lv_iconst (v := (-1)) hx hb dX11_broke_53 (by decide) ?_
          refine lv_istore (lv' := [(7, .int (-1)), (6, .int 0), (5, .ref a1472464), (0, .ref h0), (1, .int u1), (2, .int u2), (3, .int u3), (4, .int u4)]) hx hb dX11_broke_54 hl (by decide) rfl (fun ls hl => ?_)
          refine lv_iload_n hx hb dX11_broke_56 rfl (lv_at hl 6 rfl) ?_
          refine lv_iconst (v := 2) hx hb dX11_broke_57 (by decide) ?_
          have J1472500 : ∀ (y1472499 : Int32) (H : Heap) (locs : List Loc) (ls : Array Slot), WS G cI cJ cZ cD cR cT A kp L f1472492 s H locs → FM kp L ms_X11_broke f0 f1472492 → lv_has ls 10 [(7, .int (-1)), (6, .int 0), (5, .ref a1472464), (0, .ref h0), (1, .int u1), (2, .int u2), (3, .int u3), (4, .int u4)] → W p l e ({ frames := 4, cells := 0, slots := 0, locals := 110 }) s m ([.ref h0, .int u1, .int u2, .int u3, .int u4] : List Value).toArray below meth c H locs 0 0 (MQ below (QT (po_X11_broke kp L f0 h0 u1 u2 u3 u4) G cI cJ cZ cD cR cT A kp L) ([.ref h0, .int u1, .int u2, .int u3, .int u4] : List Value).toArray s 0 0 A) (F0 m 67 ls [.int y1472499]) := by
            intro y1472499 H locs ls hW hF hl
            clear c1472473 c1472488 c1472497
            refine lv_istore (lv' := [(8, .int y1472499), (7, .int (-1)), (6, .int 0), (5, .ref a1472464), (0, .ref h0), (1, .int u1), (2, .int u2), (3, .int u3), (4, .int u4)]) hx hb dX11_broke_67 hl (by decide) rfl (fun ls hl => ?_)
            refine lv_iconst (v := 0) hx hb dX11_broke_69 (by decide) ?_
            refine lv_istore (lv' := [(9, .int 0), (8, .int y1472499), (7, .int (-1)), (6, .int 0), (5, .ref a1472464), (0, .ref h0), (1, .int u1), (2, .int u2), (3, .int u3), (4, .int u4)]) hx hb dX11_broke_70 hl (by decide) rfl (fun ls hl => ?_)
            have L1475635 : ∀ (n : Nat), ∀ (f1475626 : Nat → va_E) (y1475630 : Int32) (y1475632 : Int32) (y1475634 : Int32) (m1475627 : oR (f1475626 a1472461) 0 = a1472464) (m1475628 : oR (f1475626 a1472464) 8 = a1472475) (m1475629 : oR (f1475626 h0) 0 = a1472461) (b1475631 : (0 : Int) ≤ y1475630.toInt ∧ y1475630.toInt ≤ 40) (b1475633 : (-1 : Int) ≤ y1475632.toInt ∧ y1475632.toInt ≤ 39) (hm : (41 : Int) - y1475630.toInt ≤ n) (H : Heap) (locs : List Loc) (ls : Array Slot), WS G cI cJ cZ cD cR cT A kp L f1475626 s H locs → FM kp L ms_X11_broke f0 f1475626 → lv_has ls 10 [(9, .int y1475630), (8, .int y1472499), (7, .int y1475632), (6, .int y1475634), (5, .ref a1472464), (0, .ref h0), (1, .int u1), (2, .int u2), (3, .int u3), (4, .int u4)] → W p l e ({ frames := 4, cells := 0, slots := 0, locals := 110 }) s m ([.ref h0, .int u1, .int u2, .int u3, .int u4] : List Value).toArray below meth c H locs 0 0 (MQ below (QT (po_X11_broke kp L f0 h0 u1 u2 u3 u4) G cI cJ cZ cD cR cT A kp L) ([.ref h0, .int u1, .int u2, .int u3, .int u4] : List Value).toArray s 0 0 A) (F0 m 72 ls []) := by
              intro n
              induction n with
              | zero =>
                intro f1475626 y1475630 y1475632 y1475634 m1475627 m1475628 m1475629 b1475631 b1475633 hm H locs ls hW hF hl
                have hz := i32_b y1475630
                exfalso; omega
              | succ n ih =>
                intro f1475626 y1475630 y1475632 y1475634 m1475627 m1475628 m1475629 b1475631 b1475633 hm H locs ls hW hF hl
                clear c1472481
                have ih72 := ih
                refine lv_iload hx hb dX11_broke_72 (lv_at hl 0 rfl) ?_
                refine lv_aload hx hb dX11_broke_74 (lv_at hl 4 rfl) ?_
                refine fg_RX11_67 E hW r1472466 dX11_broke_76 (fun y1475636 m1475637 b1475638 => ?_)
                refine q_icmp_ge (tgt := 129) hx hb dX11_broke_79 (by decide) rfl rfl (fun c1475671 => ?_) (fun c1475671 => ?_)
                · refine lv_iload_n hx hb dX11_broke_129 rfl (lv_at hl 8 rfl) ?_
                  refine lv_iconst (v := 1) hx hb dX11_broke_130 (by decide) ?_
                  refine q_icmp_ne (Y := 1) (tgt := 137) hx hb dX11_broke_131 (by decide) rfl rfl (fun c1475672 => ?_) (fun c1475672 => ?_)
                  · refine lv_iload_n hx hb dX11_broke_137 rfl (lv_at hl 8 rfl) ?_
                    have J1475676 : ∀ (y1475674 : Int32) (b1475675 : (-1 : Int) ≤ y1475674.toInt ∧ y1475674.toInt ≤ 39) (H : Heap) (locs : List Loc) (ls : Array Slot), WS G cI cJ cZ cD cR cT A kp L f1475626 s H locs → FM kp L ms_X11_broke f0 f1475626 → lv_has ls 10 [(9, .int y1475630), (8, .int y1472499), (7, .int y1475632), (6, .int y1475634), (5, .ref a1472464), (0, .ref h0), (1, .int u1), (2, .int u2), (3, .int u3), (4, .int u4)] → W p l e ({ frames := 4, cells := 0, slots := 0, locals := 110 }) s m ([.ref h0, .int u1, .int u2, .int u3, .int u4] : List Value).toArray below meth c H locs 0 0 (MQ below (QT (po_X11_broke kp L f0 h0 u1 u2 u3 u4) G cI cJ cZ cD cR cT A kp L) ([.ref h0, .int u1, .int u2, .int u3, .int u4] : List Value).toArray s 0 0 A) (F0 m 153 ls [.int y1475674]) := by
                      intro y1475674 b1475675 H locs ls hW hF hl
                      exact e_I E hW rfl ⟨⟨_, rfl, trivial⟩, hF⟩ dX11_broke_153
                    refine q_if_ne (tgt := 151) hx hb dX11_broke_138 (by decide) rfl (fun c1475677 => ?_) (fun c1475677 => ?_)
                    · refine lv_iload hx hb dX11_broke_151 (lv_at hl 2 rfl) ?_
                      exact J1475676 y1475632 (by omega) _ _ _ hW hF (lv_sub hl [0, 1, 2, 3, 4, 5, 6, 7, 8, 9] rfl)
                    · refine lv_iload hx hb dX11_broke_141 (lv_at hl 3 rfl) ?_
                      refine lv_iconst (v := 1) hx hb dX11_broke_143 (by decide) ?_
                      refine q_icmp_eq (Y := 1) (tgt := 151) hx hb dX11_broke_144 (by decide) rfl rfl (fun c1475678 => ?_) (fun c1475678 => ?_)
                      · refine lv_iload hx hb dX11_broke_151 (lv_at hl 2 rfl) ?_
                        exact J1475676 y1475632 (by omega) _ _ _ hW hF (lv_sub hl [0, 1, 2, 3, 4, 5, 6, 7, 8, 9] rfl)
                      · refine lv_iconst (v := (-1)) hx hb dX11_broke_147 (by decide) ?_
                        refine lv_goto (tgt := 153) hx hb dX11_broke_148 (by decide) ?_
                        exact J1475676 (-1) (by decide) _ _ _ hW hF (lv_sub hl [0, 1, 2, 3, 4, 5, 6, 7, 8, 9] rfl)
                  · refine lv_iload hx hb dX11_broke_134 (lv_at hl 3 rfl) ?_
                    exact e_I E hW rfl ⟨⟨_, rfl, trivial⟩, hF⟩ dX11_broke_136
                · refine lv_aload hx hb dX11_broke_82 (lv_at hl 4 rfl) ?_
                  refine lv_iload hx hb dX11_broke_84 (lv_at hl 0 rfl) ?_
                  refine lv_iload_n hx hb dX11_broke_86 rfl (lv_at hl 6 rfl) ?_
                  refine lv_iload_n hx hb dX11_broke_87 rfl (lv_at hl 7 rfl) ?_
                  refine lv_aload_n hx hb dX11_broke_88 rfl (lv_at hl 5 rfl) ?_
                  refine fg_RX11_12 E hW rh0 dX11_broke_89 (fun a1475679 m1475680 r1475681 => ?_)
                  obtain rfl : a1472461 = a1475679 := (m1475629).symm.trans m1475680
                  refine fg_RX11_98 E hW r1472463 dX11_broke_92 (fun a1475682 m1475683 r1475684 => ?_)
                  refine fg_RX11_282 E hW r1475684 dX11_broke_95 (fun y1475685 m1475686 => ?_)
                  refine t_callV (As := [.int y1475630, .int u1, .int u2, .int y1475685]) (rest := []) E hW (c_X4_maySell l G cI cJ cZ cD cR cT kp L f1475626 hW.2.2.2 _ a1472464 y1475630 u1 u2 y1475685 r1472466 (by omega) (by omega) (by omega)) r1472466 (by decide) rfl wk_X4_maySell tw_1201 rfl ⟨Nat.le_of_ble_eq_true rfl, Nat.le_of_ble_eq_true rfl⟩ ⟨rfl, rfl⟩ hl.1 rfl (Nat.le_of_ble_eq_true rfl) dX11_broke_98 ⟨Nat.le_of_ble_eq_true rfl, Nat.le_of_ble_eq_true rfl⟩ (fun v1475688 f1475689 H locs q1475690 hW => ?_)
                  obtain ⟨⟨x1475692, rfl, p1475693⟩, g1475691⟩ := q1475690
                  have hF := FM.tr hF g1475691 rfl
                  have J1475702 : ∀ (y1475699 : Int32) (y1475701 : Int32) (b1475700 : (-1 : Int) ≤ y1475699.toInt ∧ y1475699.toInt ≤ 39) (H : Heap) (locs : List Loc) (ls : Array Slot), WS G cI cJ cZ cD cR cT A kp L f1475689 s H locs → FM kp L ms_X11_broke f0 f1475689 → lv_has ls 10 [(9, .int y1475630), (8, .int y1472499), (7, .int y1475699), (6, .int y1475701), (5, .ref a1472464), (0, .ref h0), (1, .int u1), (2, .int u2), (3, .int u3), (4, .int u4)] → W p l e ({ frames := 4, cells := 0, slots := 0, locals := 110 }) s m ([.ref h0, .int u1, .int u2, .int u3, .int u4] : List Value).toArray below meth c H locs 0 0 (MQ below (QT (po_X11_broke kp L f0 h0 u1 u2 u3 u4) G cI cJ cZ cD cR cT A kp L) ([.ref h0, .int u1, .int u2, .int u3, .int u4] : List Value).toArray s 0 0 A) (F0 m 123 ls []) := by
                    intro y1475699 y1475701 b1475700 H locs ls hW hF hl
                    clear b1475633 p1475693
                    refine q_iinc hx hb dX11_broke_123 hl (k := 0) rfl rfl rfl (by omega) (by decide) (fun i1475703 ls h1475704 hl => ?_)
                    have hl : lv_has ls 10 [(9, .int i1475703), (8, .int y1472499), (7, .int y1475699), (6, .int y1475701), (5, .ref a1472464), (0, .ref h0), (1, .int u1), (2, .int u2), (3, .int u3), (4, .int u4)] := hl
                    refine lv_goto (tgt := 72) hx hb dX11_broke_126 (by decide) ?_
                    exact ih72 f1475689 i1475703 y1475699 y1475701 ((fm_R g1475691 r1472463 rfl).trans m1475627) ((fm_R g1475691 r1472466 rfl).trans m1475628) ((fm_R g1475691 rh0 rfl).trans m1475680) (by omega) (by omega) (by omega) _ _ _ hW hF (lv_sub hl [0, 1, 2, 3, 4, 5, 6, 7, 8, 9] rfl)
                  refine q_if_eq (tgt := 123) hx hb dX11_broke_101 (by decide) rfl (fun c1475705 => ?_) (fun c1475705 => ?_)
                  · exact J1475702 y1475632 y1475634 (by omega) _ _ _ hW hF (lv_sub hl [0, 1, 2, 3, 4, 5, 6, 7, 8, 9] rfl)
                  · refine lv_iload hx hb dX11_broke_104 (lv_at hl 3 rfl) ?_
                    refine lv_iload hx hb dX11_broke_106 (lv_at hl 1 rfl) ?_
                    have J1475708 : ∀ (y1475706 : Int32) (b1475707 : (-1 : Int) ≤ y1475706.toInt ∧ y1475706.toInt ≤ 39) (H : Heap) (locs : List Loc) (ls : Array Slot), WS G cI cJ cZ cD cR cT A kp L f1475689 s H locs → FM kp L ms_X11_broke f0 f1475689 → lv_has ls 10 [(9, .int y1475630), (8, .int y1472499), (7, .int y1475632), (6, .int y1475634), (5, .ref a1472464), (0, .ref h0), (1, .int u1), (2, .int u2), (3, .int u3), (4, .int u4)] → W p l e ({ frames := 4, cells := 0, slots := 0, locals := 110 }) s m ([.ref h0, .int u1, .int u2, .int u3, .int u4] : List Value).toArray below meth c H locs 0 0 (MQ below (QT (po_X11_broke kp L f0 h0 u1 u2 u3 u4) G cI cJ cZ cD cR cT A kp L) ([.ref h0, .int u1, .int u2, .int u3, .int u4] : List Value).toArray s 0 0 A) (F0 m 118 ls [.int y1475706]) := by
                      intro y1475706 b1475707 H locs ls hW hF hl
                      clear p1475693 c1475705
                      refine lv_istore (lv' := [(7, .int y1475706), (9, .int y1475630), (8, .int y1472499), (6, .int y1475634), (5, .ref a1472464), (0, .ref h0), (1, .int u1), (2, .int u2), (3, .int u3), (4, .int u4)]) hx hb dX11_broke_118 hl (by decide) rfl (fun ls hl => ?_)
                      refine u_iinc hx hb dX11_broke_120 hl (k := 3) rfl (by decide) (fun i1475709 ls hl => ?_)
                      have hl : lv_has ls 10 [(6, .int i1475709), (7, .int y1475706), (9, .int y1475630), (8, .int y1472499), (5, .ref a1472464), (0, .ref h0), (1, .int u1), (2, .int u2), (3, .int u3), (4, .int u4)] := hl
                      exact J1475702 y1475706 i1475709 (by omega) _ _ _ hW hF (lv_sub hl [2, 3, 1, 0, 4, 5, 6, 7, 8, 9] rfl)
                    refine q_icmp_ne (tgt := 116) hx hb dX11_broke_108 (by decide) rfl rfl (fun c1475710 => ?_) (fun c1475710 => ?_)
                    · refine lv_iload hx hb dX11_broke_116 (lv_at hl 2 rfl) ?_
                      exact J1475708 y1475632 (by omega) _ _ _ hW hF (lv_sub hl [0, 1, 2, 3, 4, 5, 6, 7, 8, 9] rfl)
                    · refine lv_iload hx hb dX11_broke_111 (lv_at hl 0 rfl) ?_
                      refine lv_goto (tgt := 118) hx hb dX11_broke_113 (by decide) ?_
                      exact J1475708 y1475630 (by omega) _ _ _ hW hF (lv_sub hl [0, 1, 2, 3, 4, 5, 6, 7, 8, 9] rfl)
            have hk1475711 : (0 : Int32).toInt = 0 := rfl
            have hk1475712 : ((-1) : Int32).toInt = -1 := rfl
            have hk1475713 : (0 : Int32).toInt = 0 := rfl
            exact L1475635 41 f1472492 0 (-1) 0 ((fm_R g1472494 r1472463 rfl).trans ((fm_R g1472485 r1472463 rfl).trans ((fm_R g1472470 r1472463 rfl).trans m1472465))) ((fm_R g1472494 r1472466 rfl).trans ((fm_R g1472485 r1472466 rfl).trans m1472476)) ((fm_R g1472494 rh0 rfl).trans ((fm_R g1472485 rh0 rfl).trans ((fm_R g1472470 rh0 rfl).trans m1472462))) (by decide) (by decide) (by omega) _ _ _ hW hF (lv_sub hl [0, 1, 2, 3, 4, 5, 6, 7, 8, 9] rfl)
          refine q_icmp_ne (Y := 2) (tgt := 66) hx hb dX11_broke_58 (by decide) rfl rfl (fun c1475714 => ?_) (fun c1475714 => ?_)
          · refine lv_iconst (v := 0) hx hb dX11_broke_66 (by decide) ?_
            exact J1472500 0  _ _ _ hW hF (lv_sub hl [0, 1, 2, 3, 4, 5, 6, 7] rfl)
          · refine lv_iload hx hb dX11_broke_61 (lv_at hl 7 rfl) ?_
            refine lv_goto (tgt := 67) hx hb dX11_broke_63 (by decide) ?_
            exact J1472500 u4  _ _ _ hW hF (lv_sub hl [0, 1, 2, 3, 4, 5, 6, 7] rfl)
        · have q1475715 : (u3.toInt < 0 ∨ 2 < u3.toInt) := by omega
          clear p1472496
          refine lv_iconst (v := (-1)) hx hb dX11_broke_48 (by decide) ?_
          exact e_I E hW rfl ⟨⟨_, rfl, trivial⟩, hF⟩ dX11_broke_49
def ms_X11_canGo : List (Nat × Nat) := []
def po_X11_canGo (kp : Nat → Nat) (L : List Nat) (f0 : Nat → va_E) (h0 : Nat) (u1 : Int32) : Option Value → (Nat → va_E) → Prop := fun v f => (∃ r : Int32, v = some (.int r) ∧ ((r.toInt = 1 ∧ 1 ≤ u1.toInt ∧ u1.toInt ≤ 104) ∨ r.toInt = 0)) ∧ FM kp L ms_X11_canGo f0 f
set_option maxHeartbeats 4000000 in
set_option maxRecDepth 100000 in
theorem c_X11_canGo (l : Launch) (G : va_G) (cI cJ cZ cD cR cT : ClassId) (kp : Nat → Nat) (L : List Nat) (f0 : Nat → va_E) (hTH : TH cI cJ cZ cD cR cT kp L f0) (sz : Nat) (h0 : Nat) (u1 : Int32) (rh0 : RK kp L h0 11) : Met l yX11_canGo (Cond.code yX11_canGo cX11_canGo 2 (some .boolean) :: wTab) ({ frames := 2, cells := 0, slots := 0, locals := 62 }) (va_Pc [.ref h0, .int u1] (PreW G (tys6 cI cJ cZ cD cR cT) (va_pl L f0) sz)) (QT (po_X11_canGo kp L f0 h0 u1) G cI cJ cZ cD cR cT (va_A (va_pl L f0) sz) kp L) 0 0 (va_A (va_pl L f0) sz) := by
  refine metT (by decide) (Nat.le_of_ble_eq_true rfl) hTH ?_
  intro p e s m below meth c A ls E hW hl
  obtain ⟨hx, hb, -, hml, hown, hts, -, -, -⟩ := id E
  have hF : FM kp L ms_X11_canGo f0 f0 := FM.rf
  have hl : lv_has ls 2 [(0, .ref h0), (1, .int u1)] := hl
  refine lv_iload_n hx hb dX11_canGo_0 rfl (lv_at hl 1 rfl) ?_
  refine lv_iconst (v := 1) hx hb dX11_canGo_1 (by decide) ?_
  refine lv_bipush (v := 104) hx hb dX11_canGo_2 (by decide) ?_
  refine t_callS (As := [.int u1, .int 1, .int 104]) (rest := []) E hW (c_X11_within l G cI cJ cZ cD cR cT kp L f0 hW.2.2.2 _ u1 1 104 (by decide)) wk_X11_within tw_599 rfl ⟨Nat.le_of_ble_eq_true rfl, Nat.le_of_ble_eq_true rfl⟩ ⟨rfl, rfl⟩ hl.1 rfl (Nat.le_of_ble_eq_true rfl) dX11_canGo_4 ⟨Nat.le_of_ble_eq_true rfl, Nat.le_of_ble_eq_true rfl⟩ (fun v1475716 f1475717 H locs q1475718 hW => ?_)
  obtain ⟨⟨x1475720, rfl, p1475721⟩, g1475719⟩ := q1475718
  have p1475721 : (x1475720.toInt = 1 ∧ 1 ≤ u1.toInt ∧ u1.toInt ≤ 104) ∨ (x1475720.toInt = 0 ∧ (u1.toInt < 1 ∨ 104 < u1.toInt)) := p1475721
  have hF := FM.tr hF g1475719 rfl
  refine q_if_eq (tgt := 29) hx hb dX11_canGo_7 (by decide) rfl (fun c1475722 => ?_) (fun c1475722 => ?_)
  · have q1475723 : (u1.toInt < 1 ∨ 104 < u1.toInt) := by omega
    clear p1475721
    refine lv_iconst (v := 0) hx hb dX11_canGo_29 (by decide) ?_
    exact e_Z E hW rfl (by decide) ⟨⟨_, rfl, (by have hk : (0 : Int32).toInt = 0 := rfl; first | decide | omega)⟩, hF⟩ dX11_canGo_30
  · have q1475724 : 1 ≤ u1.toInt ∧ u1.toInt ≤ 104 := by omega
    clear p1475721
    refine lv_aload_n hx hb dX11_canGo_10 rfl (lv_at hl 0 rfl) ?_
    refine fg_RX11_12 E hW rh0 dX11_canGo_11 (fun a1475725 m1475726 r1475727 => ?_)
    refine fg_RX11_255 E hW r1475727 dX11_canGo_14 (fun y1475728 m1475729 b1475730 => ?_)
    refine lv_iload_n hx hb dX11_canGo_17 rfl (lv_at hl 1 rfl) ?_
    refine q_iadd hx hb dX11_canGo_18 rfl rfl (by omega) (fun x1475731 h1475732 => ?_)
    refine lv_sipush (v := 399) hx hb dX11_canGo_19 (by decide) ?_
    refine q_icmp_gt (Y := 399) (tgt := 29) hx hb dX11_canGo_22 (by decide) rfl rfl (fun c1475733 => ?_) (fun c1475733 => ?_)
    · refine lv_iconst (v := 0) hx hb dX11_canGo_29 (by decide) ?_
      exact e_Z E hW rfl (by decide) ⟨⟨_, rfl, (by have hk : (0 : Int32).toInt = 0 := rfl; first | decide | omega)⟩, hF⟩ dX11_canGo_30
    · refine lv_iconst (v := 1) hx hb dX11_canGo_25 (by decide) ?_
      refine lv_goto (tgt := 30) hx hb dX11_canGo_26 (by decide) ?_
      exact e_Z E hW rfl (by decide) ⟨⟨_, rfl, (by have hk : (1 : Int32).toInt = 1 := rfl; first | decide | omega)⟩, hF⟩ dX11_canGo_30
def ms_X11_canChoose : List (Nat × Nat) := []
def po_X11_canChoose (kp : Nat → Nat) (L : List Nat) (f0 : Nat → va_E) (h0 : Nat) (u1 : Int32) : Option Value → (Nat → va_E) → Prop := fun v f => (∃ r : Int32, v = some (.int r) ∧ ((0 : Int) ≤ r.toInt ∧ r.toInt ≤ 1)) ∧ FM kp L ms_X11_canChoose f0 f
set_option maxHeartbeats 4000000 in
set_option maxRecDepth 100000 in
theorem c_X11_canChoose (l : Launch) (G : va_G) (cI cJ cZ cD cR cT : ClassId) (kp : Nat → Nat) (L : List Nat) (f0 : Nat → va_E) (hTH : TH cI cJ cZ cD cR cT kp L f0) (sz : Nat) (h0 : Nat) (u1 : Int32) (rh0 : RK kp L h0 11) : Met l yX11_canChoose (Cond.code yX11_canChoose cX11_canChoose 3 (some .boolean) :: wTab) ({ frames := 3, cells := 0, slots := 0, locals := 83 }) (va_Pc [.ref h0, .int u1] (PreW G (tys6 cI cJ cZ cD cR cT) (va_pl L f0) sz)) (QT (po_X11_canChoose kp L f0 h0 u1) G cI cJ cZ cD cR cT (va_A (va_pl L f0) sz) kp L) 0 0 (va_A (va_pl L f0) sz) := by
  refine metT (by decide) (Nat.le_of_ble_eq_true rfl) hTH ?_
  intro p e s m below meth c A ls E hW hl
  obtain ⟨hx, hb, -, hml, hown, hts, -, -, -⟩ := id E
  have hF : FM kp L ms_X11_canChoose f0 f0 := FM.rf
  have hl : lv_has ls 3 [(0, .ref h0), (1, .int u1)] := hl
  refine lv_aload_n hx hb dX11_canChoose_0 rfl (lv_at hl 0 rfl) ?_
  refine lv_iload_n hx hb dX11_canChoose_1 rfl (lv_at hl 1 rfl) ?_
  refine t_callV (As := [.int u1]) (rest := []) E hW (c_X11_canGo l G cI cJ cZ cD cR cT kp L f0 hW.2.2.2 _ h0 u1 rh0) rh0 (by decide) rfl wk_X11_canGo tw_1110 rfl ⟨Nat.le_of_ble_eq_true rfl, Nat.le_of_ble_eq_true rfl⟩ ⟨rfl, rfl⟩ hl.1 rfl (Nat.le_of_ble_eq_true rfl) dX11_canChoose_2 ⟨Nat.le_of_ble_eq_true rfl, Nat.le_of_ble_eq_true rfl⟩ (fun v1475734 f1475735 H locs q1475736 hW => ?_)
  obtain ⟨⟨x1475738, rfl, p1475739⟩, g1475737⟩ := q1475736
  have hF := FM.tr hF g1475737 rfl
  refine q_if_eq (tgt := 15) hx hb dX11_canChoose_5 (by decide) rfl (fun c1475740 => ?_) (fun c1475740 => ?_)
  · clear p1475739
    refine lv_iconst (v := 0) hx hb dX11_canChoose_15 (by decide) ?_
    exact e_Z E hW rfl (by decide) ⟨⟨_, rfl, (by have hk : (0 : Int32).toInt = 0 := rfl; first | decide | omega)⟩, hF⟩ dX11_canChoose_16
  · have q1475741 : 1 ≤ u1.toInt ∧ u1.toInt ≤ 104 := by omega
    clear p1475739
    refine lv_aload_n hx hb dX11_canChoose_8 rfl (lv_at hl 0 rfl) ?_
    refine fg_RX11_312 E hW rh0 dX11_canChoose_9 (fun y1475742 m1475743 b1475744 => ?_)
    refine q_if_ne (tgt := 17) hx hb dX11_canChoose_12 (by decide) rfl (fun c1475745 => ?_) (fun c1475745 => ?_)
    · refine lv_iconst (v := 0) hx hb dX11_canChoose_17 (by decide) ?_
      refine lv_istore_n (lv' := [(2, .int 0), (0, .ref h0), (1, .int u1)]) hx hb dX11_canChoose_18 rfl hl (by decide) rfl (fun ls hl => ?_)
      have L1475988 : ∀ (n : Nat), ∀ (f1475984 : Nat → va_E) (y1475986 : Int32) (m1475985 : oI (f1475984 h0) 12 = y1475742) (b1475987 : (0 : Int) ≤ y1475986.toInt ∧ y1475986.toInt ≤ 6) (hm : (7 : Int) - y1475986.toInt ≤ n) (H : Heap) (locs : List Loc) (ls : Array Slot), WS G cI cJ cZ cD cR cT A kp L f1475984 s H locs → FM kp L ms_X11_canChoose f0 f1475984 → lv_has ls 3 [(2, .int y1475986), (0, .ref h0), (1, .int u1)] → W p l e ({ frames := 3, cells := 0, slots := 0, locals := 83 }) s m ([.ref h0, .int u1] : List Value).toArray below meth c H locs 0 0 (MQ below (QT (po_X11_canChoose kp L f0 h0 u1) G cI cJ cZ cD cR cT A kp L) ([.ref h0, .int u1] : List Value).toArray s 0 0 A) (F0 m 19 ls []) := by
        intro n
        induction n with
        | zero =>
          intro f1475984 y1475986 m1475985 b1475987 hm H locs ls hW hF hl
          have hz := i32_b y1475986
          exfalso; omega
        | succ n ih =>
          intro f1475984 y1475986 m1475985 b1475987 hm H locs ls hW hF hl
          clear c1475740
          have ih19 := ih
          refine lv_iload_n hx hb dX11_canChoose_19 rfl (lv_at hl 0 rfl) ?_
          refine lv_aload_n hx hb dX11_canChoose_20 rfl (lv_at hl 1 rfl) ?_
          refine fg_RX11_309 E hW rh0 dX11_canChoose_21 (fun y1475989 m1475990 b1475991 => ?_)
          refine q_icmp_ge (tgt := 54) hx hb dX11_canChoose_24 (by decide) rfl rfl (fun c1475992 => ?_) (fun c1475992 => ?_)
          · refine lv_iconst (v := 1) hx hb dX11_canChoose_54 (by decide) ?_
            exact e_Z E hW rfl (by decide) ⟨⟨_, rfl, (by have hk : (1 : Int32).toInt = 1 := rfl; first | decide | omega)⟩, hF⟩ dX11_canChoose_55
          · refine lv_aload_n hx hb dX11_canChoose_27 rfl (lv_at hl 1 rfl) ?_
            refine fg_RX11_12 E hW rh0 dX11_canChoose_28 (fun a1475993 m1475994 r1475995 => ?_)
            refine fg_RX11_114 E hW r1475995 dX11_canChoose_31 (fun a1475996 m1475997 r1475998 => ?_)
            refine lv_aload_n hx hb dX11_canChoose_34 rfl (lv_at hl 1 rfl) ?_
            refine fg_RX11_41 E hW rh0 dX11_canChoose_35 (fun a1475999 m1476000 r1476001 => ?_)
            refine lv_iload_n hx hb dX11_canChoose_38 rfl (lv_at hl 0 rfl) ?_
            refine gl_768 E hW r1476001 ⟨by omega, by omega⟩ dX11_canChoose_39 (fun y1476002 m1476003 b1476004 => ?_)
            refine t_callV (As := [.int y1476002]) (rest := []) E hW (c_X1_has l G cI cJ cZ cD cR cT kp L f1475984 hW.2.2.2 _ a1475996 y1476002 r1475998) r1475998 (by decide) rfl wk_X1_has tw_683 rfl ⟨Nat.le_of_ble_eq_true rfl, Nat.le_of_ble_eq_true rfl⟩ ⟨rfl, rfl⟩ hl.1 rfl (Nat.le_of_ble_eq_true rfl) dX11_canChoose_40 ⟨Nat.le_of_ble_eq_true rfl, Nat.le_of_ble_eq_true rfl⟩ (fun v1476005 f1476006 H locs q1476007 hW => ?_)
            obtain ⟨⟨x1476009, rfl, p1476010⟩, g1476008⟩ := q1476007
            have hF := FM.tr hF g1476008 rfl
            refine q_if_ne (tgt := 48) hx hb dX11_canChoose_43 (by decide) rfl (fun c1476011 => ?_) (fun c1476011 => ?_)
            · have q1476012 : 0 ≤ y1476002.toInt ∧ y1476002.toInt ≤ 39 := by omega
              clear p1476010
              refine q_iinc hx hb dX11_canChoose_48 hl (k := 0) rfl rfl rfl (by omega) (by decide) (fun i1476013 ls h1476014 hl => ?_)
              have hl : lv_has ls 3 [(2, .int i1476013), (0, .ref h0), (1, .int u1)] := hl
              refine lv_goto (tgt := 19) hx hb dX11_canChoose_51 (by decide) ?_
              exact ih19 f1476006 i1476013 ((fm_I g1476008 rh0 rfl).trans m1475985) (by omega) (by omega) _ _ _ hW hF (lv_sub hl [0, 1, 2] rfl)
            · clear p1476010
              refine lv_iconst (v := 0) hx hb dX11_canChoose_46 (by decide) ?_
              exact e_Z E hW rfl (by decide) ⟨⟨_, rfl, (by have hk : (0 : Int32).toInt = 0 := rfl; first | decide | omega)⟩, hF⟩ dX11_canChoose_47
      have hk1476015 : (0 : Int32).toInt = 0 := rfl
      exact L1475988 7 f1475735 0 m1475743 (by decide) (by omega) _ _ _ hW hF (lv_sub hl [0, 1, 2] rfl)
    · refine lv_iconst (v := 0) hx hb dX11_canChoose_15 (by decide) ?_
      exact e_Z E hW rfl (by decide) ⟨⟨_, rfl, (by have hk : (0 : Int32).toInt = 0 := rfl; first | decide | omega)⟩, hF⟩ dX11_canChoose_16
def ms_X11_worstOf : List (Nat × Nat) := [(0, 6), (0, 9), (0, 10), (0, 11), (0, 12), (0, 13), (0, 14), (1, 0), (1, 8), (1, 12), (1, 13), (1, 14), (2, 0), (3, 0), (3, 1), (3, 2), (3, 3), (4, 0), (10, 0), (10, 7), (108, 0), (115, 0), (161, 0), (162, 0), (163, 0), (164, 0), (165, 0), (166, 0), (167, 0), (169, 0), (170, 0), (171, 0), (221, 0), (222, 0), (223, 0), (284, 0), (285, 0), (341, 0), (342, 0), (343, 0), (344, 0), (345, 0), (346, 0), (347, 0), (348, 0), (349, 0), (520, 0), (521, 0), (701, 0), (702, 0), (703, 0), (704, 0), (705, 0), (706, 0), (708, 0), (709, 0), (710, 0)]
def po_X11_worstOf (kp : Nat → Nat) (L : List Nat) (f0 : Nat → va_E) (h0 : Nat) (u1 : Int32) (u2 : Int32) (u3 : Int32) : Option Value → (Nat → va_E) → Prop := fun v f => (∃ r : Int32, v = some (.int r) ∧ ((0 : Int) ≤ r.toInt)) ∧ FM kp L ms_X11_worstOf f0 f
set_option maxHeartbeats 4000000 in
set_option maxRecDepth 100000 in
theorem c_X11_worstOf (l : Launch) (G : va_G) (cI cJ cZ cD cR cT : ClassId) (kp : Nat → Nat) (L : List Nat) (f0 : Nat → va_E) (hTH : TH cI cJ cZ cD cR cT kp L f0) (sz : Nat) (h0 : Nat) (u1 : Int32) (u2 : Int32) (u3 : Int32) (rh0 : RK kp L h0 11) (pu3 : (1 : Int) ≤ u3.toInt ∧ u3.toInt ≤ 41) : Met l yX11_worstOf (Cond.code yX11_worstOf cX11_worstOf 7 (some .int) :: wTab) ({ frames := 7, cells := 0, slots := 0, locals := 191 }) (va_Pc [.ref h0, .int u1, .int u2, .int u3] (PreW G (tys6 cI cJ cZ cD cR cT) (va_pl L f0) sz)) (QT (po_X11_worstOf kp L f0 h0 u1 u2 u3) G cI cJ cZ cD cR cT (va_A (va_pl L f0) sz) kp L) 0 0 (va_A (va_pl L f0) sz) := by
  refine metT (by decide) (Nat.le_of_ble_eq_true rfl) hTH ?_
  intro p e s m below meth c A ls E hW hl
  obtain ⟨hx, hb, -, hml, hown, hts, -, -, -⟩ := id E
  have hF : FM kp L ms_X11_worstOf f0 f0 := FM.rf
  have hl : lv_has ls 7 [(0, .ref h0), (1, .int u1), (2, .int u2), (3, .int u3)] := hl
  refine lv_iconst (v := 0) hx hb dX11_worstOf_0 (by decide) ?_
  refine lv_istore (lv' := [(4, .int 0), (0, .ref h0), (1, .int u1), (2, .int u2), (3, .int u3)]) hx hb dX11_worstOf_1 hl (by decide) rfl (fun ls hl => ?_)
  refine lv_iconst (v := 0) hx hb dX11_worstOf_3 (by decide) ?_
  refine lv_istore (lv' := [(5, .int 0), (4, .int 0), (0, .ref h0), (1, .int u1), (2, .int u2), (3, .int u3)]) hx hb dX11_worstOf_4 hl (by decide) rfl (fun ls hl => ?_)
  have L1483993 : ∀ (n : Nat), ∀ (f1483988 : Nat → va_E) (y1483989 : Int32) (y1483991 : Int32) (b1483990 : (0 : Int) ≤ y1483989.toInt ∧ y1483989.toInt ≤ 3) (b1483992 : (0 : Int) ≤ y1483991.toInt) (hm : (4 : Int) - y1483989.toInt ≤ n) (H : Heap) (locs : List Loc) (ls : Array Slot), WS G cI cJ cZ cD cR cT A kp L f1483988 s H locs → FM kp L ms_X11_worstOf f0 f1483988 → lv_has ls 7 [(5, .int y1483989), (4, .int y1483991), (0, .ref h0), (1, .int u1), (2, .int u2), (3, .int u3)] → W p l e ({ frames := 7, cells := 0, slots := 0, locals := 191 }) s m ([.ref h0, .int u1, .int u2, .int u3] : List Value).toArray below meth c H locs 0 0 (MQ below (QT (po_X11_worstOf kp L f0 h0 u1 u2 u3) G cI cJ cZ cD cR cT A kp L) ([.ref h0, .int u1, .int u2, .int u3] : List Value).toArray s 0 0 A) (F0 m 6 ls []) := by
    intro n
    induction n with
    | zero =>
      intro f1483988 y1483989 y1483991 b1483990 b1483992 hm H locs ls hW hF hl
      have hz := i32_b y1483989
      exfalso; omega
    | succ n ih =>
      intro f1483988 y1483989 y1483991 b1483990 b1483992 hm H locs ls hW hF hl
      have ih6 := ih
      refine lv_iload hx hb dX11_worstOf_6 (lv_at hl 0 rfl) ?_
      refine lv_aload_n hx hb dX11_worstOf_8 rfl (lv_at hl 2 rfl) ?_
      refine fg_RX11_312 E hW rh0 dX11_worstOf_9 (fun y1483994 m1483995 b1483996 => ?_)
      have J1485981 : ∀ (H : Heap) (locs : List Loc) (ls : Array Slot), WS G cI cJ cZ cD cR cT A kp L f1483988 s H locs → FM kp L ms_X11_worstOf f0 f1483988 → lv_has ls 7 [(5, .int y1483989), (4, .int y1483991), (0, .ref h0), (1, .int u1), (2, .int u2), (3, .int u3)] → W p l e ({ frames := 7, cells := 0, slots := 0, locals := 191 }) s m ([.ref h0, .int u1, .int u2, .int u3] : List Value).toArray below meth c H locs 0 0 (MQ below (QT (po_X11_worstOf kp L f0 h0 u1 u2 u3) G cI cJ cZ cD cR cT A kp L) ([.ref h0, .int u1, .int u2, .int u3] : List Value).toArray s 0 0 A) (F0 m 145 ls []) := by
        intro  H locs ls hW hF hl
        refine lv_iload hx hb dX11_worstOf_145 (lv_at hl 1 rfl) ?_
        exact e_I E hW rfl ⟨⟨_, rfl, (by first | omega | trivial)⟩, hF⟩ dX11_worstOf_147
      refine q_icmp_ge (tgt := 145) hx hb dX11_worstOf_12 (by decide) rfl rfl (fun c1485982 => ?_) (fun c1485982 => ?_)
      · exact J1485981   _ _ _ hW hF (lv_sub hl [0, 1, 2, 3, 4, 5] rfl)
      · refine lv_iload hx hb dX11_worstOf_15 (lv_at hl 1 rfl) ?_
        refine lv_iload_n hx hb dX11_worstOf_17 rfl (lv_at hl 5 rfl) ?_
        refine q_icmp_ge (tgt := 145) hx hb dX11_worstOf_18 (by decide) rfl rfl (fun c1485983 => ?_) (fun c1485983 => ?_)
        · exact J1485981   _ _ _ hW hF (lv_sub hl [0, 1, 2, 3, 4, 5] rfl)
        · refine lv_aload_n hx hb dX11_worstOf_21 rfl (lv_at hl 2 rfl) ?_
          refine fg_RX11_18 E hW rh0 dX11_worstOf_22 (fun a1485984 m1485985 r1485986 => ?_)
          refine lv_aload_n hx hb dX11_worstOf_25 rfl (lv_at hl 2 rfl) ?_
          refine fg_RX11_12 E hW rh0 dX11_worstOf_26 (fun a1485987 m1485988 r1485989 => ?_)
          refine t_callV (As := [.ref a1485987]) (rest := []) E hW (c_X0_copyFrom l G cI cJ cZ cD cR cT kp L f1483988 hW.2.2.2 _ a1485984 a1485987 r1485986 r1485989) r1485986 (by decide) rfl wk_X0_copyFrom tw_1285 rfl ⟨Nat.le_of_ble_eq_true rfl, Nat.le_of_ble_eq_true rfl⟩ ⟨rfl, rfl⟩ hl.1 rfl (Nat.le_of_ble_eq_true rfl) dX11_worstOf_29 ⟨Nat.le_of_ble_eq_true rfl, Nat.le_of_ble_eq_true rfl⟩ (fun v1485990 f1485991 H locs q1485992 hW => ?_)
          obtain ⟨rfl, g1485993⟩ := q1485992
          have hF := FM.tr hF g1485993 rfl
          refine lv_aload_n hx hb dX11_worstOf_32 rfl (lv_at hl 2 rfl) ?_
          refine fg_RX11_18 E hW rh0 dX11_worstOf_33 (fun a1485994 m1485995 r1485996 => ?_)
          obtain rfl : a1485984 = a1485994 := (((fm_R g1485993 rh0 rfl).trans m1485985)).symm.trans m1485995
          refine lv_aload_n hx hb dX11_worstOf_36 rfl (lv_at hl 2 rfl) ?_
          refine fg_RX11_45 E hW rh0 dX11_worstOf_37 (fun a1485997 m1485998 r1485999 => ?_)
          refine lv_iload hx hb dX11_worstOf_40 (lv_at hl 0 rfl) ?_
          refine gl_770 E hW r1485999 ⟨by omega, by omega⟩ dX11_worstOf_42 (fun y1486000 m1486001 => ?_)
          refine lv_aload_n hx hb dX11_worstOf_43 rfl (lv_at hl 2 rfl) ?_
          refine fg_RX11_48 E hW rh0 dX11_worstOf_44 (fun a1486003 m1486004 r1486005 => ?_)
          refine lv_iload hx hb dX11_worstOf_47 (lv_at hl 0 rfl) ?_
          refine gl_771 E hW r1486005 ⟨by omega, by omega⟩ dX11_worstOf_49 (fun y1486006 m1486007 => ?_)
          refine t_callV (As := [.int y1486000, .int y1486006]) (rest := []) E hW (c_X0_tellCrops l G cI cJ cZ cD cR cT kp L f1485991 hW.2.2.2 _ a1485984 y1486000 y1486006 r1485986) r1485986 (by decide) rfl wk_X0_tellCrops tw_1318 rfl ⟨Nat.le_of_ble_eq_true rfl, Nat.le_of_ble_eq_true rfl⟩ ⟨rfl, rfl⟩ hl.1 rfl (Nat.le_of_ble_eq_true rfl) dX11_worstOf_50 ⟨Nat.le_of_ble_eq_true rfl, Nat.le_of_ble_eq_true rfl⟩ (fun v1486009 f1486010 H locs q1486011 hW => ?_)
          obtain ⟨rfl, g1486012⟩ := q1486011
          have hF := FM.tr hF g1486012 rfl
          refine lv_iconst (v := 0) hx hb dX11_worstOf_53 (by decide) ?_
          refine lv_istore (lv' := [(6, .int 0), (5, .int y1483989), (4, .int y1483991), (0, .ref h0), (1, .int u1), (2, .int u2), (3, .int u3)]) hx hb dX11_worstOf_54 hl (by decide) rfl (fun ls hl => ?_)
          have L1486252 : ∀ (n : Nat), ∀ (f1486244 : Nat → va_E) (y1486250 : Int32) (m1486245 : oR (f1486244 h0) 0 = a1485987) (m1486246 : oR (f1486244 h0) 1 = a1485984) (m1486247 : oR (f1486244 h0) 10 = a1485997) (m1486248 : oR (f1486244 h0) 11 = a1486003) (m1486249 : oI (f1486244 h0) 12 = y1483994) (b1486251 : (0 : Int) ≤ y1486250.toInt ∧ y1486250.toInt ≤ 6) (hm : (7 : Int) - y1486250.toInt ≤ n) (H : Heap) (locs : List Loc) (ls : Array Slot), WS G cI cJ cZ cD cR cT A kp L f1486244 s H locs → FM kp L ms_X11_worstOf f0 f1486244 → lv_has ls 7 [(6, .int y1486250), (5, .int y1483989), (4, .int y1483991), (0, .ref h0), (1, .int u1), (2, .int u2), (3, .int u3)] → W p l e ({ frames := 7, cells := 0, slots := 0, locals := 191 }) s m ([.ref h0, .int u1, .int u2, .int u3] : List Value).toArray below meth c H locs 0 0 (MQ below (QT (po_X11_worstOf kp L f0 h0 u1 u2 u3) G cI cJ cZ cD cR cT A kp L) ([.ref h0, .int u1, .int u2, .int u3] : List Value).toArray s 0 0 A) (F0 m 56 ls []) := by
            intro n
            induction n with
            | zero =>
              intro f1486244 y1486250 m1486245 m1486246 m1486247 m1486248 m1486249 b1486251 hm H locs ls hW hF hl
              have hz := i32_b y1486250
              exfalso; omega
            | succ n ih =>
              intro f1486244 y1486250 m1486245 m1486246 m1486247 m1486248 m1486249 b1486251 hm H locs ls hW hF hl
              have ih56 := ih
              refine lv_iload hx hb dX11_worstOf_56 (lv_at hl 0 rfl) ?_
              refine lv_aload_n hx hb dX11_worstOf_58 rfl (lv_at hl 3 rfl) ?_
              refine fg_RX11_309 E hW rh0 dX11_worstOf_59 (fun y1486253 m1486254 b1486255 => ?_)
              refine q_icmp_ge (tgt := 92) hx hb dX11_worstOf_62 (by decide) rfl rfl (fun c1486277 => ?_) (fun c1486277 => ?_)
              · refine lv_iconst (v := 0) hx hb dX11_worstOf_92 (by decide) ?_
                refine lv_istore (lv' := [(6, .int 0), (5, .int y1483989), (4, .int y1483991), (0, .ref h0), (1, .int u1), (2, .int u2), (3, .int u3)]) hx hb dX11_worstOf_93 hl (by decide) rfl (fun ls hl => ?_)
                have L1487900 : ∀ (n : Nat), ∀ (f1487891 : Nat → va_E) (y1487898 : Int32) (m1487892 : oR (f1487891 h0) 0 = a1485987) (m1487893 : oR (f1487891 h0) 1 = a1485984) (m1487894 : oI (f1487891 h0) 9 = y1486253) (m1487895 : oR (f1487891 h0) 10 = a1485997) (m1487896 : oR (f1487891 h0) 11 = a1486003) (m1487897 : oI (f1487891 h0) 12 = y1483994) (b1487899 : (0 : Int) ≤ y1487898.toInt) (hm : (2147483648 : Int) - y1487898.toInt ≤ n) (H : Heap) (locs : List Loc) (ls : Array Slot), WS G cI cJ cZ cD cR cT A kp L f1487891 s H locs → FM kp L ms_X11_worstOf f0 f1487891 → lv_has ls 7 [(6, .int y1487898), (5, .int y1483989), (4, .int y1483991), (0, .ref h0), (1, .int u1), (2, .int u2), (3, .int u3)] → W p l e ({ frames := 7, cells := 0, slots := 0, locals := 191 }) s m ([.ref h0, .int u1, .int u2, .int u3] : List Value).toArray below meth c H locs 0 0 (MQ below (QT (po_X11_worstOf kp L f0 h0 u1 u2 u3) G cI cJ cZ cD cR cT A kp L) ([.ref h0, .int u1, .int u2, .int u3] : List Value).toArray s 0 0 A) (F0 m 95 ls []) := by
                  intro n
                  induction n with
                  | zero =>
                    intro f1487891 y1487898 m1487892 m1487893 m1487894 m1487895 m1487896 m1487897 b1487899 hm H locs ls hW hF hl
                    have hz := i32_b y1487898
                    exfalso; omega
                  | succ n ih =>
                    intro f1487891 y1487898 m1487892 m1487893 m1487894 m1487895 m1487896 m1487897 b1487899 hm H locs ls hW hF hl
                    have ih95 := ih
                    refine lv_iload hx hb dX11_worstOf_95 (lv_at hl 0 rfl) ?_
                    refine lv_iload_n hx hb dX11_worstOf_97 rfl (lv_at hl 5 rfl) ?_
                    have J1487917 : ∀ (H : Heap) (locs : List Loc) (ls : Array Slot), WS G cI cJ cZ cD cR cT A kp L f1487891 s H locs → FM kp L ms_X11_worstOf f0 f1487891 → lv_has ls 7 [(6, .int y1487898), (5, .int y1483989), (4, .int y1483991), (0, .ref h0), (1, .int u1), (2, .int u2), (3, .int u3)] → W p l e ({ frames := 7, cells := 0, slots := 0, locals := 191 }) s m ([.ref h0, .int u1, .int u2, .int u3] : List Value).toArray below meth c H locs 0 0 (MQ below (QT (po_X11_worstOf kp L f0 h0 u1 u2 u3) G cI cJ cZ cD cR cT A kp L) ([.ref h0, .int u1, .int u2, .int u3] : List Value).toArray s 0 0 A) (F0 m 125 ls []) := by
                      intro  H locs ls hW hF hl
                      refine lv_iload hx hb dX11_worstOf_125 (lv_at hl 2 rfl) ?_
                      refine lv_aload_n hx hb dX11_worstOf_127 rfl (lv_at hl 3 rfl) ?_
                      refine fg_RX11_18 E hW rh0 dX11_worstOf_128 (fun a1487918 m1487919 r1487920 => ?_)
                      obtain rfl : a1485984 = a1487918 := (m1487893).symm.trans m1487919
                      refine fg_RX11_389 E hW r1485986 dX11_worstOf_131 (fun y1487921 m1487922 => ?_)
                      refine t_max (own := RX11) E tw_1322 ⟨tw_714, tw_115, tw_715⟩ hl.1 ⟨Nat.le_of_ble_eq_true rfl, Nat.le_of_ble_eq_true rfl⟩ ⟨Nat.le_of_ble_eq_true rfl, Nat.le_of_ble_eq_true rfl⟩ rfl rfl dX11_worstOf_134 (fun x1487924 h1487925 => ?_)
                      refine lv_istore (lv' := [(4, .int x1487924), (6, .int y1487898), (5, .int y1483989), (0, .ref h0), (1, .int u1), (2, .int u2), (3, .int u3)]) hx hb dX11_worstOf_137 hl (by decide) rfl (fun ls hl => ?_)
                      refine q_iinc hx hb dX11_worstOf_139 hl (k := 2) rfl rfl rfl (by omega) (by decide) (fun i1487926 ls h1487927 hl => ?_)
                      have hl : lv_has ls 7 [(5, .int i1487926), (4, .int x1487924), (6, .int y1487898), (0, .ref h0), (1, .int u1), (2, .int u2), (3, .int u3)] := hl
                      refine lv_goto (tgt := 6) hx hb dX11_worstOf_142 (by decide) ?_
                      exact ih6 f1487891 i1487926 x1487924 (by omega) (by omega) (by omega) _ _ _ hW hF (lv_sub hl [0, 1, 3, 4, 5, 6] rfl)
                    refine q_icmp_ge (tgt := 125) hx hb dX11_worstOf_98 (by decide) rfl rfl (fun c1487928 => ?_) (fun c1487928 => ?_)
                    · exact J1487917   _ _ _ hW hF (lv_sub hl [0, 1, 2, 3, 4, 5, 6] rfl)
                    · have hb1487929 : y1487898.toInt ≤ 2147483646 := by have := i32_b u2; omega
                      refine lv_aload_n hx hb dX11_worstOf_101 rfl (lv_at hl 3 rfl) ?_
                      refine fg_RX11_18 E hW rh0 dX11_worstOf_102 (fun a1487930 m1487931 r1487932 => ?_)
                      obtain rfl : a1485984 = a1487930 := (m1487893).symm.trans m1487931
                      refine fg_RX11_389 E hW r1485986 dX11_worstOf_105 (fun y1487933 m1487934 => ?_)
                      refine lv_iload_n hx hb dX11_worstOf_108 rfl (lv_at hl 6 rfl) ?_
                      refine q_icmp_ge (tgt := 125) hx hb dX11_worstOf_109 (by decide) rfl rfl (fun c1487936 => ?_) (fun c1487936 => ?_)
                      · exact J1487917   _ _ _ hW hF (lv_sub hl [0, 1, 2, 3, 4, 5, 6] rfl)
                      · refine lv_aload_n hx hb dX11_worstOf_112 rfl (lv_at hl 3 rfl) ?_
                        refine fg_RX11_18 E hW rh0 dX11_worstOf_113 (fun a1487937 m1487938 r1487939 => ?_)
                        obtain rfl : a1485984 = a1487937 := (m1487931).symm.trans m1487938
                        refine t_callV (As := []) (rest := []) E hW (c_X0_passWeek l G cI cJ cZ cD cR cT kp L f1487891 hW.2.2.2 _ a1485984 r1485986) r1485986 (by decide) rfl wk_X0_passWeek tw_1114 rfl ⟨Nat.le_of_ble_eq_true rfl, Nat.le_of_ble_eq_true rfl⟩ ⟨rfl, rfl⟩ hl.1 rfl (Nat.le_of_ble_eq_true rfl) dX11_worstOf_116 ⟨Nat.le_of_ble_eq_true rfl, Nat.le_of_ble_eq_true rfl⟩ (fun v1487940 f1487941 H locs q1487942 hW => ?_)
                        obtain ⟨rfl, g1487943⟩ := q1487942
                        have hF := FM.tr hF g1487943 rfl
                        refine q_iinc hx hb dX11_worstOf_119 hl (k := 0) rfl rfl rfl (by omega) (by decide) (fun i1487944 ls h1487945 hl => ?_)
                        have hl : lv_has ls 7 [(6, .int i1487944), (5, .int y1483989), (4, .int y1483991), (0, .ref h0), (1, .int u1), (2, .int u2), (3, .int u3)] := hl
                        refine lv_goto (tgt := 95) hx hb dX11_worstOf_122 (by decide) ?_
                        exact ih95 f1487941 i1487944 ((fm_R g1487943 rh0 rfl).trans m1487892) ((fm_R g1487943 rh0 rfl).trans m1487938) ((fm_I g1487943 rh0 rfl).trans m1487894) ((fm_R g1487943 rh0 rfl).trans m1487895) ((fm_R g1487943 rh0 rfl).trans m1487896) ((fm_I g1487943 rh0 rfl).trans m1487897) (by omega) (by omega) _ _ _ hW hF (lv_sub hl [0, 1, 2, 3, 4, 5, 6] rfl)
                have hk1487946 : (0 : Int32).toInt = 0 := rfl
                exact L1487900 2147483648 f1486244 0 m1486245 m1486246 m1486254 m1486247 m1486248 m1486249 (by decide) (by omega) _ _ _ hW hF (lv_sub hl [0, 1, 2, 3, 4, 5, 6] rfl)
              · refine lv_aload_n hx hb dX11_worstOf_65 rfl (lv_at hl 3 rfl) ?_
                refine fg_RX11_18 E hW rh0 dX11_worstOf_66 (fun a1487947 m1487948 r1487949 => ?_)
                obtain rfl : a1485984 = a1487947 := (m1486246).symm.trans m1487948
                refine fg_RX11_386 E hW r1485986 dX11_worstOf_69 (fun a1487950 m1487951 r1487952 => ?_)
                refine lv_aload_n hx hb dX11_worstOf_72 rfl (lv_at hl 3 rfl) ?_
                refine fg_RX11_41 E hW rh0 dX11_worstOf_73 (fun a1487953 m1487954 r1487955 => ?_)
                refine lv_iload hx hb dX11_worstOf_76 (lv_at hl 0 rfl) ?_
                refine gl_768 E hW r1487955 ⟨by omega, by omega⟩ dX11_worstOf_78 (fun y1487956 m1487957 b1487958 => ?_)
                refine lv_iload_n hx hb dX11_worstOf_79 rfl (lv_at hl 4 rfl) ?_
                refine lv_iload hx hb dX11_worstOf_80 (lv_at hl 0 rfl) ?_
                refine u_ishr hx hb dX11_worstOf_82 (fun x1487959 => ?_)
                refine lv_iconst (v := 1) hx hb dX11_worstOf_83 (by decide) ?_
                refine q_iand (M := 1) (k := 1) hx hb dX11_worstOf_84 (by decide) (by decide) (by decide) (fun x1487960 h1487961 => ?_)
                refine gs_108 E hW r1487952 ⟨by omega, by omega⟩ dX11_worstOf_85 (fun f1487962 H locs e1487963 n1487964 g1487965 hW => ?_)
                have hF := FM.tr hF g1487965 rfl
                refine q_iinc hx hb dX11_worstOf_86 hl (k := 0) rfl rfl rfl (by omega) (by decide) (fun i1487966 ls h1487967 hl => ?_)
                have hl : lv_has ls 7 [(6, .int i1487966), (5, .int y1483989), (4, .int y1483991), (0, .ref h0), (1, .int u1), (2, .int u2), (3, .int u3)] := hl
                refine lv_goto (tgt := 56) hx hb dX11_worstOf_89 (by decide) ?_
                exact ih56 f1487962 i1487966 ((fm_R g1487965 rh0 rfl).trans m1486245) ((fm_R g1487965 rh0 rfl).trans m1487948) ((fm_R g1487965 rh0 rfl).trans m1486247) ((fm_R g1487965 rh0 rfl).trans m1486248) ((fm_I g1487965 rh0 rfl).trans m1486249) (by omega) (by omega) _ _ _ hW hF (lv_sub hl [0, 1, 2, 3, 4, 5, 6] rfl)
          have hk1487968 : (0 : Int32).toInt = 0 := rfl
          exact L1486252 7 f1486010 0 ((fm_R g1486012 rh0 rfl).trans ((fm_R g1485993 rh0 rfl).trans m1485988)) ((fm_R g1486012 rh0 rfl).trans m1485995) ((fm_R g1486012 rh0 rfl).trans m1485998) ((fm_R g1486012 rh0 rfl).trans m1486004) ((fm_I g1486012 rh0 rfl).trans ((fm_I g1485993 rh0 rfl).trans m1483995)) (by decide) (by omega) _ _ _ hW hF (lv_sub hl [0, 1, 2, 3, 4, 5, 6] rfl)
  have hk1487969 : (0 : Int32).toInt = 0 := rfl
  have hk1487970 : (0 : Int32).toInt = 0 := rfl
  exact L1483993 4 f0 0 0 (by decide) (by decide) (by omega) _ _ _ hW hF (lv_sub hl [0, 1, 2, 3, 4, 5] rfl)
def ms_X11_choose : List (Nat × Nat) := [(0, 6), (0, 9), (0, 10), (0, 11), (0, 12), (0, 13), (0, 14), (1, 0), (1, 8), (1, 12), (1, 13), (1, 14), (2, 0), (3, 0), (3, 1), (3, 2), (3, 3), (4, 0), (10, 0), (10, 7), (11, 14), (108, 0), (115, 0), (161, 0), (162, 0), (163, 0), (164, 0), (165, 0), (166, 0), (167, 0), (169, 0), (170, 0), (171, 0), (221, 0), (222, 0), (223, 0), (284, 0), (285, 0), (341, 0), (342, 0), (343, 0), (344, 0), (345, 0), (346, 0), (347, 0), (348, 0), (349, 0), (520, 0), (521, 0), (701, 0), (702, 0), (703, 0), (704, 0), (705, 0), (706, 0), (708, 0), (709, 0), (710, 0), (773, 0)]
def po_X11_choose (kp : Nat → Nat) (L : List Nat) (f0 : Nat → va_E) (h0 : Nat) (u1 : Int32) : Option Value → (Nat → va_E) → Prop := fun v f => (∃ r : Int32, v = some (.int r) ∧ ((-1 : Int) ≤ r.toInt ∧ r.toInt ≤ 41)) ∧ FM kp L ms_X11_choose f0 f
set_option maxHeartbeats 4000000 in
set_option maxRecDepth 100000 in
theorem c_X11_choose (l : Launch) (G : va_G) (cI cJ cZ cD cR cT : ClassId) (kp : Nat → Nat) (L : List Nat) (f0 : Nat → va_E) (hTH : TH cI cJ cZ cD cR cT kp L f0) (sz : Nat) (h0 : Nat) (u1 : Int32) (rh0 : RK kp L h0 11) : Met l yX11_choose (Cond.code yX11_choose cX11_choose 8 (some .int) :: wTab) ({ frames := 8, cells := 0, slots := 0, locals := 217 }) (va_Pc [.ref h0, .int u1] (PreW G (tys6 cI cJ cZ cD cR cT) (va_pl L f0) sz)) (QT (po_X11_choose kp L f0 h0 u1) G cI cJ cZ cD cR cT (va_A (va_pl L f0) sz) kp L) 0 0 (va_A (va_pl L f0) sz) := by
  refine metT (by decide) (Nat.le_of_ble_eq_true rfl) hTH ?_
  intro p e s m below meth c A ls E hW hl
  obtain ⟨hx, hb, -, hml, hown, hts, -, -, -⟩ := id E
  have hF : FM kp L ms_X11_choose f0 f0 := FM.rf
  have hl : lv_has ls 8 [(0, .ref h0), (1, .int u1)] := hl
  refine lv_aload_n hx hb dX11_choose_0 rfl (lv_at hl 0 rfl) ?_
  refine lv_iload_n hx hb dX11_choose_1 rfl (lv_at hl 1 rfl) ?_
  refine t_callV (As := [.int u1]) (rest := []) E hW (c_X11_canChoose l G cI cJ cZ cD cR cT kp L f0 hW.2.2.2 _ h0 u1 rh0) rh0 (by decide) rfl wk_X11_canChoose tw_1272 rfl ⟨Nat.le_of_ble_eq_true rfl, Nat.le_of_ble_eq_true rfl⟩ ⟨rfl, rfl⟩ hl.1 rfl (Nat.le_of_ble_eq_true rfl) dX11_choose_2 ⟨Nat.le_of_ble_eq_true rfl, Nat.le_of_ble_eq_true rfl⟩ (fun v1487971 f1487972 H locs q1487973 hW => ?_)
  obtain ⟨⟨x1487975, rfl, p1487976⟩, g1487974⟩ := q1487973
  have hF := FM.tr hF g1487974 rfl
  refine q_if_ne (tgt := 10) hx hb dX11_choose_5 (by decide) rfl (fun c1487977 => ?_) (fun c1487977 => ?_)
  · refine lv_bipush (v := 41) hx hb dX11_choose_10 (by decide) ?_
    refine lv_istore_n (lv' := [(2, .int 41), (0, .ref h0), (1, .int u1)]) hx hb dX11_choose_12 rfl hl (by decide) rfl (fun ls hl => ?_)
    refine lv_iconst (v := 0) hx hb dX11_choose_13 (by decide) ?_
    refine lv_istore_n (lv' := [(3, .int 0), (2, .int 41), (0, .ref h0), (1, .int u1)]) hx hb dX11_choose_14 rfl hl (by decide) rfl (fun ls hl => ?_)
    refine lv_iconst (v := 0) hx hb dX11_choose_15 (by decide) ?_
    refine lv_istore (lv' := [(4, .int 0), (3, .int 0), (2, .int 41), (0, .ref h0), (1, .int u1)]) hx hb dX11_choose_16 hl (by decide) rfl (fun ls hl => ?_)
    have L1515674 : ∀ (n : Nat), ∀ (f1515668 : Nat → va_E) (y1515669 : Int32) (y1515671 : Int32) (y1515672 : Int32) (b1515670 : (0 : Int) ≤ y1515669.toInt ∧ y1515669.toInt ≤ 7) (b1515673 : (0 : Int) ≤ y1515672.toInt ∧ y1515672.toInt ≤ 41) (hm : (8 : Int) - y1515669.toInt ≤ n) (H : Heap) (locs : List Loc) (ls : Array Slot), WS G cI cJ cZ cD cR cT A kp L f1515668 s H locs → FM kp L ms_X11_choose f0 f1515668 → lv_has ls 8 [(4, .int y1515669), (3, .int y1515671), (2, .int y1515672), (0, .ref h0), (1, .int u1)] → W p l e ({ frames := 8, cells := 0, slots := 0, locals := 217 }) s m ([.ref h0, .int u1] : List Value).toArray below meth c H locs 0 0 (MQ below (QT (po_X11_choose kp L f0 h0 u1) G cI cJ cZ cD cR cT A kp L) ([.ref h0, .int u1] : List Value).toArray s 0 0 A) (F0 m 18 ls []) := by
      intro n
      induction n with
      | zero =>
        intro f1515668 y1515669 y1515671 y1515672 b1515670 b1515673 hm H locs ls hW hF hl
        have hz := i32_b y1515669
        exfalso; omega
      | succ n ih =>
        intro f1515668 y1515669 y1515671 y1515672 b1515670 b1515673 hm H locs ls hW hF hl
        clear p1487976 c1487977
        have ih18 := ih
        refine lv_iload hx hb dX11_choose_18 (lv_at hl 0 rfl) ?_
        refine lv_aload_n hx hb dX11_choose_20 rfl (lv_at hl 3 rfl) ?_
        refine fg_RX11_309 E hW rh0 dX11_choose_21 (fun y1515675 m1515676 b1515677 => ?_)
        have J1519129 : ∀ (H : Heap) (locs : List Loc) (ls : Array Slot), WS G cI cJ cZ cD cR cT A kp L f1515668 s H locs → FM kp L ms_X11_choose f0 f1515668 → lv_has ls 8 [(4, .int y1515669), (3, .int y1515671), (2, .int y1515672), (0, .ref h0), (1, .int u1)] → W p l e ({ frames := 8, cells := 0, slots := 0, locals := 217 }) s m ([.ref h0, .int u1] : List Value).toArray below meth c H locs 0 0 (MQ below (QT (po_X11_choose kp L f0 h0 u1) G cI cJ cZ cD cR cT A kp L) ([.ref h0, .int u1] : List Value).toArray s 0 0 A) (F0 m 104 ls []) := by
          intro  H locs ls hW hF hl
          refine lv_iconst (v := 0) hx hb dX11_choose_104 (by decide) ?_
          refine lv_istore (lv' := [(4, .int 0), (3, .int y1515671), (2, .int y1515672), (0, .ref h0), (1, .int u1)]) hx hb dX11_choose_105 hl (by decide) rfl (fun ls hl => ?_)
          have L1519274 : ∀ (n : Nat), ∀ (f1519270 : Nat → va_E) (y1519272 : Int32) (m1519271 : oI (f1519270 h0) 9 = y1515675) (b1519273 : (0 : Int) ≤ y1519272.toInt ∧ y1519272.toInt ≤ 6) (hm : (7 : Int) - y1519272.toInt ≤ n) (H : Heap) (locs : List Loc) (ls : Array Slot), WS G cI cJ cZ cD cR cT A kp L f1519270 s H locs → FM kp L ms_X11_choose f0 f1519270 → lv_has ls 8 [(4, .int y1519272), (3, .int y1515671), (2, .int y1515672), (0, .ref h0), (1, .int u1)] → W p l e ({ frames := 8, cells := 0, slots := 0, locals := 217 }) s m ([.ref h0, .int u1] : List Value).toArray below meth c H locs 0 0 (MQ below (QT (po_X11_choose kp L f0 h0 u1) G cI cJ cZ cD cR cT A kp L) ([.ref h0, .int u1] : List Value).toArray s 0 0 A) (F0 m 107 ls []) := by
            intro n
            induction n with
            | zero =>
              intro f1519270 y1519272 m1519271 b1519273 hm H locs ls hW hF hl
              have hz := i32_b y1519272
              exfalso; omega
            | succ n ih =>
              intro f1519270 y1519272 m1519271 b1519273 hm H locs ls hW hF hl
              have ih107 := ih
              refine lv_iload hx hb dX11_choose_107 (lv_at hl 0 rfl) ?_
              refine lv_aload_n hx hb dX11_choose_109 rfl (lv_at hl 3 rfl) ?_
              refine fg_RX11_309 E hW rh0 dX11_choose_110 (fun y1519275 m1519276 b1519277 => ?_)
              obtain rfl : y1515675 = y1519275 := (m1519271).symm.trans m1519276
              refine q_icmp_ge (tgt := 135) hx hb dX11_choose_113 (by decide) rfl rfl (fun c1519290 => ?_) (fun c1519290 => ?_)
              · refine lv_aload_n hx hb dX11_choose_135 rfl (lv_at hl 3 rfl) ?_
                refine lv_aload_n hx hb dX11_choose_136 rfl (lv_at hl 3 rfl) ?_
                refine fg_RX11_309 E hW rh0 dX11_choose_137 (fun y1519291 m1519292 b1519293 => ?_)
                obtain rfl : y1515675 = y1519291 := (m1519276).symm.trans m1519292
                refine fp_RX11_329 E hW rh0 (by omega) dX11_choose_140 (fun f1519294 H locs e1519295 n1519296 g1519297 hW => ?_)
                have hF := FM.tr hF g1519297 rfl
                refine lv_iload_n hx hb dX11_choose_143 rfl (lv_at hl 2 rfl) ?_
                exact e_I E hW rfl ⟨⟨_, rfl, (by first | omega | trivial)⟩, hF⟩ dX11_choose_144
              · refine lv_aload_n hx hb dX11_choose_116 rfl (lv_at hl 3 rfl) ?_
                refine fg_RX11_51 E hW rh0 dX11_choose_117 (fun a1519298 m1519299 r1519300 => ?_)
                refine lv_iload hx hb dX11_choose_120 (lv_at hl 0 rfl) ?_
                refine lv_iload_n hx hb dX11_choose_122 rfl (lv_at hl 1 rfl) ?_
                refine lv_iload hx hb dX11_choose_123 (lv_at hl 0 rfl) ?_
                refine u_ishr hx hb dX11_choose_125 (fun x1519301 => ?_)
                refine lv_iconst (v := 1) hx hb dX11_choose_126 (by decide) ?_
                refine q_iand (M := 1) (k := 1) hx hb dX11_choose_127 (by decide) (by decide) (by decide) (fun x1519302 h1519303 => ?_)
                refine gs_773 E hW r1519300 ⟨by omega, by omega⟩ dX11_choose_128 (fun f1519304 H locs e1519305 n1519306 g1519307 hW => ?_)
                have hF := FM.tr hF g1519307 rfl
                refine q_iinc hx hb dX11_choose_129 hl (k := 0) rfl rfl rfl (by omega) (by decide) (fun i1519308 ls h1519309 hl => ?_)
                have hl : lv_has ls 8 [(4, .int i1519308), (3, .int y1515671), (2, .int y1515672), (0, .ref h0), (1, .int u1)] := hl
                refine lv_goto (tgt := 107) hx hb dX11_choose_132 (by decide) ?_
                exact ih107 f1519304 i1519308 ((fm_I g1519307 rh0 rfl).trans m1519276) (by omega) (by omega) _ _ _ hW hF (lv_sub hl [0, 1, 2, 3, 4] rfl)
          have hk1519310 : (0 : Int32).toInt = 0 := rfl
          exact L1519274 7 f1515668 0 m1515676 (by decide) (by omega) _ _ _ hW hF (lv_sub hl [0, 1, 2, 3, 4] rfl)
        refine q_icmp_gt (tgt := 104) hx hb dX11_choose_24 (by decide) rfl rfl (fun c1519311 => ?_) (fun c1519311 => ?_)
        · exact J1519129   _ _ _ hW hF (lv_sub hl [0, 1, 2, 3, 4] rfl)
        · refine lv_iload_n hx hb dX11_choose_27 rfl (lv_at hl 2 rfl) ?_
          refine q_if_le (tgt := 104) hx hb dX11_choose_28 (by decide) rfl (fun c1519312 => ?_) (fun c1519312 => ?_)
          · exact J1519129   _ _ _ hW hF (lv_sub hl [0, 1, 2, 3, 4] rfl)
          · refine lv_iconst (v := 0) hx hb dX11_choose_31 (by decide) ?_
            refine lv_istore (lv' := [(5, .int 0), (4, .int y1515669), (3, .int y1515671), (2, .int y1515672), (0, .ref h0), (1, .int u1)]) hx hb dX11_choose_32 hl (by decide) rfl (fun ls hl => ?_)
            have L1522669 : ∀ (n : Nat), ∀ (f1522662 : Nat → va_E) (y1522664 : Int32) (y1522666 : Int32) (y1522667 : Int32) (m1522663 : oI (f1522662 h0) 9 = y1515675) (b1522665 : (0 : Int) ≤ y1522664.toInt) (b1522668 : (0 : Int) ≤ y1522667.toInt ∧ y1522667.toInt ≤ 41) (hm : (2147483648 : Int) - y1522664.toInt ≤ n) (H : Heap) (locs : List Loc) (ls : Array Slot), WS G cI cJ cZ cD cR cT A kp L f1522662 s H locs → FM kp L ms_X11_choose f0 f1522662 → lv_has ls 8 [(5, .int y1522664), (4, .int y1515669), (3, .int y1522666), (2, .int y1522667), (0, .ref h0), (1, .int u1)] → W p l e ({ frames := 8, cells := 0, slots := 0, locals := 217 }) s m ([.ref h0, .int u1] : List Value).toArray below meth c H locs 0 0 (MQ below (QT (po_X11_choose kp L f0 h0 u1) G cI cJ cZ cD cR cT A kp L) ([.ref h0, .int u1] : List Value).toArray s 0 0 A) (F0 m 34 ls []) := by
              intro n
              induction n with
              | zero =>
                intro f1522662 y1522664 y1522666 y1522667 m1522663 b1522665 b1522668 hm H locs ls hW hF hl
                have hz := i32_b y1522664
                exfalso; omega
              | succ n ih =>
                intro f1522662 y1522664 y1522666 y1522667 m1522663 b1522665 b1522668 hm H locs ls hW hF hl
                clear b1515673 c1519312
                have ih34 := ih
                refine lv_iload hx hb dX11_choose_34 (lv_at hl 0 rfl) ?_
                refine lv_iconst (v := 1) hx hb dX11_choose_36 (by decide) ?_
                refine lv_aload_n hx hb dX11_choose_37 rfl (lv_at hl 4 rfl) ?_
                refine fg_RX11_309 E hW rh0 dX11_choose_38 (fun y1522670 m1522671 b1522672 => ?_)
                obtain rfl : y1515675 = y1522670 := (m1522663).symm.trans m1522671
                refine u_ishl hx hb dX11_choose_41 (fun x1522673 => ?_)
                have J1522716 : ∀ (H : Heap) (locs : List Loc) (ls : Array Slot), WS G cI cJ cZ cD cR cT A kp L f1522662 s H locs → FM kp L ms_X11_choose f0 f1522662 → lv_has ls 8 [(5, .int y1522664), (4, .int y1515669), (3, .int y1522666), (2, .int y1522667), (0, .ref h0), (1, .int u1)] → W p l e ({ frames := 8, cells := 0, slots := 0, locals := 217 }) s m ([.ref h0, .int u1] : List Value).toArray below meth c H locs 0 0 (MQ below (QT (po_X11_choose kp L f0 h0 u1) G cI cJ cZ cD cR cT A kp L) ([.ref h0, .int u1] : List Value).toArray s 0 0 A) (F0 m 98 ls []) := by
                  intro  H locs ls hW hF hl
                  refine q_iinc hx hb dX11_choose_98 hl (k := 1) rfl rfl rfl (by omega) (by decide) (fun i1522717 ls h1522718 hl => ?_)
                  have hl : lv_has ls 8 [(4, .int i1522717), (5, .int y1522664), (3, .int y1522666), (2, .int y1522667), (0, .ref h0), (1, .int u1)] := hl
                  refine lv_goto (tgt := 18) hx hb dX11_choose_101 (by decide) ?_
                  exact ih18 f1522662 i1522717 y1522666 y1522667 (by omega) (by omega) (by omega) _ _ _ hW hF (lv_sub hl [0, 2, 3, 4, 5] rfl)
                refine q_icmp_ge (tgt := 98) hx hb dX11_choose_42 (by decide) rfl rfl (fun c1522719 => ?_) (fun c1522719 => ?_)
                · exact J1522716   _ _ _ hW hF (lv_sub hl [0, 1, 2, 3, 4, 5] rfl)
                · have hb1522720 : y1522664.toInt ≤ 2147483646 := by have := i32_b x1522673; omega
                  refine lv_iload_n hx hb dX11_choose_45 rfl (lv_at hl 3 rfl) ?_
                  refine q_if_le (tgt := 98) hx hb dX11_choose_46 (by decide) rfl (fun c1522721 => ?_) (fun c1522721 => ?_)
                  · exact J1522716   _ _ _ hW hF (lv_sub hl [0, 1, 2, 3, 4, 5] rfl)
                  · refine lv_iload hx hb dX11_choose_49 (lv_at hl 0 rfl) ?_
                    refine t_callS (As := [.int y1522664]) (rest := []) E hW (c_J6_bitCount_0f7a4 l G cI cJ cZ cD cR cT kp L f1522662 hW.2.2.2 _ y1522664 (by omega)) wk_J6_bitCount_0f7a4 tw_1276 rfl ⟨Nat.le_of_ble_eq_true rfl, Nat.le_of_ble_eq_true rfl⟩ ⟨rfl, rfl⟩ hl.1 rfl (Nat.le_of_ble_eq_true rfl) dX11_choose_51 ⟨Nat.le_of_ble_eq_true rfl, Nat.le_of_ble_eq_true rfl⟩ (fun v1522722 f1522723 H locs q1522724 hW => ?_)
                    obtain ⟨⟨x1522726, rfl, p1522727⟩, g1522725⟩ := q1522724
                    have hF := FM.tr hF g1522725 rfl
                    refine lv_iload hx hb dX11_choose_54 (lv_at hl 1 rfl) ?_
                    have J1522746 : ∀ (f1522741 : Nat → va_E) (y1522743 : Int32) (y1522744 : Int32) (m1522742 : oI (f1522741 h0) 9 = y1515675) (b1522745 : (0 : Int) ≤ y1522744.toInt ∧ y1522744.toInt ≤ 41) (H : Heap) (locs : List Loc) (ls : Array Slot), WS G cI cJ cZ cD cR cT A kp L f1522741 s H locs → FM kp L ms_X11_choose f0 f1522741 → lv_has ls 8 [(5, .int y1522664), (4, .int y1515669), (3, .int y1522743), (2, .int y1522744), (0, .ref h0), (1, .int u1)] → W p l e ({ frames := 8, cells := 0, slots := 0, locals := 217 }) s m ([.ref h0, .int u1] : List Value).toArray below meth c H locs 0 0 (MQ below (QT (po_X11_choose kp L f0 h0 u1) G cI cJ cZ cD cR cT A kp L) ([.ref h0, .int u1] : List Value).toArray s 0 0 A) (F0 m 92 ls []) := by
                      intro f1522741 y1522743 y1522744 m1522742 b1522745 H locs ls hW hF hl
                      clear b1522668 c1522721 p1522727
                      refine q_iinc hx hb dX11_choose_92 hl (k := 0) rfl rfl rfl (by omega) (by decide) (fun i1522747 ls h1522748 hl => ?_)
                      have hl : lv_has ls 8 [(5, .int i1522747), (4, .int y1515669), (3, .int y1522743), (2, .int y1522744), (0, .ref h0), (1, .int u1)] := hl
                      refine lv_goto (tgt := 34) hx hb dX11_choose_95 (by decide) ?_
                      exact ih34 f1522741 i1522747 y1522743 y1522744 m1522742 (by omega) (by omega) (by omega) _ _ _ hW hF (lv_sub hl [0, 1, 2, 3, 4, 5] rfl)
                    refine q_icmp_eq (tgt := 62) hx hb dX11_choose_56 (by decide) rfl rfl (fun c1522749 => ?_) (fun c1522749 => ?_)
                    · refine lv_aload_n hx hb dX11_choose_62 rfl (lv_at hl 4 rfl) ?_
                      refine lv_iload hx hb dX11_choose_63 (lv_at hl 0 rfl) ?_
                      refine t_callV (As := [.int y1522664]) (rest := []) E hW (c_X11_bitsOfRow l G cI cJ cZ cD cR cT kp L f1522723 hW.2.2.2 _ h0 y1522664 rh0 (by omega)) rh0 (by decide) rfl wk_X11_bitsOfRow tw_1277 rfl ⟨Nat.le_of_ble_eq_true rfl, Nat.le_of_ble_eq_true rfl⟩ ⟨rfl, rfl⟩ hl.1 rfl (Nat.le_of_ble_eq_true rfl) dX11_choose_65 ⟨Nat.le_of_ble_eq_true rfl, Nat.le_of_ble_eq_true rfl⟩ (fun v1522750 f1522751 H locs q1522752 hW => ?_)
                      obtain ⟨⟨x1522754, rfl, p1522755⟩, g1522753⟩ := q1522752
                      clear p1522755
                      have hF := FM.tr hF g1522753 rfl
                      refine lv_istore (lv' := [(6, .int x1522754), (5, .int y1522664), (4, .int y1515669), (3, .int y1522666), (2, .int y1522667), (0, .ref h0), (1, .int u1)]) hx hb dX11_choose_68 hl (by decide) rfl (fun ls hl => ?_)
                      refine lv_aload_n hx hb dX11_choose_70 rfl (lv_at hl 5 rfl) ?_
                      refine lv_iload hx hb dX11_choose_71 (lv_at hl 0 rfl) ?_
                      refine lv_iload_n hx hb dX11_choose_73 rfl (lv_at hl 6 rfl) ?_
                      refine lv_iload_n hx hb dX11_choose_74 rfl (lv_at hl 4 rfl) ?_
                      refine t_callV (As := [.int x1522754, .int u1, .int y1522667]) (rest := []) E hW (c_X11_worstOf l G cI cJ cZ cD cR cT kp L f1522751 hW.2.2.2 _ h0 x1522754 u1 y1522667 rh0 (by omega)) rh0 (by decide) rfl wk_X11_worstOf tw_1281 rfl ⟨Nat.le_of_ble_eq_true rfl, Nat.le_of_ble_eq_true rfl⟩ ⟨rfl, rfl⟩ hl.1 rfl (Nat.le_of_ble_eq_true rfl) dX11_choose_75 ⟨Nat.le_of_ble_eq_true rfl, Nat.le_of_ble_eq_true rfl⟩ (fun v1522756 f1522757 H locs q1522758 hW => ?_)
                      obtain ⟨⟨x1522760, rfl, p1522761⟩, g1522759⟩ := q1522758
                      have hF := FM.tr hF g1522759 rfl
                      refine lv_istore (lv' := [(7, .int x1522760), (6, .int x1522754), (5, .int y1522664), (4, .int y1515669), (3, .int y1522666), (2, .int y1522667), (0, .ref h0), (1, .int u1)]) hx hb dX11_choose_78 hl (by decide) rfl (fun ls hl => ?_)
                      refine lv_iload hx hb dX11_choose_80 (lv_at hl 0 rfl) ?_
                      refine lv_iload_n hx hb dX11_choose_82 rfl (lv_at hl 5 rfl) ?_
                      refine q_icmp_ge (tgt := 92) hx hb dX11_choose_83 (by decide) rfl rfl (fun c1522762 => ?_) (fun c1522762 => ?_)
                      · exact J1522746 f1522757 y1522666 y1522667 ((fm_I g1522759 rh0 rfl).trans ((fm_I g1522753 rh0 rfl).trans ((fm_I g1522725 rh0 rfl).trans m1522671))) (by omega) _ _ _ hW hF (lv_sub hl [2, 3, 4, 5, 6, 7] rfl)
                      · refine lv_iload hx hb dX11_choose_86 (lv_at hl 0 rfl) ?_
                        refine lv_istore_n (lv' := [(2, .int x1522760), (7, .int x1522760), (6, .int x1522754), (5, .int y1522664), (4, .int y1515669), (3, .int y1522666), (0, .ref h0), (1, .int u1)]) hx hb dX11_choose_88 rfl hl (by decide) rfl (fun ls hl => ?_)
                        refine lv_iload hx hb dX11_choose_89 (lv_at hl 2 rfl) ?_
                        refine lv_istore_n (lv' := [(3, .int x1522754), (2, .int x1522760), (7, .int x1522760), (6, .int x1522754), (5, .int y1522664), (4, .int y1515669), (0, .ref h0), (1, .int u1)]) hx hb dX11_choose_91 rfl hl (by decide) rfl (fun ls hl => ?_)
                        exact J1522746 f1522757 x1522754 x1522760 ((fm_I g1522759 rh0 rfl).trans ((fm_I g1522753 rh0 rfl).trans ((fm_I g1522725 rh0 rfl).trans m1522671))) (by omega) _ _ _ hW hF (lv_sub hl [4, 5, 0, 1, 6, 7] rfl)
                    · refine lv_goto (tgt := 92) hx hb dX11_choose_59 (by decide) ?_
                      exact J1522746 f1522723 y1522666 y1522667 ((fm_I g1522725 rh0 rfl).trans m1522671) (by omega) _ _ _ hW hF (lv_sub hl [0, 1, 2, 3, 4, 5] rfl)
            have hk1522763 : (0 : Int32).toInt = 0 := rfl
            exact L1522669 2147483648 f1515668 0 y1515671 y1515672 m1515676 (by decide) (by omega) (by omega) _ _ _ hW hF (lv_sub hl [0, 1, 2, 3, 4, 5] rfl)
    have hk1522764 : (0 : Int32).toInt = 0 := rfl
    have hk1522765 : (0 : Int32).toInt = 0 := rfl
    have hk1522766 : (41 : Int32).toInt = 41 := rfl
    exact L1515674 8 f1487972 0 0 41 (by decide) (by decide) (by omega) _ _ _ hW hF (lv_sub hl [0, 1, 2, 3, 4] rfl)
  · refine lv_iconst (v := (-1)) hx hb dX11_choose_8 (by decide) ?_
    exact e_I E hW rfl ⟨⟨_, rfl, (by have hk : ((-1) : Int32).toInt = -1 := rfl; first | decide | omega)⟩, hF⟩ dX11_choose_9
def ms_X11_chosen : List (Nat × Nat) := []
def po_X11_chosen (kp : Nat → Nat) (L : List Nat) (f0 : Nat → va_E) (h0 : Nat) (u1 : Int32) : Option Value → (Nat → va_E) → Prop := fun v f => (∃ r : Int32, v = some (.int r) ∧ (True)) ∧ FM kp L ms_X11_chosen f0 f
set_option maxHeartbeats 4000000 in
set_option maxRecDepth 100000 in
theorem c_X11_chosen (l : Launch) (G : va_G) (cI cJ cZ cD cR cT : ClassId) (kp : Nat → Nat) (L : List Nat) (f0 : Nat → va_E) (hTH : TH cI cJ cZ cD cR cT kp L f0) (sz : Nat) (h0 : Nat) (u1 : Int32) (rh0 : RK kp L h0 11) : Met l yX11_chosen (Cond.code yX11_chosen cX11_chosen 2 (some .int) :: wTab) ({ frames := 2, cells := 0, slots := 0, locals := 62 }) (va_Pc [.ref h0, .int u1] (PreW G (tys6 cI cJ cZ cD cR cT) (va_pl L f0) sz)) (QT (po_X11_chosen kp L f0 h0 u1) G cI cJ cZ cD cR cT (va_A (va_pl L f0) sz) kp L) 0 0 (va_A (va_pl L f0) sz) := by
  refine metT (by decide) (Nat.le_of_ble_eq_true rfl) hTH ?_
  intro p e s m below meth c A ls E hW hl
  obtain ⟨hx, hb, -, hml, hown, hts, -, -, -⟩ := id E
  have hF : FM kp L ms_X11_chosen f0 f0 := FM.rf
  have hl : lv_has ls 2 [(0, .ref h0), (1, .int u1)] := hl
  refine lv_iload_n hx hb dX11_chosen_0 rfl (lv_at hl 1 rfl) ?_
  refine lv_iconst (v := 0) hx hb dX11_chosen_1 (by decide) ?_
  refine lv_aload_n hx hb dX11_chosen_2 rfl (lv_at hl 0 rfl) ?_
  refine fg_RX11_329 E hW rh0 dX11_chosen_3 (fun y1522767 m1522768 b1522769 => ?_)
  refine lv_iconst (v := 1) hx hb dX11_chosen_6 (by decide) ?_
  refine q_isub (Y := 1) hx hb dX11_chosen_7 rfl rfl (by omega) (fun x1522770 h1522771 => ?_)
  refine t_callS (As := [.int u1, .int 0, .int x1522770]) (rest := []) E hW (c_X11_within l G cI cJ cZ cD cR cT kp L f0 hW.2.2.2 _ u1 0 x1522770 (by decide)) wk_X11_within tw_599 rfl ⟨Nat.le_of_ble_eq_true rfl, Nat.le_of_ble_eq_true rfl⟩ ⟨rfl, rfl⟩ hl.1 rfl (Nat.le_of_ble_eq_true rfl) dX11_chosen_8 ⟨Nat.le_of_ble_eq_true rfl, Nat.le_of_ble_eq_true rfl⟩ (fun v1522772 f1522773 H locs q1522774 hW => ?_)
  obtain ⟨⟨x1522776, rfl, p1522777⟩, g1522775⟩ := q1522774
  have p1522777 : (x1522776.toInt = 1 ∧ 0 ≤ u1.toInt ∧ u1.toInt ≤ x1522770.toInt) ∨ (x1522776.toInt = 0 ∧ (u1.toInt < 0 ∨ x1522770.toInt < u1.toInt)) := p1522777
  have hF := FM.tr hF g1522775 rfl
  have J1522785 : ∀ (y1522784 : Int32) (H : Heap) (locs : List Loc) (ls : Array Slot), WS G cI cJ cZ cD cR cT A kp L f1522773 s H locs → FM kp L ms_X11_chosen f0 f1522773 → lv_has ls 2 [(0, .ref h0), (1, .int u1)] → W p l e ({ frames := 2, cells := 0, slots := 0, locals := 62 }) s m ([.ref h0, .int u1] : List Value).toArray below meth c H locs 0 0 (MQ below (QT (po_X11_chosen kp L f0 h0 u1) G cI cJ cZ cD cR cT A kp L) ([.ref h0, .int u1] : List Value).toArray s 0 0 A) (F0 m 24 ls [.int y1522784]) := by
    intro y1522784 H locs ls hW hF hl
    exact e_I E hW rfl ⟨⟨_, rfl, trivial⟩, hF⟩ dX11_chosen_24
  refine q_if_eq (tgt := 23) hx hb dX11_chosen_11 (by decide) rfl (fun c1522786 => ?_) (fun c1522786 => ?_)
  · have q1522787 : (u1.toInt < 0 ∨ x1522770.toInt < u1.toInt) := by omega
    clear p1522777
    refine lv_iconst (v := (-1)) hx hb dX11_chosen_23 (by decide) ?_
    exact J1522785 (-1)  _ _ _ hW hF (lv_sub hl [0, 1] rfl)
  · have q1522788 : 0 ≤ u1.toInt ∧ u1.toInt ≤ x1522770.toInt := by omega
    clear p1522777
    refine lv_aload_n hx hb dX11_chosen_14 rfl (lv_at hl 0 rfl) ?_
    refine fg_RX11_51 E hW rh0 dX11_chosen_15 (fun a1522789 m1522790 r1522791 => ?_)
    refine lv_iload_n hx hb dX11_chosen_18 rfl (lv_at hl 1 rfl) ?_
    refine gl_773 E hW r1522791 ⟨by omega, by omega⟩ dX11_chosen_19 (fun y1522792 m1522793 => ?_)
    refine lv_goto (tgt := 24) hx hb dX11_chosen_20 (by decide) ?_
    exact J1522785 y1522792  _ _ _ hW hF (lv_sub hl [0, 1] rfl)
def ms_X11_clear : List (Nat × Nat) := [(11, 9), (11, 12)]
def po_X11_clear (kp : Nat → Nat) (L : List Nat) (f0 : Nat → va_E) (h0 : Nat) : Option Value → (Nat → va_E) → Prop := fun v f => (∃ r : Int32, v = some (.int r) ∧ ((0 : Int) ≤ r.toInt ∧ r.toInt ≤ 6)) ∧ FM kp L ms_X11_clear f0 f
set_option maxHeartbeats 4000000 in
set_option maxRecDepth 100000 in
theorem c_X11_clear (l : Launch) (G : va_G) (cI cJ cZ cD cR cT : ClassId) (kp : Nat → Nat) (L : List Nat) (f0 : Nat → va_E) (hTH : TH cI cJ cZ cD cR cT kp L f0) (sz : Nat) (h0 : Nat) (rh0 : RK kp L h0 11) : Met l yX11_clear (Cond.code yX11_clear cX11_clear 2 (some .int) :: wTab) ({ frames := 1, cells := 0, slots := 0, locals := 40 }) (va_Pc [.ref h0] (PreW G (tys6 cI cJ cZ cD cR cT) (va_pl L f0) sz)) (QT (po_X11_clear kp L f0 h0) G cI cJ cZ cD cR cT (va_A (va_pl L f0) sz) kp L) 0 0 (va_A (va_pl L f0) sz) := by
  refine metT (by decide) (Nat.le_of_ble_eq_true rfl) hTH ?_
  intro p e s m below meth c A ls E hW hl
  obtain ⟨hx, hb, -, hml, hown, hts, -, -, -⟩ := id E
  have hF : FM kp L ms_X11_clear f0 f0 := FM.rf
  have hl : lv_has ls 2 [(0, .ref h0)] := hl
  refine lv_aload_n hx hb dX11_clear_0 rfl (lv_at hl 0 rfl) ?_
  refine fg_RX11_309 E hW rh0 dX11_clear_1 (fun y1522795 m1522796 b1522797 => ?_)
  refine lv_istore_n (lv' := [(1, .int y1522795), (0, .ref h0)]) hx hb dX11_clear_4 rfl hl (by decide) rfl (fun ls hl => ?_)
  refine lv_aload_n hx hb dX11_clear_5 rfl (lv_at hl 1 rfl) ?_
  refine lv_iconst (v := 0) hx hb dX11_clear_6 (by decide) ?_
  refine fp_RX11_309 E hW rh0 (by decide) dX11_clear_7 (fun f1522798 H locs e1522799 n1522800 g1522801 hW => ?_)
  have hF := FM.tr hF g1522801 rfl
  refine lv_aload_n hx hb dX11_clear_10 rfl (lv_at hl 1 rfl) ?_
  refine lv_iconst (v := 0) hx hb dX11_clear_11 (by decide) ?_
  refine fp_RX11_312 E hW rh0 (by decide) dX11_clear_12 (fun f1522802 H locs e1522803 n1522804 g1522805 hW => ?_)
  have hF := FM.tr hF g1522805 rfl
  refine lv_iload_n hx hb dX11_clear_15 rfl (lv_at hl 0 rfl) ?_
  exact e_I E hW rfl ⟨⟨_, rfl, (by first | omega | trivial)⟩, hF⟩ dX11_clear_16
def ms_X11_coin : List (Nat × Nat) := [(11, 15), (342, 0)]
def po_X11_coin (kp : Nat → Nat) (L : List Nat) (f0 : Nat → va_E) (h0 : Nat) (u1 : Int32) (u2 : Int32) : Option Value → (Nat → va_E) → Prop := fun v f => (∃ r : Int32, v = some (.int r) ∧ (True)) ∧ FM kp L ms_X11_coin f0 f
set_option maxHeartbeats 4000000 in
set_option maxRecDepth 100000 in
theorem c_X11_coin (l : Launch) (G : va_G) (cI cJ cZ cD cR cT : ClassId) (kp : Nat → Nat) (L : List Nat) (f0 : Nat → va_E) (hTH : TH cI cJ cZ cD cR cT kp L f0) (sz : Nat) (h0 : Nat) (u1 : Int32) (u2 : Int32) (rh0 : RK kp L h0 11) : Met l yX11_coin (Cond.code yX11_coin cX11_coin 4 (some .int) :: wTab) ({ frames := 2, cells := 0, slots := 0, locals := 82 }) (va_Pc [.ref h0, .int u1, .int u2] (PreW G (tys6 cI cJ cZ cD cR cT) (va_pl L f0) sz)) (QT (po_X11_coin kp L f0 h0 u1 u2) G cI cJ cZ cD cR cT (va_A (va_pl L f0) sz) kp L) 0 0 (va_A (va_pl L f0) sz) := by
  refine metT (by decide) (Nat.le_of_ble_eq_true rfl) hTH ?_
  intro p e s m below meth c A ls E hW hl
  obtain ⟨hx, hb, -, hml, hown, hts, -, -, -⟩ := id E
  have hF : FM kp L ms_X11_coin f0 f0 := FM.rf
  have hl : lv_has ls 4 [(0, .ref h0), (1, .int u1), (2, .int u2)] := hl
  refine lv_aload_n hx hb dX11_coin_0 rfl (lv_at hl 0 rfl) ?_
  refine fg_RX11_12 E hW rh0 dX11_coin_1 (fun a1522806 m1522807 r1522808 => ?_)
  refine fg_RX11_63 E hW r1522808 dX11_coin_4 (fun a1522809 m1522810 r1522811 => ?_)
  refine lv_astore_n (lv' := [(3, .ref a1522809), (0, .ref h0), (1, .int u1), (2, .int u2)]) hx hb dX11_coin_7 rfl hl (by decide) rfl (fun ls hl => ?_)
  refine lv_iload_n hx hb dX11_coin_8 rfl (lv_at hl 3 rfl) ?_
  refine lv_iconst (v := 0) hx hb dX11_coin_9 (by decide) ?_
  refine lv_ldc (v := 1000000) hx hb hown (hts _ tw_602) dX11_coin_10 ?_
  refine t_callS (As := [.int u2, .int 0, .int 1000000]) (rest := []) E hW (c_X11_within l G cI cJ cZ cD cR cT kp L f0 hW.2.2.2 _ u2 0 1000000 (by decide)) wk_X11_within tw_599 rfl ⟨Nat.le_of_ble_eq_true rfl, Nat.le_of_ble_eq_true rfl⟩ ⟨rfl, rfl⟩ hl.1 rfl (Nat.le_of_ble_eq_true rfl) dX11_coin_12 ⟨Nat.le_of_ble_eq_true rfl, Nat.le_of_ble_eq_true rfl⟩ (fun v1522812 f1522813 H locs q1522814 hW => ?_)
  obtain ⟨⟨x1522816, rfl, p1522817⟩, g1522815⟩ := q1522814
  have p1522817 : (x1522816.toInt = 1 ∧ 0 ≤ u2.toInt ∧ u2.toInt ≤ 1000000) ∨ (x1522816.toInt = 0 ∧ (u2.toInt < 0 ∨ 1000000 < u2.toInt)) := p1522817
  have hF := FM.tr hF g1522815 rfl
  refine q_if_ne (tgt := 24) hx hb dX11_coin_15 (by decide) rfl (fun c1522818 => ?_) (fun c1522818 => ?_)
  · have q1522819 : 0 ≤ u2.toInt ∧ u2.toInt ≤ 1000000 := by omega
    clear p1522817
    refine lv_aload_n hx hb dX11_coin_24 rfl (lv_at hl 0 rfl) ?_
    refine lv_iload_n hx hb dX11_coin_25 rfl (lv_at hl 2 rfl) ?_
    refine t_callV (As := [.int u1]) (rest := []) E hW (c_X4_has l G cI cJ cZ cD cR cT kp L f1522813 hW.2.2.2 _ a1522809 u1 r1522811) r1522811 (by decide) rfl wk_X4_has tw_619 rfl ⟨Nat.le_of_ble_eq_true rfl, Nat.le_of_ble_eq_true rfl⟩ ⟨rfl, rfl⟩ hl.1 rfl (Nat.le_of_ble_eq_true rfl) dX11_coin_26 ⟨Nat.le_of_ble_eq_true rfl, Nat.le_of_ble_eq_true rfl⟩ (fun v1522820 f1522821 H locs q1522822 hW => ?_)
    obtain ⟨⟨x1522824, rfl, p1522825⟩, g1522823⟩ := q1522822
    have hF := FM.tr hF g1522823 rfl
    refine q_if_ne (tgt := 39) hx hb dX11_coin_29 (by decide) rfl (fun c1522826 => ?_) (fun c1522826 => ?_)
    · have q1522827 : 0 ≤ u1.toInt ∧ u1.toInt ≤ 39 := by omega
      clear p1522825
      refine lv_aload_n hx hb dX11_coin_39 rfl (lv_at hl 0 rfl) ?_
      refine lv_iload_n hx hb dX11_coin_40 rfl (lv_at hl 2 rfl) ?_
      refine lv_iload_n hx hb dX11_coin_41 rfl (lv_at hl 3 rfl) ?_
      refine t_callV (As := [.int u1, .int u2]) (rest := []) E hW (c_X4_gain l G cI cJ cZ cD cR cT kp L f1522821 hW.2.2.2 _ a1522809 u1 u2 r1522811 (by omega) (by omega)) r1522811 (by decide) rfl wk_X4_gain tw_631 rfl ⟨Nat.le_of_ble_eq_true rfl, Nat.le_of_ble_eq_true rfl⟩ ⟨rfl, rfl⟩ hl.1 rfl (Nat.le_of_ble_eq_true rfl) dX11_coin_42 ⟨Nat.le_of_ble_eq_true rfl, Nat.le_of_ble_eq_true rfl⟩ (fun v1522828 f1522829 H locs q1522830 hW => ?_)
      obtain ⟨rfl, g1522831⟩ := q1522830
      have hF := FM.tr hF g1522831 rfl
      refine lv_aload_n hx hb dX11_coin_45 rfl (lv_at hl 1 rfl) ?_
      refine lv_aload_n hx hb dX11_coin_46 rfl (lv_at hl 0 rfl) ?_
      refine fg_RX11_94 E hW r1522811 dX11_coin_47 (fun a1522832 m1522833 r1522834 => ?_)
      refine lv_iload_n hx hb dX11_coin_50 rfl (lv_at hl 2 rfl) ?_
      refine gl_342 E hW r1522834 ⟨by omega, by omega⟩ dX11_coin_51 (fun y1522835 m1522836 => ?_)
      refine t_callV (As := [.int y1522835]) (rest := []) E hW (c_X11_accept l G cI cJ cZ cD cR cT kp L f1522829 hW.2.2.2 _ h0 y1522835 rh0) rh0 (by decide) rfl wk_X11_accept tw_611 rfl ⟨Nat.le_of_ble_eq_true rfl, Nat.le_of_ble_eq_true rfl⟩ ⟨rfl, rfl⟩ hl.1 rfl (Nat.le_of_ble_eq_true rfl) dX11_coin_52 ⟨Nat.le_of_ble_eq_true rfl, Nat.le_of_ble_eq_true rfl⟩ (fun v1522838 f1522839 H locs q1522840 hW => ?_)
      obtain ⟨⟨x1522842, rfl, p1522843⟩, g1522841⟩ := q1522840
      clear p1522843
      have hF := FM.tr hF g1522841 rfl
      exact e_I E hW rfl ⟨⟨_, rfl, trivial⟩, hF⟩ dX11_coin_55
    · clear p1522825
      refine lv_aload_n hx hb dX11_coin_32 rfl (lv_at hl 1 rfl) ?_
      refine lv_bipush (v := (-2)) hx hb dX11_coin_33 (by decide) ?_
      refine t_callV (As := [.int (-2)]) (rest := []) E hW (c_X11_refuse l G cI cJ cZ cD cR cT kp L f1522821 hW.2.2.2 _ h0 (-2) rh0 (by decide)) rh0 (by decide) rfl wk_X11_refuse tw_603 rfl ⟨Nat.le_of_ble_eq_true rfl, Nat.le_of_ble_eq_true rfl⟩ ⟨rfl, rfl⟩ hl.1 rfl (Nat.le_of_ble_eq_true rfl) dX11_coin_35 ⟨Nat.le_of_ble_eq_true rfl, Nat.le_of_ble_eq_true rfl⟩ (fun v1522844 f1522845 H locs q1522846 hW => ?_)
      obtain ⟨⟨x1522848, rfl, p1522849⟩, g1522847⟩ := q1522846
      have p1522849 : (-6 : Int) ≤ x1522848.toInt ∧ x1522848.toInt ≤ -1 := p1522849
      have hF := FM.tr hF g1522847 rfl
      exact e_I E hW rfl ⟨⟨_, rfl, trivial⟩, hF⟩ dX11_coin_38
  · have q1522850 : (u2.toInt < 0 ∨ 1000000 < u2.toInt) := by omega
    clear p1522817
    refine lv_aload_n hx hb dX11_coin_18 rfl (lv_at hl 1 rfl) ?_
    refine lv_iconst (v := (-1)) hx hb dX11_coin_19 (by decide) ?_
    refine t_callV (As := [.int (-1)]) (rest := []) E hW (c_X11_refuse l G cI cJ cZ cD cR cT kp L f1522813 hW.2.2.2 _ h0 (-1) rh0 (by decide)) rh0 (by decide) rfl wk_X11_refuse tw_603 rfl ⟨Nat.le_of_ble_eq_true rfl, Nat.le_of_ble_eq_true rfl⟩ ⟨rfl, rfl⟩ hl.1 rfl (Nat.le_of_ble_eq_true rfl) dX11_coin_20 ⟨Nat.le_of_ble_eq_true rfl, Nat.le_of_ble_eq_true rfl⟩ (fun v1522851 f1522852 H locs q1522853 hW => ?_)
    obtain ⟨⟨x1522855, rfl, p1522856⟩, g1522854⟩ := q1522853
    have p1522856 : (-6 : Int) ≤ x1522855.toInt ∧ x1522855.toInt ≤ -1 := p1522856
    have hF := FM.tr hF g1522854 rfl
    exact e_I E hW rfl ⟨⟨_, rfl, trivial⟩, hF⟩ dX11_coin_23
def ms_X11_count : List (Nat × Nat) := []
def po_X11_count (kp : Nat → Nat) (L : List Nat) (f0 : Nat → va_E) (h0 : Nat) (u1 : Int32) : Option Value → (Nat → va_E) → Prop := fun v f => (∃ r : Int32, v = some (.int r) ∧ (True)) ∧ FM kp L ms_X11_count f0 f
set_option maxHeartbeats 4000000 in
set_option maxRecDepth 100000 in
theorem c_X11_count (l : Launch) (G : va_G) (cI cJ cZ cD cR cT : ClassId) (kp : Nat → Nat) (L : List Nat) (f0 : Nat → va_E) (hTH : TH cI cJ cZ cD cR cT kp L f0) (sz : Nat) (h0 : Nat) (u1 : Int32) (rh0 : RK kp L h0 11) : Met l yX11_count (Cond.code yX11_count cX11_count 2 (some .int) :: wTab) ({ frames := 1, cells := 0, slots := 0, locals := 40 }) (va_Pc [.ref h0, .int u1] (PreW G (tys6 cI cJ cZ cD cR cT) (va_pl L f0) sz)) (QT (po_X11_count kp L f0 h0 u1) G cI cJ cZ cD cR cT (va_A (va_pl L f0) sz) kp L) 0 0 (va_A (va_pl L f0) sz) := by
  refine metT (by decide) (Nat.le_of_ble_eq_true rfl) hTH ?_
  intro p e s m below meth c A ls E hW hl
  obtain ⟨hx, hb, -, hml, hown, hts, -, -, -⟩ := id E
  have hF : FM kp L ms_X11_count f0 f0 := FM.rf
  have hl : lv_has ls 2 [(0, .ref h0), (1, .int u1)] := hl
  refine lv_iload_n hx hb dX11_count_0 rfl (lv_at hl 1 rfl) ?_
  by_cases c1522857 : u1.toInt = 0
  · refine lv_tableIn (tgt := 56) hx hb dX11_count_1 (by omega) (by omega) (by rw [c1522857]; rfl) (by decide) ?_
    refine lv_aload_n hx hb dX11_count_56 rfl (lv_at hl 0 rfl) ?_
    refine fg_RX11_12 E hW rh0 dX11_count_57 (fun a1522858 m1522859 r1522860 => ?_)
    refine fg_RX11_255 E hW r1522860 dX11_count_60 (fun y1522861 m1522862 b1522863 => ?_)
    exact e_I E hW rfl ⟨⟨_, rfl, trivial⟩, hF⟩ dX11_count_63
  by_cases c1522864 : u1.toInt = 1
  · refine lv_tableIn (tgt := 64) hx hb dX11_count_1 (by omega) (by omega) (by rw [c1522864]; rfl) (by decide) ?_
    refine lv_aload_n hx hb dX11_count_64 rfl (lv_at hl 0 rfl) ?_
    refine fg_RX11_12 E hW rh0 dX11_count_65 (fun a1522865 m1522866 r1522867 => ?_)
    refine fg_RX11_63 E hW r1522867 dX11_count_68 (fun a1522868 m1522869 r1522870 => ?_)
    refine fg_RX11_67 E hW r1522870 dX11_count_71 (fun y1522871 m1522872 b1522873 => ?_)
    exact e_I E hW rfl ⟨⟨_, rfl, trivial⟩, hF⟩ dX11_count_74
  by_cases c1522874 : u1.toInt = 2
  · refine lv_tableIn (tgt := 75) hx hb dX11_count_1 (by omega) (by omega) (by rw [c1522874]; rfl) (by decide) ?_
    refine lv_aload_n hx hb dX11_count_75 rfl (lv_at hl 0 rfl) ?_
    refine fg_RX11_12 E hW rh0 dX11_count_76 (fun a1522875 m1522876 r1522877 => ?_)
    refine fg_RX11_114 E hW r1522877 dX11_count_79 (fun a1522878 m1522879 r1522880 => ?_)
    refine fg_RX11_118 E hW r1522880 dX11_count_82 (fun y1522881 m1522882 b1522883 => ?_)
    exact e_I E hW rfl ⟨⟨_, rfl, trivial⟩, hF⟩ dX11_count_85
  by_cases c1522884 : u1.toInt = 3
  · refine lv_tableIn (tgt := 86) hx hb dX11_count_1 (by omega) (by omega) (by rw [c1522884]; rfl) (by decide) ?_
    refine lv_aload_n hx hb dX11_count_86 rfl (lv_at hl 0 rfl) ?_
    refine fg_RX11_12 E hW rh0 dX11_count_87 (fun a1522885 m1522886 r1522887 => ?_)
    refine fg_RX11_114 E hW r1522887 dX11_count_90 (fun a1522888 m1522889 r1522890 => ?_)
    refine fg_RX11_130 E hW r1522890 dX11_count_93 (fun y1522891 m1522892 b1522893 => ?_)
    exact e_I E hW rfl ⟨⟨_, rfl, trivial⟩, hF⟩ dX11_count_96
  by_cases c1522894 : u1.toInt = 4
  · refine lv_tableIn (tgt := 97) hx hb dX11_count_1 (by omega) (by omega) (by rw [c1522894]; rfl) (by decide) ?_
    refine lv_aload_n hx hb dX11_count_97 rfl (lv_at hl 0 rfl) ?_
    refine fg_RX11_12 E hW rh0 dX11_count_98 (fun a1522895 m1522896 r1522897 => ?_)
    refine fg_RX11_219 E hW r1522897 dX11_count_101 (fun a1522898 m1522899 r1522900 => ?_)
    refine fg_RX11_223 E hW r1522900 dX11_count_104 (fun y1522901 m1522902 b1522903 => ?_)
    exact e_I E hW rfl ⟨⟨_, rfl, trivial⟩, hF⟩ dX11_count_107
  by_cases c1522904 : u1.toInt = 5
  · refine lv_tableIn (tgt := 108) hx hb dX11_count_1 (by omega) (by omega) (by rw [c1522904]; rfl) (by decide) ?_
    refine lv_aload_n hx hb dX11_count_108 rfl (lv_at hl 0 rfl) ?_
    refine fg_RX11_12 E hW rh0 dX11_count_109 (fun a1522905 m1522906 r1522907 => ?_)
    refine fg_RX11_170 E hW r1522907 dX11_count_112 (fun a1522908 m1522909 r1522910 => ?_)
    refine fg_RX11_251 E hW r1522910 dX11_count_115 (fun y1522911 m1522912 b1522913 => ?_)
    exact e_I E hW rfl ⟨⟨_, rfl, trivial⟩, hF⟩ dX11_count_118
  by_cases c1522914 : u1.toInt = 6
  · refine lv_tableIn (tgt := 119) hx hb dX11_count_1 (by omega) (by omega) (by rw [c1522914]; rfl) (by decide) ?_
    refine lv_aload_n hx hb dX11_count_119 rfl (lv_at hl 0 rfl) ?_
    refine fg_RX11_12 E hW rh0 dX11_count_120 (fun a1522915 m1522916 r1522917 => ?_)
    refine fg_RX11_98 E hW r1522917 dX11_count_123 (fun a1522918 m1522919 r1522920 => ?_)
    refine fg_RX11_288 E hW r1522920 dX11_count_126 (fun y1522921 m1522922 => ?_)
    exact e_I E hW rfl ⟨⟨_, rfl, trivial⟩, hF⟩ dX11_count_129
  by_cases c1522924 : u1.toInt = 7
  · refine lv_tableIn (tgt := 130) hx hb dX11_count_1 (by omega) (by omega) (by rw [c1522924]; rfl) (by decide) ?_
    refine lv_aload_n hx hb dX11_count_130 rfl (lv_at hl 0 rfl) ?_
    refine fg_RX11_12 E hW rh0 dX11_count_131 (fun a1522925 m1522926 r1522927 => ?_)
    refine fg_RX11_98 E hW r1522927 dX11_count_134 (fun a1522928 m1522929 r1522930 => ?_)
    refine fg_RX11_297 E hW r1522930 dX11_count_137 (fun y1522931 m1522932 b1522933 => ?_)
    exact e_I E hW rfl ⟨⟨_, rfl, trivial⟩, hF⟩ dX11_count_140
  by_cases c1522934 : u1.toInt = 8
  · refine lv_tableIn (tgt := 141) hx hb dX11_count_1 (by omega) (by omega) (by rw [c1522934]; rfl) (by decide) ?_
    refine lv_aload_n hx hb dX11_count_141 rfl (lv_at hl 0 rfl) ?_
    refine fg_RX11_309 E hW rh0 dX11_count_142 (fun y1522935 m1522936 b1522937 => ?_)
    exact e_I E hW rfl ⟨⟨_, rfl, trivial⟩, hF⟩ dX11_count_145
  by_cases c1522938 : u1.toInt = 9
  · refine lv_tableIn (tgt := 146) hx hb dX11_count_1 (by omega) (by omega) (by rw [c1522938]; rfl) (by decide) ?_
    refine lv_aload_n hx hb dX11_count_146 rfl (lv_at hl 0 rfl) ?_
    refine fg_RX11_30 E hW rh0 dX11_count_147 (fun a1522939 m1522940 r1522941 => ?_)
    refine fg_RX11_209 E hW r1522941 dX11_count_150 (fun y1522942 m1522943 b1522944 => ?_)
    exact e_I E hW rfl ⟨⟨_, rfl, trivial⟩, hF⟩ dX11_count_153
  refine lv_tableOut (tgt := 154) hx hb dX11_count_1 (by omega) (by decide) ?_
  refine lv_iconst (v := (-1)) hx hb dX11_count_154 (by decide) ?_
  exact e_I E hW rfl ⟨⟨_, rfl, trivial⟩, hF⟩ dX11_count_155
def ms_X11_isWeek : List (Nat × Nat) := []
def po_X11_isWeek (kp : Nat → Nat) (L : List Nat) (f0 : Nat → va_E) (u1 : Int32) : Option Value → (Nat → va_E) → Prop := fun v f => (∃ r : Int32, v = some (.int r) ∧ ((r.toInt = 1 ∧ 0 ≤ u1.toInt ∧ u1.toInt ≤ 399) ∨ (r.toInt = 0 ∧ (u1.toInt < 0 ∨ 399 < u1.toInt)))) ∧ FM kp L ms_X11_isWeek f0 f
set_option maxHeartbeats 4000000 in
set_option maxRecDepth 100000 in
theorem c_X11_isWeek (l : Launch) (G : va_G) (cI cJ cZ cD cR cT : ClassId) (kp : Nat → Nat) (L : List Nat) (f0 : Nat → va_E) (hTH : TH cI cJ cZ cD cR cT kp L f0) (sz : Nat) (u1 : Int32) : Met l yX11_isWeek (Cond.code yX11_isWeek cX11_isWeek 1 (some .boolean) :: wTab) ({ frames := 1, cells := 0, slots := 0, locals := 40 }) (va_Pc [.int u1] (PreW G (tys6 cI cJ cZ cD cR cT) (va_pl L f0) sz)) (QT (po_X11_isWeek kp L f0 u1) G cI cJ cZ cD cR cT (va_A (va_pl L f0) sz) kp L) 0 0 (va_A (va_pl L f0) sz) := by
  refine metT (by decide) (Nat.le_of_ble_eq_true rfl) hTH ?_
  intro p e s m below meth c A ls E hW hl
  obtain ⟨hx, hb, -, hml, hown, hts, -, -, -⟩ := id E
  have hF : FM kp L ms_X11_isWeek f0 f0 := FM.rf
  have hl : lv_has ls 1 [(0, .int u1)] := hl
  refine lv_iload_n hx hb dX11_isWeek_0 rfl (lv_at hl 0 rfl) ?_
  refine q_if_lt (tgt := 15) hx hb dX11_isWeek_1 (by decide) rfl (fun c1522945 => ?_) (fun c1522945 => ?_)
  · refine lv_iconst (v := 0) hx hb dX11_isWeek_15 (by decide) ?_
    exact e_Z E hW rfl (by decide) ⟨⟨_, rfl, (by have hk : (0 : Int32).toInt = 0 := rfl; first | decide | omega)⟩, hF⟩ dX11_isWeek_16
  · refine lv_iload_n hx hb dX11_isWeek_4 rfl (lv_at hl 0 rfl) ?_
    refine lv_sipush (v := 399) hx hb dX11_isWeek_5 (by decide) ?_
    refine q_icmp_gt (Y := 399) (tgt := 15) hx hb dX11_isWeek_8 (by decide) rfl rfl (fun c1522946 => ?_) (fun c1522946 => ?_)
    · refine lv_iconst (v := 0) hx hb dX11_isWeek_15 (by decide) ?_
      exact e_Z E hW rfl (by decide) ⟨⟨_, rfl, (by have hk : (0 : Int32).toInt = 0 := rfl; first | decide | omega)⟩, hF⟩ dX11_isWeek_16
    · refine lv_iconst (v := 1) hx hb dX11_isWeek_11 (by decide) ?_
      refine lv_goto (tgt := 16) hx hb dX11_isWeek_12 (by decide) ?_
      exact e_Z E hW rfl (by decide) ⟨⟨_, rfl, (by have hk : (1 : Int32).toInt = 1 := rfl; first | decide | omega)⟩, hF⟩ dX11_isWeek_16
def ms_X11_crop : List (Nat × Nat) := []
def po_X11_crop (kp : Nat → Nat) (L : List Nat) (f0 : Nat → va_E) (h0 : Nat) (u1 : Int32) (u2 : Int32) : Option Value → (Nat → va_E) → Prop := fun v f => (∃ r : Int32, v = some (.int r) ∧ (True)) ∧ FM kp L ms_X11_crop f0 f
set_option maxHeartbeats 4000000 in
set_option maxRecDepth 100000 in
theorem c_X11_crop (l : Launch) (G : va_G) (cI cJ cZ cD cR cT : ClassId) (kp : Nat → Nat) (L : List Nat) (f0 : Nat → va_E) (hTH : TH cI cJ cZ cD cR cT kp L f0) (sz : Nat) (h0 : Nat) (u1 : Int32) (u2 : Int32) (rh0 : RK kp L h0 11) : Met l yX11_crop (Cond.code yX11_crop cX11_crop 3 (some .int) :: wTab) ({ frames := 2, cells := 0, slots := 0, locals := 63 }) (va_Pc [.ref h0, .int u1, .int u2] (PreW G (tys6 cI cJ cZ cD cR cT) (va_pl L f0) sz)) (QT (po_X11_crop kp L f0 h0 u1 u2) G cI cJ cZ cD cR cT (va_A (va_pl L f0) sz) kp L) 0 0 (va_A (va_pl L f0) sz) := by
  refine metT (by decide) (Nat.le_of_ble_eq_true rfl) hTH ?_
  intro p e s m below meth c A ls E hW hl
  obtain ⟨hx, hb, -, hml, hown, hts, -, -, -⟩ := id E
  have hF : FM kp L ms_X11_crop f0 f0 := FM.rf
  have hl : lv_has ls 3 [(0, .ref h0), (1, .int u1), (2, .int u2)] := hl
  refine lv_aload_n hx hb dX11_crop_0 rfl (lv_at hl 0 rfl) ?_
  refine fg_RX11_12 E hW rh0 dX11_crop_1 (fun a1522947 m1522948 r1522949 => ?_)
  refine fg_RX11_114 E hW r1522949 dX11_crop_4 (fun a1522950 m1522951 r1522952 => ?_)
  refine lv_iload_n hx hb dX11_crop_7 rfl (lv_at hl 1 rfl) ?_
  refine t_callV (As := [.int u1]) (rest := []) E hW (c_X1_has l G cI cJ cZ cD cR cT kp L f0 hW.2.2.2 _ a1522950 u1 r1522952) r1522952 (by decide) rfl wk_X1_has tw_683 rfl ⟨Nat.le_of_ble_eq_true rfl, Nat.le_of_ble_eq_true rfl⟩ ⟨rfl, rfl⟩ hl.1 rfl (Nat.le_of_ble_eq_true rfl) dX11_crop_8 ⟨Nat.le_of_ble_eq_true rfl, Nat.le_of_ble_eq_true rfl⟩ (fun v1522953 f1522954 H locs q1522955 hW => ?_)
  obtain ⟨⟨x1522957, rfl, p1522958⟩, g1522956⟩ := q1522955
  have hF := FM.tr hF g1522956 rfl
  refine q_if_eq (tgt := 21) hx hb dX11_crop_11 (by decide) rfl (fun c1522959 => ?_) (fun c1522959 => ?_)
  · clear p1522958
    refine lv_iconst (v := (-1)) hx hb dX11_crop_21 (by decide) ?_
    exact e_I E hW rfl ⟨⟨_, rfl, trivial⟩, hF⟩ dX11_crop_22
  · have q1522960 : 0 ≤ u1.toInt ∧ u1.toInt ≤ 39 := by omega
    clear p1522958
    refine lv_iload_n hx hb dX11_crop_14 rfl (lv_at hl 2 rfl) ?_
    refine t_callS (As := [.int u2]) (rest := []) E hW (c_X11_isWeek l G cI cJ cZ cD cR cT kp L f1522954 hW.2.2.2 _ u2) wk_X11_isWeek tw_780 rfl ⟨Nat.le_of_ble_eq_true rfl, Nat.le_of_ble_eq_true rfl⟩ ⟨rfl, rfl⟩ hl.1 rfl (Nat.le_of_ble_eq_true rfl) dX11_crop_15 ⟨Nat.le_of_ble_eq_true rfl, Nat.le_of_ble_eq_true rfl⟩ (fun v1522961 f1522962 H locs q1522963 hW => ?_)
    obtain ⟨⟨x1522965, rfl, p1522966⟩, g1522964⟩ := q1522963
    have hF := FM.tr hF g1522964 rfl
    refine q_if_ne (tgt := 23) hx hb dX11_crop_18 (by decide) rfl (fun c1522967 => ?_) (fun c1522967 => ?_)
    · have q1522968 : 0 ≤ u2.toInt ∧ u2.toInt ≤ 399 := by omega
      clear p1522966
      refine lv_aload_n hx hb dX11_crop_23 rfl (lv_at hl 0 rfl) ?_
      refine fg_RX11_12 E hW rh0 dX11_crop_24 (fun a1522969 m1522970 r1522971 => ?_)
      obtain rfl : a1522947 = a1522969 := (((fm_R g1522964 rh0 rfl).trans ((fm_R g1522956 rh0 rfl).trans m1522948))).symm.trans m1522970
      refine fg_RX11_194 E hW r1522949 dX11_crop_27 (fun a1522972 m1522973 r1522974 => ?_)
      refine lv_iload_n hx hb dX11_crop_30 rfl (lv_at hl 1 rfl) ?_
      refine lv_iload_n hx hb dX11_crop_31 rfl (lv_at hl 2 rfl) ?_
      refine t_callV (As := [.int u1, .int u2]) (rest := []) E hW (c_X7_sacksOf l G cI cJ cZ cD cR cT kp L f1522962 hW.2.2.2 _ a1522972 u1 u2 r1522974 (by omega) (by omega)) r1522974 (by decide) rfl wk_X7_sacksOf tw_843 rfl ⟨Nat.le_of_ble_eq_true rfl, Nat.le_of_ble_eq_true rfl⟩ ⟨rfl, rfl⟩ hl.1 rfl (Nat.le_of_ble_eq_true rfl) dX11_crop_32 ⟨Nat.le_of_ble_eq_true rfl, Nat.le_of_ble_eq_true rfl⟩ (fun v1522975 f1522976 H locs q1522977 hW => ?_)
      obtain ⟨⟨x1522979, rfl, p1522980⟩, g1522978⟩ := q1522977
      clear p1522980
      have hF := FM.tr hF g1522978 rfl
      exact e_I E hW rfl ⟨⟨_, rfl, trivial⟩, hF⟩ dX11_crop_35
    · have q1522981 : (u2.toInt < 0 ∨ 399 < u2.toInt) := by omega
      clear p1522966
      refine lv_iconst (v := (-1)) hx hb dX11_crop_21 (by decide) ?_
      exact e_I E hW rfl ⟨⟨_, rfl, trivial⟩, hF⟩ dX11_crop_22
def ms_X11_crops : List (Nat × Nat) := [(11, 12), (11, 15), (770, 0), (771, 0)]
def po_X11_crops (kp : Nat → Nat) (L : List Nat) (f0 : Nat → va_E) (h0 : Nat) (u1 : Int32) (u2 : Int32) : Option Value → (Nat → va_E) → Prop := fun v f => (∃ r : Int32, v = some (.int r) ∧ (True)) ∧ FM kp L ms_X11_crops f0 f
set_option maxHeartbeats 4000000 in
set_option maxRecDepth 100000 in
theorem c_X11_crops (l : Launch) (G : va_G) (cI cJ cZ cD cR cT : ClassId) (kp : Nat → Nat) (L : List Nat) (f0 : Nat → va_E) (hTH : TH cI cJ cZ cD cR cT kp L f0) (sz : Nat) (h0 : Nat) (u1 : Int32) (u2 : Int32) (rh0 : RK kp L h0 11) : Met l yX11_crops (Cond.code yX11_crops cX11_crops 3 (some .int) :: wTab) ({ frames := 2, cells := 0, slots := 0, locals := 62 }) (va_Pc [.ref h0, .int u1, .int u2] (PreW G (tys6 cI cJ cZ cD cR cT) (va_pl L f0) sz)) (QT (po_X11_crops kp L f0 h0 u1 u2) G cI cJ cZ cD cR cT (va_A (va_pl L f0) sz) kp L) 0 0 (va_A (va_pl L f0) sz) := by
  refine metT (by decide) (Nat.le_of_ble_eq_true rfl) hTH ?_
  intro p e s m below meth c A ls E hW hl
  obtain ⟨hx, hb, -, hml, hown, hts, -, -, -⟩ := id E
  have hF : FM kp L ms_X11_crops f0 f0 := FM.rf
  have hl : lv_has ls 3 [(0, .ref h0), (1, .int u1), (2, .int u2)] := hl
  refine lv_iload_n hx hb dX11_crops_0 rfl (lv_at hl 1 rfl) ?_
  refine lv_iconst (v := 0) hx hb dX11_crops_1 (by decide) ?_
  refine lv_sipush (v := 10000) hx hb dX11_crops_2 (by decide) ?_
  refine t_callS (As := [.int u1, .int 0, .int 10000]) (rest := []) E hW (c_X11_within l G cI cJ cZ cD cR cT kp L f0 hW.2.2.2 _ u1 0 10000 (by decide)) wk_X11_within tw_599 rfl ⟨Nat.le_of_ble_eq_true rfl, Nat.le_of_ble_eq_true rfl⟩ ⟨rfl, rfl⟩ hl.1 rfl (Nat.le_of_ble_eq_true rfl) dX11_crops_5 ⟨Nat.le_of_ble_eq_true rfl, Nat.le_of_ble_eq_true rfl⟩ (fun v1522982 f1522983 H locs q1522984 hW => ?_)
  obtain ⟨⟨x1522986, rfl, p1522987⟩, g1522985⟩ := q1522984
  have p1522987 : (x1522986.toInt = 1 ∧ 0 ≤ u1.toInt ∧ u1.toInt ≤ 10000) ∨ (x1522986.toInt = 0 ∧ (u1.toInt < 0 ∨ 10000 < u1.toInt)) := p1522987
  have hF := FM.tr hF g1522985 rfl
  refine q_if_eq (tgt := 22) hx hb dX11_crops_8 (by decide) rfl (fun c1522988 => ?_) (fun c1522988 => ?_)
  · have q1522989 : (u1.toInt < 0 ∨ 10000 < u1.toInt) := by omega
    clear p1522987
    refine lv_aload_n hx hb dX11_crops_22 rfl (lv_at hl 0 rfl) ?_
    refine lv_iconst (v := (-1)) hx hb dX11_crops_23 (by decide) ?_
    refine t_callV (As := [.int (-1)]) (rest := []) E hW (c_X11_refuse l G cI cJ cZ cD cR cT kp L f1522983 hW.2.2.2 _ h0 (-1) rh0 (by decide)) rh0 (by decide) rfl wk_X11_refuse tw_603 rfl ⟨Nat.le_of_ble_eq_true rfl, Nat.le_of_ble_eq_true rfl⟩ ⟨rfl, rfl⟩ hl.1 rfl (Nat.le_of_ble_eq_true rfl) dX11_crops_24 ⟨Nat.le_of_ble_eq_true rfl, Nat.le_of_ble_eq_true rfl⟩ (fun v1522990 f1522991 H locs q1522992 hW => ?_)
    obtain ⟨⟨x1522994, rfl, p1522995⟩, g1522993⟩ := q1522992
    have p1522995 : (-6 : Int) ≤ x1522994.toInt ∧ x1522994.toInt ≤ -1 := p1522995
    have hF := FM.tr hF g1522993 rfl
    exact e_I E hW rfl ⟨⟨_, rfl, trivial⟩, hF⟩ dX11_crops_27
  · have q1522996 : 0 ≤ u1.toInt ∧ u1.toInt ≤ 10000 := by omega
    clear p1522987
    refine lv_iload_n hx hb dX11_crops_11 rfl (lv_at hl 2 rfl) ?_
    refine lv_iconst (v := 0) hx hb dX11_crops_12 (by decide) ?_
    refine lv_sipush (v := 10000) hx hb dX11_crops_13 (by decide) ?_
    refine t_callS (As := [.int u2, .int 0, .int 10000]) (rest := []) E hW (c_X11_within l G cI cJ cZ cD cR cT kp L f1522983 hW.2.2.2 _ u2 0 10000 (by decide)) wk_X11_within tw_599 rfl ⟨Nat.le_of_ble_eq_true rfl, Nat.le_of_ble_eq_true rfl⟩ ⟨rfl, rfl⟩ hl.1 rfl (Nat.le_of_ble_eq_true rfl) dX11_crops_16 ⟨Nat.le_of_ble_eq_true rfl, Nat.le_of_ble_eq_true rfl⟩ (fun v1522997 f1522998 H locs q1522999 hW => ?_)
    obtain ⟨⟨x1523001, rfl, p1523002⟩, g1523000⟩ := q1522999
    have p1523002 : (x1523001.toInt = 1 ∧ 0 ≤ u2.toInt ∧ u2.toInt ≤ 10000) ∨ (x1523001.toInt = 0 ∧ (u2.toInt < 0 ∨ 10000 < u2.toInt)) := p1523002
    have hF := FM.tr hF g1523000 rfl
    refine q_if_ne (tgt := 28) hx hb dX11_crops_19 (by decide) rfl (fun c1523003 => ?_) (fun c1523003 => ?_)
    · have q1523004 : 0 ≤ u2.toInt ∧ u2.toInt ≤ 10000 := by omega
      clear p1523002
      refine lv_aload_n hx hb dX11_crops_28 rfl (lv_at hl 0 rfl) ?_
      refine fg_RX11_312 E hW rh0 dX11_crops_29 (fun y1523005 m1523006 b1523007 => ?_)
      refine lv_iconst (v := 3) hx hb dX11_crops_32 (by decide) ?_
      refine q_icmp_lt (Y := 3) (tgt := 43) hx hb dX11_crops_33 (by decide) rfl rfl (fun c1523008 => ?_) (fun c1523008 => ?_)
      · refine lv_aload_n hx hb dX11_crops_43 rfl (lv_at hl 0 rfl) ?_
        refine fg_RX11_45 E hW rh0 dX11_crops_44 (fun a1523009 m1523010 r1523011 => ?_)
        refine lv_aload_n hx hb dX11_crops_47 rfl (lv_at hl 0 rfl) ?_
        refine fg_RX11_312 E hW rh0 dX11_crops_48 (fun y1523012 m1523013 b1523014 => ?_)
        obtain rfl : y1523005 = y1523012 := (m1523006).symm.trans m1523013
        refine lv_iload_n hx hb dX11_crops_51 rfl (lv_at hl 1 rfl) ?_
        refine gs_770 E hW r1523011 ⟨by omega, by omega⟩ dX11_crops_52 (fun f1523015 H locs e1523016 n1523017 g1523018 hW => ?_)
        have hF := FM.tr hF g1523018 rfl
        refine lv_aload_n hx hb dX11_crops_53 rfl (lv_at hl 0 rfl) ?_
        refine fg_RX11_48 E hW rh0 dX11_crops_54 (fun a1523019 m1523020 r1523021 => ?_)
        refine lv_aload_n hx hb dX11_crops_57 rfl (lv_at hl 0 rfl) ?_
        refine fg_RX11_312 E hW rh0 dX11_crops_58 (fun y1523022 m1523023 b1523024 => ?_)
        obtain rfl : y1523005 = y1523022 := (((fm_I g1523018 rh0 rfl).trans m1523013)).symm.trans m1523023
        refine lv_iload_n hx hb dX11_crops_61 rfl (lv_at hl 2 rfl) ?_
        refine gs_771 E hW r1523021 ⟨by omega, by omega⟩ dX11_crops_62 (fun f1523025 H locs e1523026 n1523027 g1523028 hW => ?_)
        have hF := FM.tr hF g1523028 rfl
        refine lv_aload_n hx hb dX11_crops_63 rfl (lv_at hl 0 rfl) ?_
        refine lv_dup hx hb dX11_crops_64 rfl ?_
        refine fg_RX11_312 E hW rh0 dX11_crops_65 (fun y1523029 m1523030 b1523031 => ?_)
        obtain rfl : y1523005 = y1523029 := (((fm_I g1523028 rh0 rfl).trans m1523023)).symm.trans m1523030
        refine lv_iconst (v := 1) hx hb dX11_crops_68 (by decide) ?_
        refine q_iadd (Y := 1) hx hb dX11_crops_69 rfl rfl (by omega) (fun x1523032 h1523033 => ?_)
        refine fp_RX11_312 E hW rh0 (by omega) dX11_crops_70 (fun f1523034 H locs e1523035 n1523036 g1523037 hW => ?_)
        have hF := FM.tr hF g1523037 rfl
        refine lv_aload_n hx hb dX11_crops_73 rfl (lv_at hl 0 rfl) ?_
        refine lv_aload_n hx hb dX11_crops_74 rfl (lv_at hl 0 rfl) ?_
        refine fg_RX11_312 E hW rh0 dX11_crops_75 (fun y1523038 m1523039 b1523040 => ?_)
        obtain rfl : x1523032 = y1523038 := (e1523035).symm.trans m1523039
        refine t_callV (As := [.int x1523032]) (rest := []) E hW (c_X11_accept l G cI cJ cZ cD cR cT kp L f1523034 hW.2.2.2 _ h0 x1523032 rh0) rh0 (by decide) rfl wk_X11_accept tw_611 rfl ⟨Nat.le_of_ble_eq_true rfl, Nat.le_of_ble_eq_true rfl⟩ ⟨rfl, rfl⟩ hl.1 rfl (Nat.le_of_ble_eq_true rfl) dX11_crops_78 ⟨Nat.le_of_ble_eq_true rfl, Nat.le_of_ble_eq_true rfl⟩ (fun v1523041 f1523042 H locs q1523043 hW => ?_)
        obtain ⟨⟨x1523045, rfl, p1523046⟩, g1523044⟩ := q1523043
        clear p1523046
        have hF := FM.tr hF g1523044 rfl
        exact e_I E hW rfl ⟨⟨_, rfl, trivial⟩, hF⟩ dX11_crops_81
      · refine lv_aload_n hx hb dX11_crops_36 rfl (lv_at hl 0 rfl) ?_
        refine lv_bipush (v := (-5)) hx hb dX11_crops_37 (by decide) ?_
        refine t_callV (As := [.int (-5)]) (rest := []) E hW (c_X11_refuse l G cI cJ cZ cD cR cT kp L f1522998 hW.2.2.2 _ h0 (-5) rh0 (by decide)) rh0 (by decide) rfl wk_X11_refuse tw_603 rfl ⟨Nat.le_of_ble_eq_true rfl, Nat.le_of_ble_eq_true rfl⟩ ⟨rfl, rfl⟩ hl.1 rfl (Nat.le_of_ble_eq_true rfl) dX11_crops_39 ⟨Nat.le_of_ble_eq_true rfl, Nat.le_of_ble_eq_true rfl⟩ (fun v1523047 f1523048 H locs q1523049 hW => ?_)
        obtain ⟨⟨x1523051, rfl, p1523052⟩, g1523050⟩ := q1523049
        have p1523052 : (-6 : Int) ≤ x1523051.toInt ∧ x1523051.toInt ≤ -1 := p1523052
        have hF := FM.tr hF g1523050 rfl
        exact e_I E hW rfl ⟨⟨_, rfl, trivial⟩, hF⟩ dX11_crops_42
    · have q1523053 : (u2.toInt < 0 ∨ 10000 < u2.toInt) := by omega
      clear p1523002
      refine lv_aload_n hx hb dX11_crops_22 rfl (lv_at hl 0 rfl) ?_
      refine lv_iconst (v := (-1)) hx hb dX11_crops_23 (by decide) ?_
      refine t_callV (As := [.int (-1)]) (rest := []) E hW (c_X11_refuse l G cI cJ cZ cD cR cT kp L f1522998 hW.2.2.2 _ h0 (-1) rh0 (by decide)) rh0 (by decide) rfl wk_X11_refuse tw_603 rfl ⟨Nat.le_of_ble_eq_true rfl, Nat.le_of_ble_eq_true rfl⟩ ⟨rfl, rfl⟩ hl.1 rfl (Nat.le_of_ble_eq_true rfl) dX11_crops_24 ⟨Nat.le_of_ble_eq_true rfl, Nat.le_of_ble_eq_true rfl⟩ (fun v1523054 f1523055 H locs q1523056 hW => ?_)
      obtain ⟨⟨x1523058, rfl, p1523059⟩, g1523057⟩ := q1523056
      have p1523059 : (-6 : Int) ≤ x1523058.toInt ∧ x1523058.toInt ≤ -1 := p1523059
      have hF := FM.tr hF g1523057 rfl
      exact e_I E hW rfl ⟨⟨_, rfl, trivial⟩, hF⟩ dX11_crops_27
def ms_X11_deal : List (Nat × Nat) := [(3, 2), (11, 15), (342, 0)]
def po_X11_deal (kp : Nat → Nat) (L : List Nat) (f0 : Nat → va_E) (h0 : Nat) (u1 : Int32) (u2 : Int32) (u3 : Int32) : Option Value → (Nat → va_E) → Prop := fun v f => (∃ r : Int32, v = some (.int r) ∧ (True)) ∧ FM kp L ms_X11_deal f0 f
set_option maxHeartbeats 4000000 in
set_option maxRecDepth 100000 in
theorem c_X11_deal (l : Launch) (G : va_G) (cI cJ cZ cD cR cT : ClassId) (kp : Nat → Nat) (L : List Nat) (f0 : Nat → va_E) (hTH : TH cI cJ cZ cD cR cT kp L f0) (sz : Nat) (h0 : Nat) (u1 : Int32) (u2 : Int32) (u3 : Int32) (rh0 : RK kp L h0 11) : Met l yX11_deal (Cond.code yX11_deal cX11_deal 6 (some .int) :: wTab) ({ frames := 3, cells := 0, slots := 0, locals := 86 }) (va_Pc [.ref h0, .int u1, .int u2, .int u3] (PreW G (tys6 cI cJ cZ cD cR cT) (va_pl L f0) sz)) (QT (po_X11_deal kp L f0 h0 u1 u2 u3) G cI cJ cZ cD cR cT (va_A (va_pl L f0) sz) kp L) 0 0 (va_A (va_pl L f0) sz) := by
  refine metT (by decide) (Nat.le_of_ble_eq_true rfl) hTH ?_
  intro p e s m below meth c A ls E hW hl
  obtain ⟨hx, hb, -, hml, hown, hts, -, -, -⟩ := id E
  have hF : FM kp L ms_X11_deal f0 f0 := FM.rf
  have hl : lv_has ls 6 [(0, .ref h0), (1, .int u1), (2, .int u2), (3, .int u3)] := hl
  refine lv_aload_n hx hb dX11_deal_0 rfl (lv_at hl 0 rfl) ?_
  refine fg_RX11_12 E hW rh0 dX11_deal_1 (fun a1523060 m1523061 r1523062 => ?_)
  refine fg_RX11_63 E hW r1523062 dX11_deal_4 (fun a1523063 m1523064 r1523065 => ?_)
  refine lv_astore (lv' := [(4, .ref a1523063), (0, .ref h0), (1, .int u1), (2, .int u2), (3, .int u3)]) hx hb dX11_deal_7 hl (by decide) rfl (fun ls hl => ?_)
  refine lv_aload_n hx hb dX11_deal_9 rfl (lv_at hl 1 rfl) ?_
  refine fg_RX11_12 E hW rh0 dX11_deal_10 (fun a1523066 m1523067 r1523068 => ?_)
  obtain rfl : a1523060 = a1523066 := (m1523061).symm.trans m1523067
  refine fg_RX11_98 E hW r1523062 dX11_deal_13 (fun a1523069 m1523070 r1523071 => ?_)
  refine lv_astore (lv' := [(5, .ref a1523069), (4, .ref a1523063), (0, .ref h0), (1, .int u1), (2, .int u2), (3, .int u3)]) hx hb dX11_deal_16 hl (by decide) rfl (fun ls hl => ?_)
  refine lv_iload_n hx hb dX11_deal_18 rfl (lv_at hl 5 rfl) ?_
  refine lv_iconst (v := 1) hx hb dX11_deal_19 (by decide) ?_
  refine lv_sipush (v := 10000) hx hb dX11_deal_20 (by decide) ?_
  refine t_callS (As := [.int u3, .int 1, .int 10000]) (rest := []) E hW (c_X11_within l G cI cJ cZ cD cR cT kp L f0 hW.2.2.2 _ u3 1 10000 (by decide)) wk_X11_within tw_599 rfl ⟨Nat.le_of_ble_eq_true rfl, Nat.le_of_ble_eq_true rfl⟩ ⟨rfl, rfl⟩ hl.1 rfl (Nat.le_of_ble_eq_true rfl) dX11_deal_23 ⟨Nat.le_of_ble_eq_true rfl, Nat.le_of_ble_eq_true rfl⟩ (fun v1523072 f1523073 H locs q1523074 hW => ?_)
  obtain ⟨⟨x1523076, rfl, p1523077⟩, g1523075⟩ := q1523074
  have p1523077 : (x1523076.toInt = 1 ∧ 1 ≤ u3.toInt ∧ u3.toInt ≤ 10000) ∨ (x1523076.toInt = 0 ∧ (u3.toInt < 1 ∨ 10000 < u3.toInt)) := p1523077
  have hF := FM.tr hF g1523075 rfl
  refine q_if_ne (tgt := 35) hx hb dX11_deal_26 (by decide) rfl (fun c1523078 => ?_) (fun c1523078 => ?_)
  · have q1523079 : 1 ≤ u3.toInt ∧ u3.toInt ≤ 10000 := by omega
    clear p1523077
    refine lv_aload hx hb dX11_deal_35 (lv_at hl 1 rfl) ?_
    refine lv_iload_n hx hb dX11_deal_37 rfl (lv_at hl 3 rfl) ?_
    refine t_callV (As := [.int u1]) (rest := []) E hW (c_X4_has l G cI cJ cZ cD cR cT kp L f1523073 hW.2.2.2 _ a1523063 u1 r1523065) r1523065 (by decide) rfl wk_X4_has tw_619 rfl ⟨Nat.le_of_ble_eq_true rfl, Nat.le_of_ble_eq_true rfl⟩ ⟨rfl, rfl⟩ hl.1 rfl (Nat.le_of_ble_eq_true rfl) dX11_deal_38 ⟨Nat.le_of_ble_eq_true rfl, Nat.le_of_ble_eq_true rfl⟩ (fun v1523080 f1523081 H locs q1523082 hW => ?_)
    obtain ⟨⟨x1523084, rfl, p1523085⟩, g1523083⟩ := q1523082
    have hF := FM.tr hF g1523083 rfl
    refine q_if_eq (tgt := 53) hx hb dX11_deal_41 (by decide) rfl (fun c1523086 => ?_) (fun c1523086 => ?_)
    · clear p1523085
      refine lv_aload_n hx hb dX11_deal_53 rfl (lv_at hl 2 rfl) ?_
      refine lv_bipush (v := (-2)) hx hb dX11_deal_54 (by decide) ?_
      refine t_callV (As := [.int (-2)]) (rest := []) E hW (c_X11_refuse l G cI cJ cZ cD cR cT kp L f1523081 hW.2.2.2 _ h0 (-2) rh0 (by decide)) rh0 (by decide) rfl wk_X11_refuse tw_603 rfl ⟨Nat.le_of_ble_eq_true rfl, Nat.le_of_ble_eq_true rfl⟩ ⟨rfl, rfl⟩ hl.1 rfl (Nat.le_of_ble_eq_true rfl) dX11_deal_56 ⟨Nat.le_of_ble_eq_true rfl, Nat.le_of_ble_eq_true rfl⟩ (fun v1523087 f1523088 H locs q1523089 hW => ?_)
      obtain ⟨⟨x1523091, rfl, p1523092⟩, g1523090⟩ := q1523089
      have p1523092 : (-6 : Int) ≤ x1523091.toInt ∧ x1523091.toInt ≤ -1 := p1523092
      have hF := FM.tr hF g1523090 rfl
      exact e_I E hW rfl ⟨⟨_, rfl, trivial⟩, hF⟩ dX11_deal_59
    · have q1523093 : 0 ≤ u1.toInt ∧ u1.toInt ≤ 39 := by omega
      clear p1523085
      refine lv_aload hx hb dX11_deal_44 (lv_at hl 1 rfl) ?_
      refine lv_iload_n hx hb dX11_deal_46 rfl (lv_at hl 4 rfl) ?_
      refine t_callV (As := [.int u2]) (rest := []) E hW (c_X4_has l G cI cJ cZ cD cR cT kp L f1523081 hW.2.2.2 _ a1523063 u2 r1523065) r1523065 (by decide) rfl wk_X4_has tw_619 rfl ⟨Nat.le_of_ble_eq_true rfl, Nat.le_of_ble_eq_true rfl⟩ ⟨rfl, rfl⟩ hl.1 rfl (Nat.le_of_ble_eq_true rfl) dX11_deal_47 ⟨Nat.le_of_ble_eq_true rfl, Nat.le_of_ble_eq_true rfl⟩ (fun v1523094 f1523095 H locs q1523096 hW => ?_)
      obtain ⟨⟨x1523098, rfl, p1523099⟩, g1523097⟩ := q1523096
      have hF := FM.tr hF g1523097 rfl
      refine q_if_ne (tgt := 60) hx hb dX11_deal_50 (by decide) rfl (fun c1523100 => ?_) (fun c1523100 => ?_)
      · have q1523101 : 0 ≤ u2.toInt ∧ u2.toInt ≤ 39 := by omega
        clear p1523099
        refine lv_iload_n hx hb dX11_deal_60 rfl (lv_at hl 3 rfl) ?_
        refine lv_iload_n hx hb dX11_deal_61 rfl (lv_at hl 4 rfl) ?_
        refine q_icmp_eq (tgt := 120) hx hb dX11_deal_62 (by decide) rfl rfl (fun c1523102 => ?_) (fun c1523102 => ?_)
        · refine lv_aload_n hx hb dX11_deal_120 rfl (lv_at hl 2 rfl) ?_
          refine lv_bipush (v := (-3)) hx hb dX11_deal_121 (by decide) ?_
          refine t_callV (As := [.int (-3)]) (rest := []) E hW (c_X11_refuse l G cI cJ cZ cD cR cT kp L f1523095 hW.2.2.2 _ h0 (-3) rh0 (by decide)) rh0 (by decide) rfl wk_X11_refuse tw_603 rfl ⟨Nat.le_of_ble_eq_true rfl, Nat.le_of_ble_eq_true rfl⟩ ⟨rfl, rfl⟩ hl.1 rfl (Nat.le_of_ble_eq_true rfl) dX11_deal_123 ⟨Nat.le_of_ble_eq_true rfl, Nat.le_of_ble_eq_true rfl⟩ (fun v1523103 f1523104 H locs q1523105 hW => ?_)
          obtain ⟨⟨x1523107, rfl, p1523108⟩, g1523106⟩ := q1523105
          have p1523108 : (-6 : Int) ≤ x1523107.toInt ∧ x1523107.toInt ≤ -1 := p1523108
          have hF := FM.tr hF g1523106 rfl
          exact e_I E hW rfl ⟨⟨_, rfl, trivial⟩, hF⟩ dX11_deal_126
        · refine lv_aload hx hb dX11_deal_65 (lv_at hl 1 rfl) ?_
          refine fg_RX11_94 E hW r1523065 dX11_deal_67 (fun a1523109 m1523110 r1523111 => ?_)
          refine lv_iload_n hx hb dX11_deal_70 rfl (lv_at hl 4 rfl) ?_
          refine gl_342 E hW r1523111 ⟨by omega, by omega⟩ dX11_deal_71 (fun y1523112 m1523113 => ?_)
          refine lv_iload_n hx hb dX11_deal_72 rfl (lv_at hl 5 rfl) ?_
          refine q_icmp_lt (tgt := 120) hx hb dX11_deal_73 (by decide) rfl rfl (fun c1523115 => ?_) (fun c1523115 => ?_)
          · refine lv_aload_n hx hb dX11_deal_120 rfl (lv_at hl 2 rfl) ?_
            refine lv_bipush (v := (-3)) hx hb dX11_deal_121 (by decide) ?_
            refine t_callV (As := [.int (-3)]) (rest := []) E hW (c_X11_refuse l G cI cJ cZ cD cR cT kp L f1523095 hW.2.2.2 _ h0 (-3) rh0 (by decide)) rh0 (by decide) rfl wk_X11_refuse tw_603 rfl ⟨Nat.le_of_ble_eq_true rfl, Nat.le_of_ble_eq_true rfl⟩ ⟨rfl, rfl⟩ hl.1 rfl (Nat.le_of_ble_eq_true rfl) dX11_deal_123 ⟨Nat.le_of_ble_eq_true rfl, Nat.le_of_ble_eq_true rfl⟩ (fun v1523116 f1523117 H locs q1523118 hW => ?_)
            obtain ⟨⟨x1523120, rfl, p1523121⟩, g1523119⟩ := q1523118
            have p1523121 : (-6 : Int) ≤ x1523120.toInt ∧ x1523120.toInt ≤ -1 := p1523121
            have hF := FM.tr hF g1523119 rfl
            exact e_I E hW rfl ⟨⟨_, rfl, trivial⟩, hF⟩ dX11_deal_126
          · refine lv_aload hx hb dX11_deal_76 (lv_at hl 1 rfl) ?_
            refine lv_iload_n hx hb dX11_deal_78 rfl (lv_at hl 3 rfl) ?_
            refine t_callV (As := [.int u1]) (rest := []) E hW (c_X4_isAbout l G cI cJ cZ cD cR cT kp L f1523095 hW.2.2.2 _ a1523063 u1 r1523065 (by omega)) r1523065 (by decide) rfl wk_X4_isAbout tw_1180 rfl ⟨Nat.le_of_ble_eq_true rfl, Nat.le_of_ble_eq_true rfl⟩ ⟨rfl, rfl⟩ hl.1 rfl (Nat.le_of_ble_eq_true rfl) dX11_deal_79 ⟨Nat.le_of_ble_eq_true rfl, Nat.le_of_ble_eq_true rfl⟩ (fun v1523122 f1523123 H locs q1523124 hW => ?_)
            obtain ⟨⟨x1523126, rfl, p1523127⟩, g1523125⟩ := q1523124
            have hF := FM.tr hF g1523125 rfl
            refine q_if_eq (tgt := 120) hx hb dX11_deal_82 (by decide) rfl (fun c1523128 => ?_) (fun c1523128 => ?_)
            · refine lv_aload_n hx hb dX11_deal_120 rfl (lv_at hl 2 rfl) ?_
              refine lv_bipush (v := (-3)) hx hb dX11_deal_121 (by decide) ?_
              refine t_callV (As := [.int (-3)]) (rest := []) E hW (c_X11_refuse l G cI cJ cZ cD cR cT kp L f1523123 hW.2.2.2 _ h0 (-3) rh0 (by decide)) rh0 (by decide) rfl wk_X11_refuse tw_603 rfl ⟨Nat.le_of_ble_eq_true rfl, Nat.le_of_ble_eq_true rfl⟩ ⟨rfl, rfl⟩ hl.1 rfl (Nat.le_of_ble_eq_true rfl) dX11_deal_123 ⟨Nat.le_of_ble_eq_true rfl, Nat.le_of_ble_eq_true rfl⟩ (fun v1523129 f1523130 H locs q1523131 hW => ?_)
              obtain ⟨⟨x1523133, rfl, p1523134⟩, g1523132⟩ := q1523131
              have p1523134 : (-6 : Int) ≤ x1523133.toInt ∧ x1523133.toInt ≤ -1 := p1523134
              have hF := FM.tr hF g1523132 rfl
              exact e_I E hW rfl ⟨⟨_, rfl, trivial⟩, hF⟩ dX11_deal_126
            · refine lv_aload hx hb dX11_deal_85 (lv_at hl 1 rfl) ?_
              refine lv_iload_n hx hb dX11_deal_87 rfl (lv_at hl 4 rfl) ?_
              refine t_callV (As := [.int u2]) (rest := []) E hW (c_X4_isAbout l G cI cJ cZ cD cR cT kp L f1523123 hW.2.2.2 _ a1523063 u2 r1523065 (by omega)) r1523065 (by decide) rfl wk_X4_isAbout tw_1180 rfl ⟨Nat.le_of_ble_eq_true rfl, Nat.le_of_ble_eq_true rfl⟩ ⟨rfl, rfl⟩ hl.1 rfl (Nat.le_of_ble_eq_true rfl) dX11_deal_88 ⟨Nat.le_of_ble_eq_true rfl, Nat.le_of_ble_eq_true rfl⟩ (fun v1523135 f1523136 H locs q1523137 hW => ?_)
              obtain ⟨⟨x1523139, rfl, p1523140⟩, g1523138⟩ := q1523137
              have hF := FM.tr hF g1523138 rfl
              refine q_if_eq (tgt := 120) hx hb dX11_deal_91 (by decide) rfl (fun c1523141 => ?_) (fun c1523141 => ?_)
              · refine lv_aload_n hx hb dX11_deal_120 rfl (lv_at hl 2 rfl) ?_
                refine lv_bipush (v := (-3)) hx hb dX11_deal_121 (by decide) ?_
                refine t_callV (As := [.int (-3)]) (rest := []) E hW (c_X11_refuse l G cI cJ cZ cD cR cT kp L f1523136 hW.2.2.2 _ h0 (-3) rh0 (by decide)) rh0 (by decide) rfl wk_X11_refuse tw_603 rfl ⟨Nat.le_of_ble_eq_true rfl, Nat.le_of_ble_eq_true rfl⟩ ⟨rfl, rfl⟩ hl.1 rfl (Nat.le_of_ble_eq_true rfl) dX11_deal_123 ⟨Nat.le_of_ble_eq_true rfl, Nat.le_of_ble_eq_true rfl⟩ (fun v1523142 f1523143 H locs q1523144 hW => ?_)
                obtain ⟨⟨x1523146, rfl, p1523147⟩, g1523145⟩ := q1523144
                have p1523147 : (-6 : Int) ≤ x1523146.toInt ∧ x1523146.toInt ≤ -1 := p1523147
                have hF := FM.tr hF g1523145 rfl
                exact e_I E hW rfl ⟨⟨_, rfl, trivial⟩, hF⟩ dX11_deal_126
              · refine lv_aload hx hb dX11_deal_94 (lv_at hl 1 rfl) ?_
                refine fg_RX11_141 E hW r1523065 dX11_deal_96 (fun a1523148 m1523149 r1523150 => ?_)
                refine lv_iload_n hx hb dX11_deal_99 rfl (lv_at hl 4 rfl) ?_
                refine gl_348 E hW r1523150 ⟨by omega, by omega⟩ dX11_deal_100 (fun y1523151 m1523152 => ?_)
                refine lv_iconst (v := 1) hx hb dX11_deal_101 (by decide) ?_
                refine q_icmp_ne (Y := 1) (tgt := 127) hx hb dX11_deal_102 (by decide) rfl rfl (fun c1523154 => ?_) (fun c1523154 => ?_)
                · refine lv_aload hx hb dX11_deal_127 (lv_at hl 0 rfl) ?_
                  refine fg_RX11_288 E hW r1523071 dX11_deal_129 (fun y1523155 m1523156 => ?_)
                  refine lv_sipush (v := 200) hx hb dX11_deal_132 (by decide) ?_
                  refine q_icmp_lt (Y := 200) (tgt := 145) hx hb dX11_deal_135 (by decide) rfl rfl (fun c1523158 => ?_) (fun c1523158 => ?_)
                  · refine lv_aload hx hb dX11_deal_145 (lv_at hl 1 rfl) ?_
                    refine fg_RX11_94 E hW r1523065 dX11_deal_147 (fun a1523159 m1523160 r1523161 => ?_)
                    obtain rfl : a1523109 = a1523159 := (((fm_R g1523138 r1523065 rfl).trans ((fm_R g1523125 r1523065 rfl).trans m1523110))).symm.trans m1523160
                    refine lv_iload_n hx hb dX11_deal_150 rfl (lv_at hl 4 rfl) ?_
                    refine lv_dup2_11 hx hb dX11_deal_151 rfl rfl ?_
                    refine gl_342 E hW r1523111 ⟨by omega, by omega⟩ dX11_deal_152 (fun y1523162 m1523163 => ?_)
                    obtain rfl : y1523112 = y1523162 := (((congrArg (fun z => aI z (u2 : Int32).toNatClampNeg) (fm_A g1523138 r1523111 (by decide) rfl)).trans ((congrArg (fun z => aI z (u2 : Int32).toNatClampNeg) (fm_A g1523125 r1523111 (by decide) rfl)).trans m1523113))).symm.trans m1523163
                    refine lv_iload_n hx hb dX11_deal_153 rfl (lv_at hl 5 rfl) ?_
                    have hb1523167 : -2147483648 ≤ y1523112.toInt ∧ y1523112.toInt ≤ 2147483647 := i32_b y1523112
                    refine q_isub hx hb dX11_deal_154 rfl rfl (by omega) (fun x1523165 h1523166 => ?_)
                    refine gs_342 E hW r1523111 ⟨by omega, by omega⟩ dX11_deal_155 (fun f1523168 H locs e1523169 n1523170 g1523171 hW => ?_)
                    have hF := FM.tr hF g1523171 rfl
                    refine lv_aload hx hb dX11_deal_156 (lv_at hl 1 rfl) ?_
                    refine lv_iload_n hx hb dX11_deal_158 rfl (lv_at hl 3 rfl) ?_
                    refine lv_iload_n hx hb dX11_deal_159 rfl (lv_at hl 5 rfl) ?_
                    refine t_callV (As := [.int u1, .int u3]) (rest := []) E hW (c_X4_gain l G cI cJ cZ cD cR cT kp L f1523168 hW.2.2.2 _ a1523063 u1 u3 r1523065 (by omega) (by omega)) r1523065 (by decide) rfl wk_X4_gain tw_631 rfl ⟨Nat.le_of_ble_eq_true rfl, Nat.le_of_ble_eq_true rfl⟩ ⟨rfl, rfl⟩ hl.1 rfl (Nat.le_of_ble_eq_true rfl) dX11_deal_160 ⟨Nat.le_of_ble_eq_true rfl, Nat.le_of_ble_eq_true rfl⟩ (fun v1523172 f1523173 H locs q1523174 hW => ?_)
                    obtain ⟨rfl, g1523175⟩ := q1523174
                    have hF := FM.tr hF g1523175 rfl
                    refine lv_aload hx hb dX11_deal_163 (lv_at hl 0 rfl) ?_
                    refine lv_dup hx hb dX11_deal_165 rfl ?_
                    refine fg_RX11_288 E hW r1523071 dX11_deal_166 (fun y1523176 m1523177 => ?_)
                    obtain rfl : y1523155 = y1523176 := (((fm_I g1523175 r1523071 rfl).trans ((fm_I g1523171 r1523071 rfl).trans m1523156))).symm.trans m1523177
                    refine lv_iconst (v := 1) hx hb dX11_deal_169 (by decide) ?_
                    have hb1523181 : -2147483648 ≤ y1523155.toInt ∧ y1523155.toInt ≤ 2147483647 := i32_b y1523155
                    refine q_iadd (Y := 1) hx hb dX11_deal_170 rfl rfl (by omega) (fun x1523179 h1523180 => ?_)
                    refine fp_RX11_288 E hW r1523071 dX11_deal_171 (fun f1523182 H locs e1523183 n1523184 g1523185 hW => ?_)
                    have hF := FM.tr hF g1523185 rfl
                    refine lv_aload_n hx hb dX11_deal_174 rfl (lv_at hl 2 rfl) ?_
                    refine lv_aload hx hb dX11_deal_175 (lv_at hl 0 rfl) ?_
                    refine fg_RX11_288 E hW r1523071 dX11_deal_177 (fun y1523186 m1523187 => ?_)
                    obtain rfl : x1523179 = y1523186 := (e1523183).symm.trans m1523187
                    refine t_callV (As := [.int x1523179]) (rest := []) E hW (c_X11_accept l G cI cJ cZ cD cR cT kp L f1523182 hW.2.2.2 _ h0 x1523179 rh0) rh0 (by decide) rfl wk_X11_accept tw_611 rfl ⟨Nat.le_of_ble_eq_true rfl, Nat.le_of_ble_eq_true rfl⟩ ⟨rfl, rfl⟩ hl.1 rfl (Nat.le_of_ble_eq_true rfl) dX11_deal_180 ⟨Nat.le_of_ble_eq_true rfl, Nat.le_of_ble_eq_true rfl⟩ (fun v1523189 f1523190 H locs q1523191 hW => ?_)
                    obtain ⟨⟨x1523193, rfl, p1523194⟩, g1523192⟩ := q1523191
                    clear p1523194
                    have hF := FM.tr hF g1523192 rfl
                    exact e_I E hW rfl ⟨⟨_, rfl, trivial⟩, hF⟩ dX11_deal_183
                  · refine lv_aload_n hx hb dX11_deal_138 rfl (lv_at hl 2 rfl) ?_
                    refine lv_bipush (v := (-5)) hx hb dX11_deal_139 (by decide) ?_
                    refine t_callV (As := [.int (-5)]) (rest := []) E hW (c_X11_refuse l G cI cJ cZ cD cR cT kp L f1523136 hW.2.2.2 _ h0 (-5) rh0 (by decide)) rh0 (by decide) rfl wk_X11_refuse tw_603 rfl ⟨Nat.le_of_ble_eq_true rfl, Nat.le_of_ble_eq_true rfl⟩ ⟨rfl, rfl⟩ hl.1 rfl (Nat.le_of_ble_eq_true rfl) dX11_deal_141 ⟨Nat.le_of_ble_eq_true rfl, Nat.le_of_ble_eq_true rfl⟩ (fun v1523195 f1523196 H locs q1523197 hW => ?_)
                    obtain ⟨⟨x1523199, rfl, p1523200⟩, g1523198⟩ := q1523197
                    have p1523200 : (-6 : Int) ≤ x1523199.toInt ∧ x1523199.toInt ≤ -1 := p1523200
                    have hF := FM.tr hF g1523198 rfl
                    exact e_I E hW rfl ⟨⟨_, rfl, trivial⟩, hF⟩ dX11_deal_144
                · refine lv_aload hx hb dX11_deal_105 (lv_at hl 1 rfl) ?_
                  refine lv_iload_n hx hb dX11_deal_107 rfl (lv_at hl 3 rfl) ?_
                  refine lv_iload_n hx hb dX11_deal_108 rfl (lv_at hl 4 rfl) ?_
                  refine lv_aload hx hb dX11_deal_109 (lv_at hl 0 rfl) ?_
                  refine fg_RX11_282 E hW r1523071 dX11_deal_111 (fun y1523201 m1523202 => ?_)
                  refine t_callV (As := [.int u1, .int u2, .int y1523201]) (rest := []) E hW (c_X4_keepsBan l G cI cJ cZ cD cR cT kp L f1523136 hW.2.2.2 _ a1523063 u1 u2 y1523201 r1523065 (by omega) (by omega)) r1523065 (by decide) rfl wk_X4_keepsBan tw_1184 rfl ⟨Nat.le_of_ble_eq_true rfl, Nat.le_of_ble_eq_true rfl⟩ ⟨rfl, rfl⟩ hl.1 rfl (Nat.le_of_ble_eq_true rfl) dX11_deal_114 ⟨Nat.le_of_ble_eq_true rfl, Nat.le_of_ble_eq_true rfl⟩ (fun v1523204 f1523205 H locs q1523206 hW => ?_)
                  obtain ⟨⟨x1523208, rfl, p1523209⟩, g1523207⟩ := q1523206
                  have hF := FM.tr hF g1523207 rfl
                  refine q_if_eq (tgt := 127) hx hb dX11_deal_117 (by decide) rfl (fun c1523210 => ?_) (fun c1523210 => ?_)
                  · refine lv_aload hx hb dX11_deal_127 (lv_at hl 0 rfl) ?_
                    refine fg_RX11_288 E hW r1523071 dX11_deal_129 (fun y1523211 m1523212 => ?_)
                    refine lv_sipush (v := 200) hx hb dX11_deal_132 (by decide) ?_
                    refine q_icmp_lt (Y := 200) (tgt := 145) hx hb dX11_deal_135 (by decide) rfl rfl (fun c1523214 => ?_) (fun c1523214 => ?_)
                    · refine lv_aload hx hb dX11_deal_145 (lv_at hl 1 rfl) ?_
                      refine fg_RX11_94 E hW r1523065 dX11_deal_147 (fun a1523215 m1523216 r1523217 => ?_)
                      obtain rfl : a1523109 = a1523215 := (((fm_R g1523207 r1523065 rfl).trans ((fm_R g1523138 r1523065 rfl).trans ((fm_R g1523125 r1523065 rfl).trans m1523110)))).symm.trans m1523216
                      refine lv_iload_n hx hb dX11_deal_150 rfl (lv_at hl 4 rfl) ?_
                      refine lv_dup2_11 hx hb dX11_deal_151 rfl rfl ?_
                      refine gl_342 E hW r1523111 ⟨by omega, by omega⟩ dX11_deal_152 (fun y1523218 m1523219 => ?_)
                      obtain rfl : y1523112 = y1523218 := (((congrArg (fun z => aI z (u2 : Int32).toNatClampNeg) (fm_A g1523207 r1523111 (by decide) rfl)).trans ((congrArg (fun z => aI z (u2 : Int32).toNatClampNeg) (fm_A g1523138 r1523111 (by decide) rfl)).trans ((congrArg (fun z => aI z (u2 : Int32).toNatClampNeg) (fm_A g1523125 r1523111 (by decide) rfl)).trans m1523113)))).symm.trans m1523219
                      refine lv_iload_n hx hb dX11_deal_153 rfl (lv_at hl 5 rfl) ?_
                      have hb1523223 : -2147483648 ≤ y1523112.toInt ∧ y1523112.toInt ≤ 2147483647 := i32_b y1523112
                      refine q_isub hx hb dX11_deal_154 rfl rfl (by omega) (fun x1523221 h1523222 => ?_)
                      refine gs_342 E hW r1523111 ⟨by omega, by omega⟩ dX11_deal_155 (fun f1523224 H locs e1523225 n1523226 g1523227 hW => ?_)
                      have hF := FM.tr hF g1523227 rfl
                      refine lv_aload hx hb dX11_deal_156 (lv_at hl 1 rfl) ?_
                      refine lv_iload_n hx hb dX11_deal_158 rfl (lv_at hl 3 rfl) ?_
                      refine lv_iload_n hx hb dX11_deal_159 rfl (lv_at hl 5 rfl) ?_
                      refine t_callV (As := [.int u1, .int u3]) (rest := []) E hW (c_X4_gain l G cI cJ cZ cD cR cT kp L f1523224 hW.2.2.2 _ a1523063 u1 u3 r1523065 (by omega) (by omega)) r1523065 (by decide) rfl wk_X4_gain tw_631 rfl ⟨Nat.le_of_ble_eq_true rfl, Nat.le_of_ble_eq_true rfl⟩ ⟨rfl, rfl⟩ hl.1 rfl (Nat.le_of_ble_eq_true rfl) dX11_deal_160 ⟨Nat.le_of_ble_eq_true rfl, Nat.le_of_ble_eq_true rfl⟩ (fun v1523228 f1523229 H locs q1523230 hW => ?_)
                      obtain ⟨rfl, g1523231⟩ := q1523230
                      have hF := FM.tr hF g1523231 rfl
                      refine lv_aload hx hb dX11_deal_163 (lv_at hl 0 rfl) ?_
                      refine lv_dup hx hb dX11_deal_165 rfl ?_
                      refine fg_RX11_288 E hW r1523071 dX11_deal_166 (fun y1523232 m1523233 => ?_)
                      obtain rfl : y1523211 = y1523232 := (((fm_I g1523231 r1523071 rfl).trans ((fm_I g1523227 r1523071 rfl).trans m1523212))).symm.trans m1523233
                      refine lv_iconst (v := 1) hx hb dX11_deal_169 (by decide) ?_
                      have hb1523237 : -2147483648 ≤ y1523211.toInt ∧ y1523211.toInt ≤ 2147483647 := i32_b y1523211
                      refine q_iadd (Y := 1) hx hb dX11_deal_170 rfl rfl (by omega) (fun x1523235 h1523236 => ?_)
                      refine fp_RX11_288 E hW r1523071 dX11_deal_171 (fun f1523238 H locs e1523239 n1523240 g1523241 hW => ?_)
                      have hF := FM.tr hF g1523241 rfl
                      refine lv_aload_n hx hb dX11_deal_174 rfl (lv_at hl 2 rfl) ?_
                      refine lv_aload hx hb dX11_deal_175 (lv_at hl 0 rfl) ?_
                      refine fg_RX11_288 E hW r1523071 dX11_deal_177 (fun y1523242 m1523243 => ?_)
                      obtain rfl : x1523235 = y1523242 := (e1523239).symm.trans m1523243
                      refine t_callV (As := [.int x1523235]) (rest := []) E hW (c_X11_accept l G cI cJ cZ cD cR cT kp L f1523238 hW.2.2.2 _ h0 x1523235 rh0) rh0 (by decide) rfl wk_X11_accept tw_611 rfl ⟨Nat.le_of_ble_eq_true rfl, Nat.le_of_ble_eq_true rfl⟩ ⟨rfl, rfl⟩ hl.1 rfl (Nat.le_of_ble_eq_true rfl) dX11_deal_180 ⟨Nat.le_of_ble_eq_true rfl, Nat.le_of_ble_eq_true rfl⟩ (fun v1523245 f1523246 H locs q1523247 hW => ?_)
                      obtain ⟨⟨x1523249, rfl, p1523250⟩, g1523248⟩ := q1523247
                      clear p1523250
                      have hF := FM.tr hF g1523248 rfl
                      exact e_I E hW rfl ⟨⟨_, rfl, trivial⟩, hF⟩ dX11_deal_183
                    · refine lv_aload_n hx hb dX11_deal_138 rfl (lv_at hl 2 rfl) ?_
                      refine lv_bipush (v := (-5)) hx hb dX11_deal_139 (by decide) ?_
                      refine t_callV (As := [.int (-5)]) (rest := []) E hW (c_X11_refuse l G cI cJ cZ cD cR cT kp L f1523205 hW.2.2.2 _ h0 (-5) rh0 (by decide)) rh0 (by decide) rfl wk_X11_refuse tw_603 rfl ⟨Nat.le_of_ble_eq_true rfl, Nat.le_of_ble_eq_true rfl⟩ ⟨rfl, rfl⟩ hl.1 rfl (Nat.le_of_ble_eq_true rfl) dX11_deal_141 ⟨Nat.le_of_ble_eq_true rfl, Nat.le_of_ble_eq_true rfl⟩ (fun v1523251 f1523252 H locs q1523253 hW => ?_)
                      obtain ⟨⟨x1523255, rfl, p1523256⟩, g1523254⟩ := q1523253
                      have p1523256 : (-6 : Int) ≤ x1523255.toInt ∧ x1523255.toInt ≤ -1 := p1523256
                      have hF := FM.tr hF g1523254 rfl
                      exact e_I E hW rfl ⟨⟨_, rfl, trivial⟩, hF⟩ dX11_deal_144
                  · refine lv_aload_n hx hb dX11_deal_120 rfl (lv_at hl 2 rfl) ?_
                    refine lv_bipush (v := (-3)) hx hb dX11_deal_121 (by decide) ?_
                    refine t_callV (As := [.int (-3)]) (rest := []) E hW (c_X11_refuse l G cI cJ cZ cD cR cT kp L f1523205 hW.2.2.2 _ h0 (-3) rh0 (by decide)) rh0 (by decide) rfl wk_X11_refuse tw_603 rfl ⟨Nat.le_of_ble_eq_true rfl, Nat.le_of_ble_eq_true rfl⟩ ⟨rfl, rfl⟩ hl.1 rfl (Nat.le_of_ble_eq_true rfl) dX11_deal_123 ⟨Nat.le_of_ble_eq_true rfl, Nat.le_of_ble_eq_true rfl⟩ (fun v1523257 f1523258 H locs q1523259 hW => ?_)
                    obtain ⟨⟨x1523261, rfl, p1523262⟩, g1523260⟩ := q1523259
                    have p1523262 : (-6 : Int) ≤ x1523261.toInt ∧ x1523261.toInt ≤ -1 := p1523262
                    have hF := FM.tr hF g1523260 rfl
                    exact e_I E hW rfl ⟨⟨_, rfl, trivial⟩, hF⟩ dX11_deal_126
      · clear p1523099
        refine lv_aload_n hx hb dX11_deal_53 rfl (lv_at hl 2 rfl) ?_
        refine lv_bipush (v := (-2)) hx hb dX11_deal_54 (by decide) ?_
        refine t_callV (As := [.int (-2)]) (rest := []) E hW (c_X11_refuse l G cI cJ cZ cD cR cT kp L f1523095 hW.2.2.2 _ h0 (-2) rh0 (by decide)) rh0 (by decide) rfl wk_X11_refuse tw_603 rfl ⟨Nat.le_of_ble_eq_true rfl, Nat.le_of_ble_eq_true rfl⟩ ⟨rfl, rfl⟩ hl.1 rfl (Nat.le_of_ble_eq_true rfl) dX11_deal_56 ⟨Nat.le_of_ble_eq_true rfl, Nat.le_of_ble_eq_true rfl⟩ (fun v1523263 f1523264 H locs q1523265 hW => ?_)
        obtain ⟨⟨x1523267, rfl, p1523268⟩, g1523266⟩ := q1523265
        have p1523268 : (-6 : Int) ≤ x1523267.toInt ∧ x1523267.toInt ≤ -1 := p1523268
        have hF := FM.tr hF g1523266 rfl
        exact e_I E hW rfl ⟨⟨_, rfl, trivial⟩, hF⟩ dX11_deal_59
  · have q1523269 : (u3.toInt < 1 ∨ 10000 < u3.toInt) := by omega
    clear p1523077
    refine lv_aload_n hx hb dX11_deal_29 rfl (lv_at hl 2 rfl) ?_
    refine lv_iconst (v := (-1)) hx hb dX11_deal_30 (by decide) ?_
    refine t_callV (As := [.int (-1)]) (rest := []) E hW (c_X11_refuse l G cI cJ cZ cD cR cT kp L f1523073 hW.2.2.2 _ h0 (-1) rh0 (by decide)) rh0 (by decide) rfl wk_X11_refuse tw_603 rfl ⟨Nat.le_of_ble_eq_true rfl, Nat.le_of_ble_eq_true rfl⟩ ⟨rfl, rfl⟩ hl.1 rfl (Nat.le_of_ble_eq_true rfl) dX11_deal_31 ⟨Nat.le_of_ble_eq_true rfl, Nat.le_of_ble_eq_true rfl⟩ (fun v1523270 f1523271 H locs q1523272 hW => ?_)
    obtain ⟨⟨x1523274, rfl, p1523275⟩, g1523273⟩ := q1523272
    have p1523275 : (-6 : Int) ≤ x1523274.toInt ∧ x1523274.toInt ≤ -1 := p1523275
    have hF := FM.tr hF g1523273 rfl
    exact e_I E hW rfl ⟨⟨_, rfl, trivial⟩, hF⟩ dX11_deal_34
def ms_X11_end : List (Nat × Nat) := [(8, 0)]
def po_X11_end (kp : Nat → Nat) (L : List Nat) (f0 : Nat → va_E) (h0 : Nat) (u1 : Int32) : Option Value → (Nat → va_E) → Prop := fun v f => (∃ r : Int32, v = some (.int r) ∧ ((-1 : Int) ≤ r.toInt ∧ r.toInt ≤ 400)) ∧ FM kp L ms_X11_end f0 f
set_option maxHeartbeats 4000000 in
set_option maxRecDepth 100000 in
theorem c_X11_end (l : Launch) (G : va_G) (cI cJ cZ cD cR cT : ClassId) (kp : Nat → Nat) (L : List Nat) (f0 : Nat → va_E) (hTH : TH cI cJ cZ cD cR cT kp L f0) (sz : Nat) (h0 : Nat) (u1 : Int32) (rh0 : RK kp L h0 11) : Met l yX11_end (Cond.code yX11_end cX11_end 2 (some .int) :: wTab) ({ frames := 2, cells := 0, slots := 0, locals := 62 }) (va_Pc [.ref h0, .int u1] (PreW G (tys6 cI cJ cZ cD cR cT) (va_pl L f0) sz)) (QT (po_X11_end kp L f0 h0 u1) G cI cJ cZ cD cR cT (va_A (va_pl L f0) sz) kp L) 0 0 (va_A (va_pl L f0) sz) := by
  refine metT (by decide) (Nat.le_of_ble_eq_true rfl) hTH ?_
  intro p e s m below meth c A ls E hW hl
  obtain ⟨hx, hb, -, hml, hown, hts, -, -, -⟩ := id E
  have hF : FM kp L ms_X11_end f0 f0 := FM.rf
  have hl : lv_has ls 2 [(0, .ref h0), (1, .int u1)] := hl
  refine lv_iload_n hx hb dX11_end_0 rfl (lv_at hl 1 rfl) ?_
  refine lv_iconst (v := 0) hx hb dX11_end_1 (by decide) ?_
  refine lv_aload_n hx hb dX11_end_2 rfl (lv_at hl 0 rfl) ?_
  refine fg_RX11_30 E hW rh0 dX11_end_3 (fun a1523276 m1523277 r1523278 => ?_)
  refine fg_RX11_209 E hW r1523278 dX11_end_6 (fun y1523279 m1523280 b1523281 => ?_)
  refine t_callS (As := [.int u1, .int 0, .int y1523279]) (rest := []) E hW (c_X11_within l G cI cJ cZ cD cR cT kp L f0 hW.2.2.2 _ u1 0 y1523279 (by decide)) wk_X11_within tw_599 rfl ⟨Nat.le_of_ble_eq_true rfl, Nat.le_of_ble_eq_true rfl⟩ ⟨rfl, rfl⟩ hl.1 rfl (Nat.le_of_ble_eq_true rfl) dX11_end_9 ⟨Nat.le_of_ble_eq_true rfl, Nat.le_of_ble_eq_true rfl⟩ (fun v1523282 f1523283 H locs q1523284 hW => ?_)
  obtain ⟨⟨x1523286, rfl, p1523287⟩, g1523285⟩ := q1523284
  have p1523287 : (x1523286.toInt = 1 ∧ 0 ≤ u1.toInt ∧ u1.toInt ≤ y1523279.toInt) ∨ (x1523286.toInt = 0 ∧ (u1.toInt < 0 ∨ y1523279.toInt < u1.toInt)) := p1523287
  have hF := FM.tr hF g1523285 rfl
  refine q_if_ne (tgt := 17) hx hb dX11_end_12 (by decide) rfl (fun c1523288 => ?_) (fun c1523288 => ?_)
  · have q1523289 : 0 ≤ u1.toInt ∧ u1.toInt ≤ y1523279.toInt := by omega
    clear p1523287
    refine lv_aload_n hx hb dX11_end_17 rfl (lv_at hl 0 rfl) ?_
    refine fg_RX11_30 E hW rh0 dX11_end_18 (fun a1523290 m1523291 r1523292 => ?_)
    obtain rfl : a1523276 = a1523290 := (((fm_R g1523285 rh0 rfl).trans m1523277)).symm.trans m1523291
    refine lv_iload_n hx hb dX11_end_21 rfl (lv_at hl 1 rfl) ?_
    refine fp_RX11_209 E hW r1523278 (by omega) dX11_end_22 (fun f1523293 H locs e1523294 n1523295 g1523296 hW => ?_)
    have hF := FM.tr hF g1523296 rfl
    refine lv_iload_n hx hb dX11_end_25 rfl (lv_at hl 1 rfl) ?_
    exact e_I E hW rfl ⟨⟨_, rfl, (by first | omega | trivial)⟩, hF⟩ dX11_end_26
  · have q1523297 : (u1.toInt < 0 ∨ y1523279.toInt < u1.toInt) := by omega
    clear p1523287
    refine lv_iconst (v := (-1)) hx hb dX11_end_15 (by decide) ?_
    exact e_I E hW rfl ⟨⟨_, rfl, (by have hk : ((-1) : Int32).toInt = -1 := rfl; first | decide | omega)⟩, hF⟩ dX11_end_16
def ms_X11_estate : List (Nat × Nat) := [(1, 8), (11, 15), (169, 0), (170, 0), (171, 0)]
def po_X11_estate (kp : Nat → Nat) (L : List Nat) (f0 : Nat → va_E) (h0 : Nat) (u1 : Int32) (u2 : Int32) : Option Value → (Nat → va_E) → Prop := fun v f => (∃ r : Int32, v = some (.int r) ∧ (True)) ∧ FM kp L ms_X11_estate f0 f
set_option maxHeartbeats 4000000 in
set_option maxRecDepth 100000 in
theorem c_X11_estate (l : Launch) (G : va_G) (cI cJ cZ cD cR cT : ClassId) (kp : Nat → Nat) (L : List Nat) (f0 : Nat → va_E) (hTH : TH cI cJ cZ cD cR cT kp L f0) (sz : Nat) (h0 : Nat) (u1 : Int32) (u2 : Int32) (rh0 : RK kp L h0 11) : Met l yX11_estate (Cond.code yX11_estate cX11_estate 3 (some .int) :: wTab) ({ frames := 2, cells := 0, slots := 0, locals := 63 }) (va_Pc [.ref h0, .int u1, .int u2] (PreW G (tys6 cI cJ cZ cD cR cT) (va_pl L f0) sz)) (QT (po_X11_estate kp L f0 h0 u1 u2) G cI cJ cZ cD cR cT (va_A (va_pl L f0) sz) kp L) 0 0 (va_A (va_pl L f0) sz) := by
  refine metT (by decide) (Nat.le_of_ble_eq_true rfl) hTH ?_
  intro p e s m below meth c A ls E hW hl
  obtain ⟨hx, hb, -, hml, hown, hts, -, -, -⟩ := id E
  have hF : FM kp L ms_X11_estate f0 f0 := FM.rf
  have hl : lv_has ls 3 [(0, .ref h0), (1, .int u1), (2, .int u2)] := hl
  refine lv_iload_n hx hb dX11_estate_0 rfl (lv_at hl 1 rfl) ?_
  refine lv_iconst (v := 0) hx hb dX11_estate_1 (by decide) ?_
  refine lv_ldc (v := 10000000) hx hb hown (hts _ tw_643) dX11_estate_2 ?_
  refine t_callS (As := [.int u1, .int 0, .int 10000000]) (rest := []) E hW (c_X11_within l G cI cJ cZ cD cR cT kp L f0 hW.2.2.2 _ u1 0 10000000 (by decide)) wk_X11_within tw_599 rfl ⟨Nat.le_of_ble_eq_true rfl, Nat.le_of_ble_eq_true rfl⟩ ⟨rfl, rfl⟩ hl.1 rfl (Nat.le_of_ble_eq_true rfl) dX11_estate_4 ⟨Nat.le_of_ble_eq_true rfl, Nat.le_of_ble_eq_true rfl⟩ (fun v1523298 f1523299 H locs q1523300 hW => ?_)
  obtain ⟨⟨x1523302, rfl, p1523303⟩, g1523301⟩ := q1523300
  have p1523303 : (x1523302.toInt = 1 ∧ 0 ≤ u1.toInt ∧ u1.toInt ≤ 10000000) ∨ (x1523302.toInt = 0 ∧ (u1.toInt < 0 ∨ 10000000 < u1.toInt)) := p1523303
  have hF := FM.tr hF g1523301 rfl
  refine q_if_eq (tgt := 20) hx hb dX11_estate_7 (by decide) rfl (fun c1523304 => ?_) (fun c1523304 => ?_)
  · have q1523305 : (u1.toInt < 0 ∨ 10000000 < u1.toInt) := by omega
    clear p1523303
    refine lv_aload_n hx hb dX11_estate_20 rfl (lv_at hl 0 rfl) ?_
    refine lv_iconst (v := (-1)) hx hb dX11_estate_21 (by decide) ?_
    refine t_callV (As := [.int (-1)]) (rest := []) E hW (c_X11_refuse l G cI cJ cZ cD cR cT kp L f1523299 hW.2.2.2 _ h0 (-1) rh0 (by decide)) rh0 (by decide) rfl wk_X11_refuse tw_603 rfl ⟨Nat.le_of_ble_eq_true rfl, Nat.le_of_ble_eq_true rfl⟩ ⟨rfl, rfl⟩ hl.1 rfl (Nat.le_of_ble_eq_true rfl) dX11_estate_22 ⟨Nat.le_of_ble_eq_true rfl, Nat.le_of_ble_eq_true rfl⟩ (fun v1523306 f1523307 H locs q1523308 hW => ?_)
    obtain ⟨⟨x1523310, rfl, p1523311⟩, g1523309⟩ := q1523308
    have p1523311 : (-6 : Int) ≤ x1523310.toInt ∧ x1523310.toInt ≤ -1 := p1523311
    have hF := FM.tr hF g1523309 rfl
    exact e_I E hW rfl ⟨⟨_, rfl, trivial⟩, hF⟩ dX11_estate_25
  · have q1523312 : 0 ≤ u1.toInt ∧ u1.toInt ≤ 10000000 := by omega
    clear p1523303
    refine lv_iload_n hx hb dX11_estate_10 rfl (lv_at hl 2 rfl) ?_
    refine lv_iconst (v := 0) hx hb dX11_estate_11 (by decide) ?_
    refine lv_ldc (v := 1000000) hx hb hown (hts _ tw_602) dX11_estate_12 ?_
    refine t_callS (As := [.int u2, .int 0, .int 1000000]) (rest := []) E hW (c_X11_within l G cI cJ cZ cD cR cT kp L f1523299 hW.2.2.2 _ u2 0 1000000 (by decide)) wk_X11_within tw_599 rfl ⟨Nat.le_of_ble_eq_true rfl, Nat.le_of_ble_eq_true rfl⟩ ⟨rfl, rfl⟩ hl.1 rfl (Nat.le_of_ble_eq_true rfl) dX11_estate_14 ⟨Nat.le_of_ble_eq_true rfl, Nat.le_of_ble_eq_true rfl⟩ (fun v1523313 f1523314 H locs q1523315 hW => ?_)
    obtain ⟨⟨x1523317, rfl, p1523318⟩, g1523316⟩ := q1523315
    have p1523318 : (x1523317.toInt = 1 ∧ 0 ≤ u2.toInt ∧ u2.toInt ≤ 1000000) ∨ (x1523317.toInt = 0 ∧ (u2.toInt < 0 ∨ 1000000 < u2.toInt)) := p1523318
    have hF := FM.tr hF g1523316 rfl
    refine q_if_ne (tgt := 26) hx hb dX11_estate_17 (by decide) rfl (fun c1523319 => ?_) (fun c1523319 => ?_)
    · have q1523320 : 0 ≤ u2.toInt ∧ u2.toInt ≤ 1000000 := by omega
      clear p1523318
      refine lv_aload_n hx hb dX11_estate_26 rfl (lv_at hl 0 rfl) ?_
      refine fg_RX11_12 E hW rh0 dX11_estate_27 (fun a1523321 m1523322 r1523323 => ?_)
      refine fg_RX11_114 E hW r1523323 dX11_estate_30 (fun a1523324 m1523325 r1523326 => ?_)
      refine fg_RX11_118 E hW r1523326 dX11_estate_33 (fun y1523327 m1523328 b1523329 => ?_)
      refine lv_bipush (v := 8) hx hb dX11_estate_36 (by decide) ?_
      refine q_icmp_lt (Y := 8) (tgt := 48) hx hb dX11_estate_38 (by decide) rfl rfl (fun c1523330 => ?_) (fun c1523330 => ?_)
      · refine lv_aload_n hx hb dX11_estate_48 rfl (lv_at hl 0 rfl) ?_
        refine lv_aload_n hx hb dX11_estate_49 rfl (lv_at hl 0 rfl) ?_
        refine fg_RX11_12 E hW rh0 dX11_estate_50 (fun a1523331 m1523332 r1523333 => ?_)
        obtain rfl : a1523321 = a1523331 := (m1523322).symm.trans m1523332
        refine fg_RX11_114 E hW r1523323 dX11_estate_53 (fun a1523334 m1523335 r1523336 => ?_)
        obtain rfl : a1523324 = a1523334 := (m1523325).symm.trans m1523335
        refine lv_iload_n hx hb dX11_estate_56 rfl (lv_at hl 1 rfl) ?_
        refine lv_iload_n hx hb dX11_estate_57 rfl (lv_at hl 2 rfl) ?_
        refine t_callV (As := [.int u1, .int u2]) (rest := [.ref h0]) E hW (c_X1_addEstate l G cI cJ cZ cD cR cT kp L f1523314 hW.2.2.2 _ a1523324 u1 u2 r1523326 (by omega) (by omega)) r1523326 (by decide) rfl wk_X1_addEstate tw_650 rfl ⟨Nat.le_of_ble_eq_true rfl, Nat.le_of_ble_eq_true rfl⟩ ⟨rfl, rfl⟩ hl.1 rfl (Nat.le_of_ble_eq_true rfl) dX11_estate_58 ⟨Nat.le_of_ble_eq_true rfl, Nat.le_of_ble_eq_true rfl⟩ (fun v1523337 f1523338 H locs q1523339 hW => ?_)
        obtain ⟨⟨x1523341, rfl, p1523342⟩, g1523340⟩ := q1523339
        have hF := FM.tr hF g1523340 rfl
        refine t_callV (As := [.int x1523341]) (rest := []) E hW (c_X11_accept l G cI cJ cZ cD cR cT kp L f1523338 hW.2.2.2 _ h0 x1523341 rh0) rh0 (by decide) rfl wk_X11_accept tw_611 rfl ⟨Nat.le_of_ble_eq_true rfl, Nat.le_of_ble_eq_true rfl⟩ ⟨rfl, rfl⟩ hl.1 rfl (Nat.le_of_ble_eq_true rfl) dX11_estate_61 ⟨Nat.le_of_ble_eq_true rfl, Nat.le_of_ble_eq_true rfl⟩ (fun v1523343 f1523344 H locs q1523345 hW => ?_)
        obtain ⟨⟨x1523347, rfl, p1523348⟩, g1523346⟩ := q1523345
        clear p1523348
        have hF := FM.tr hF g1523346 rfl
        exact e_I E hW rfl ⟨⟨_, rfl, trivial⟩, hF⟩ dX11_estate_64
      · refine lv_aload_n hx hb dX11_estate_41 rfl (lv_at hl 0 rfl) ?_
        refine lv_bipush (v := (-5)) hx hb dX11_estate_42 (by decide) ?_
        refine t_callV (As := [.int (-5)]) (rest := []) E hW (c_X11_refuse l G cI cJ cZ cD cR cT kp L f1523314 hW.2.2.2 _ h0 (-5) rh0 (by decide)) rh0 (by decide) rfl wk_X11_refuse tw_603 rfl ⟨Nat.le_of_ble_eq_true rfl, Nat.le_of_ble_eq_true rfl⟩ ⟨rfl, rfl⟩ hl.1 rfl (Nat.le_of_ble_eq_true rfl) dX11_estate_44 ⟨Nat.le_of_ble_eq_true rfl, Nat.le_of_ble_eq_true rfl⟩ (fun v1523349 f1523350 H locs q1523351 hW => ?_)
        obtain ⟨⟨x1523353, rfl, p1523354⟩, g1523352⟩ := q1523351
        have p1523354 : (-6 : Int) ≤ x1523353.toInt ∧ x1523353.toInt ≤ -1 := p1523354
        have hF := FM.tr hF g1523352 rfl
        exact e_I E hW rfl ⟨⟨_, rfl, trivial⟩, hF⟩ dX11_estate_47
    · have q1523355 : (u2.toInt < 0 ∨ 1000000 < u2.toInt) := by omega
      clear p1523318
      refine lv_aload_n hx hb dX11_estate_20 rfl (lv_at hl 0 rfl) ?_
      refine lv_iconst (v := (-1)) hx hb dX11_estate_21 (by decide) ?_
      refine t_callV (As := [.int (-1)]) (rest := []) E hW (c_X11_refuse l G cI cJ cZ cD cR cT kp L f1523314 hW.2.2.2 _ h0 (-1) rh0 (by decide)) rh0 (by decide) rfl wk_X11_refuse tw_603 rfl ⟨Nat.le_of_ble_eq_true rfl, Nat.le_of_ble_eq_true rfl⟩ ⟨rfl, rfl⟩ hl.1 rfl (Nat.le_of_ble_eq_true rfl) dX11_estate_22 ⟨Nat.le_of_ble_eq_true rfl, Nat.le_of_ble_eq_true rfl⟩ (fun v1523356 f1523357 H locs q1523358 hW => ?_)
      obtain ⟨⟨x1523360, rfl, p1523361⟩, g1523359⟩ := q1523358
      have p1523361 : (-6 : Int) ≤ x1523360.toInt ∧ x1523360.toInt ≤ -1 := p1523361
      have hF := FM.tr hF g1523359 rfl
      exact e_I E hW rfl ⟨⟨_, rfl, trivial⟩, hF⟩ dX11_estate_25
def ms_X11_fault : List (Nat × Nat) := []
def po_X11_fault (kp : Nat → Nat) (L : List Nat) (f0 : Nat → va_E) (h0 : Nat) : Option Value → (Nat → va_E) → Prop := fun v f => (∃ r : Int32, v = some (.int r) ∧ (True)) ∧ FM kp L ms_X11_fault f0 f
set_option maxHeartbeats 4000000 in
set_option maxRecDepth 100000 in
theorem c_X11_fault (l : Launch) (G : va_G) (cI cJ cZ cD cR cT : ClassId) (kp : Nat → Nat) (L : List Nat) (f0 : Nat → va_E) (hTH : TH cI cJ cZ cD cR cT kp L f0) (sz : Nat) (h0 : Nat) (rh0 : RK kp L h0 11) : Met l yX11_fault (Cond.code yX11_fault cX11_fault 1 (some .int) :: wTab) ({ frames := 1, cells := 0, slots := 0, locals := 40 }) (va_Pc [.ref h0] (PreW G (tys6 cI cJ cZ cD cR cT) (va_pl L f0) sz)) (QT (po_X11_fault kp L f0 h0) G cI cJ cZ cD cR cT (va_A (va_pl L f0) sz) kp L) 0 0 (va_A (va_pl L f0) sz) := by
  refine metT (by decide) (Nat.le_of_ble_eq_true rfl) hTH ?_
  intro p e s m below meth c A ls E hW hl
  obtain ⟨hx, hb, -, hml, hown, hts, -, -, -⟩ := id E
  have hF : FM kp L ms_X11_fault f0 f0 := FM.rf
  have hl : lv_has ls 1 [(0, .ref h0)] := hl
  refine lv_aload_n hx hb dX11_fault_0 rfl (lv_at hl 0 rfl) ?_
  refine fg_RX11_37 E hW rh0 dX11_fault_1 (fun a1523362 m1523363 r1523364 => ?_)
  refine fg_RX11_233 E hW r1523364 dX11_fault_4 (fun y1523365 m1523366 => ?_)
  exact e_I E hW rfl ⟨⟨_, rfl, trivial⟩, hF⟩ dX11_fault_7
def ms_X8_append : List (Nat × Nat) := [(8, 0), (581, 0)]
def po_X8_append (kp : Nat → Nat) (L : List Nat) (f0 : Nat → va_E) (h0 : Nat) (u1 : Int32) : Option Value → (Nat → va_E) → Prop := fun v f => v = none ∧ FM kp L ms_X8_append f0 f
set_option maxHeartbeats 4000000 in
set_option maxRecDepth 100000 in
theorem c_X8_append (l : Launch) (G : va_G) (cI cJ cZ cD cR cT : ClassId) (kp : Nat → Nat) (L : List Nat) (f0 : Nat → va_E) (hTH : TH cI cJ cZ cD cR cT kp L f0) (sz : Nat) (h0 : Nat) (u1 : Int32) (rh0 : RK kp L h0 8) : Met l yX8_append (Cond.code yX8_append cX8_append 3 none :: wTab) ({ frames := 1, cells := 0, slots := 0, locals := 40 }) (va_Pc [.ref h0, .int u1] (PreW G (tys6 cI cJ cZ cD cR cT) (va_pl L f0) sz)) (QT (po_X8_append kp L f0 h0 u1) G cI cJ cZ cD cR cT (va_A (va_pl L f0) sz) kp L) 0 0 (va_A (va_pl L f0) sz) := by
  refine metT (by decide) (Nat.le_of_ble_eq_true rfl) hTH ?_
  intro p e s m below meth c A ls E hW hl
  obtain ⟨hx, hb, -, hml, hown, hts, -, -, -⟩ := id E
  have hF : FM kp L ms_X8_append f0 f0 := FM.rf
  have hl : lv_has ls 3 [(0, .ref h0), (1, .int u1)] := hl
  refine lv_bipush (v := 24) hx hb dX8_append_0 (by decide) ?_
  refine lv_istore_n (lv' := [(2, .int 24), (0, .ref h0), (1, .int u1)]) hx hb dX8_append_2 rfl hl (by decide) rfl (fun ls hl => ?_)
  have L1523531 : ∀ (n : Nat), ∀ (f1523528 : Nat → va_E) (y1523529 : Int32) (b1523530 : (-8 : Int) ≤ y1523529.toInt ∧ y1523529.toInt ≤ 24) (hm : y1523529.toInt - (-9 : Int) ≤ n) (H : Heap) (locs : List Loc) (ls : Array Slot), WS G cI cJ cZ cD cR cT A kp L f1523528 s H locs → FM kp L ms_X8_append f0 f1523528 → lv_has ls 3 [(2, .int y1523529), (0, .ref h0), (1, .int u1)] → W p l e ({ frames := 1, cells := 0, slots := 0, locals := 40 }) s m ([.ref h0, .int u1] : List Value).toArray below meth c H locs 0 0 (MQ below (QT (po_X8_append kp L f0 h0 u1) G cI cJ cZ cD cR cT A kp L) ([.ref h0, .int u1] : List Value).toArray s 0 0 A) (F0 m 3 ls []) := by
    intro n
    induction n with
    | zero =>
      intro f1523528 y1523529 b1523530 hm H locs ls hW hF hl
      have hz := i32_b y1523529
      exfalso; omega
    | succ n ih =>
      intro f1523528 y1523529 b1523530 hm H locs ls hW hF hl
      have ih3 := ih
      refine lv_iload_n hx hb dX8_append_3 rfl (lv_at hl 0 rfl) ?_
      have J1523560 : ∀ (H : Heap) (locs : List Loc) (ls : Array Slot), WS G cI cJ cZ cD cR cT A kp L f1523528 s H locs → FM kp L ms_X8_append f0 f1523528 → lv_has ls 3 [(2, .int y1523529), (0, .ref h0), (1, .int u1)] → W p l e ({ frames := 1, cells := 0, slots := 0, locals := 40 }) s m ([.ref h0, .int u1] : List Value).toArray below meth c H locs 0 0 (MQ below (QT (po_X8_append kp L f0 h0 u1) G cI cJ cZ cD cR cT A kp L) ([.ref h0, .int u1] : List Value).toArray s 0 0 A) (F0 m 49 ls []) := by
        intro  H locs ls hW hF hl
        exact e_V E hW rfl ⟨rfl, hF⟩ dX8_append_49
      refine q_if_lt (tgt := 49) hx hb dX8_append_4 (by decide) rfl (fun c1523561 => ?_) (fun c1523561 => ?_)
      · exact J1523560   _ _ _ hW hF (lv_sub hl [0, 1, 2] rfl)
      · refine lv_aload_n hx hb dX8_append_7 rfl (lv_at hl 1 rfl) ?_
        refine fg_RX8_19 E hW rh0 dX8_append_8 (fun y1523562 m1523563 b1523564 => ?_)
        refine lv_sipush (v := 400) hx hb dX8_append_11 (by decide) ?_
        refine q_icmp_ge (Y := 400) (tgt := 49) hx hb dX8_append_14 (by decide) rfl rfl (fun c1523565 => ?_) (fun c1523565 => ?_)
        · exact J1523560   _ _ _ hW hF (lv_sub hl [0, 1, 2] rfl)
        · refine lv_aload_n hx hb dX8_append_17 rfl (lv_at hl 1 rfl) ?_
          refine fg_RX8_9 E hW rh0 dX8_append_18 (fun a1523566 m1523567 r1523568 => ?_)
          refine lv_aload_n hx hb dX8_append_21 rfl (lv_at hl 1 rfl) ?_
          refine fg_RX8_19 E hW rh0 dX8_append_22 (fun y1523569 m1523570 b1523571 => ?_)
          obtain rfl : y1523562 = y1523569 := (m1523563).symm.trans m1523570
          refine lv_iload_n hx hb dX8_append_25 rfl (lv_at hl 2 rfl) ?_
          refine lv_iload_n hx hb dX8_append_26 rfl (lv_at hl 0 rfl) ?_
          refine u_iushr hx hb dX8_append_27 (fun x1523572 => ?_)
          refine lv_sipush (v := 255) hx hb dX8_append_28 (by decide) ?_
          refine q_iand (M := 255) (k := 8) hx hb dX8_append_31 (by decide) (by decide) (by decide) (fun x1523573 h1523574 => ?_)
          refine gs_581 E hW r1523568 ⟨by omega, by omega⟩ dX8_append_32 (fun f1523575 H locs e1523576 n1523577 g1523578 hW => ?_)
          have hF := FM.tr hF g1523578 rfl
          refine lv_aload_n hx hb dX8_append_33 rfl (lv_at hl 1 rfl) ?_
          refine lv_dup hx hb dX8_append_34 rfl ?_
          refine fg_RX8_19 E hW rh0 dX8_append_35 (fun y1523579 m1523580 b1523581 => ?_)
          obtain rfl : y1523562 = y1523579 := (((fm_I g1523578 rh0 rfl).trans m1523570)).symm.trans m1523580
          refine lv_iconst (v := 1) hx hb dX8_append_38 (by decide) ?_
          refine q_iadd (Y := 1) hx hb dX8_append_39 rfl rfl (by omega) (fun x1523582 h1523583 => ?_)
          refine fp_RX8_19 E hW rh0 (by omega) dX8_append_40 (fun f1523584 H locs e1523585 n1523586 g1523587 hW => ?_)
          have hF := FM.tr hF g1523587 rfl
          refine q_iinc hx hb dX8_append_43 hl (k := 0) rfl rfl rfl (by omega) (by decide) (fun i1523588 ls h1523589 hl => ?_)
          have hl : lv_has ls 3 [(2, .int i1523588), (0, .ref h0), (1, .int u1)] := hl
          refine lv_goto (tgt := 3) hx hb dX8_append_46 (by decide) ?_
          exact ih3 f1523584 i1523588 (by omega) (by omega) _ _ _ hW hF (lv_sub hl [0, 1, 2] rfl)
  have hk1523590 : (24 : Int32).toInt = 24 := rfl
  exact L1523531 33 f0 24 (by decide) (by omega) _ _ _ hW hF (lv_sub hl [0, 1, 2] rfl)
def ms_X11_feed : List (Nat × Nat) := [(8, 0), (581, 0)]
def po_X11_feed (kp : Nat → Nat) (L : List Nat) (f0 : Nat → va_E) (h0 : Nat) (u1 : Int32) (u2 : Int32) (u3 : Int32) (u4 : Int32) (u5 : Int32) : Option Value → (Nat → va_E) → Prop := fun v f => (∃ r : Int32, v = some (.int r) ∧ ((-1 : Int) ≤ r.toInt ∧ r.toInt ≤ 400)) ∧ FM kp L ms_X11_feed f0 f
set_option maxHeartbeats 4000000 in
set_option maxRecDepth 100000 in
theorem c_X11_feed (l : Launch) (G : va_G) (cI cJ cZ cD cR cT : ClassId) (kp : Nat → Nat) (L : List Nat) (f0 : Nat → va_E) (hTH : TH cI cJ cZ cD cR cT kp L f0) (sz : Nat) (h0 : Nat) (u1 : Int32) (u2 : Int32) (u3 : Int32) (u4 : Int32) (u5 : Int32) (rh0 : RK kp L h0 11) : Met l yX11_feed (Cond.code yX11_feed cX11_feed 6 (some .int) :: wTab) ({ frames := 2, cells := 0, slots := 0, locals := 62 }) (va_Pc [.ref h0, .int u1, .int u2, .int u3, .int u4, .int u5] (PreW G (tys6 cI cJ cZ cD cR cT) (va_pl L f0) sz)) (QT (po_X11_feed kp L f0 h0 u1 u2 u3 u4 u5) G cI cJ cZ cD cR cT (va_A (va_pl L f0) sz) kp L) 0 0 (va_A (va_pl L f0) sz) := by
  refine metT (by decide) (Nat.le_of_ble_eq_true rfl) hTH ?_
  intro p e s m below meth c A ls E hW hl
  obtain ⟨hx, hb, -, hml, hown, hts, -, -, -⟩ := id E
  have hF : FM kp L ms_X11_feed f0 f0 := FM.rf
  have hl : lv_has ls 6 [(0, .ref h0), (1, .int u1), (2, .int u2), (3, .int u3), (4, .int u4), (5, .int u5)] := hl
  refine lv_aload_n hx hb dX11_feed_0 rfl (lv_at hl 0 rfl) ?_
  refine fg_RX11_30 E hW rh0 dX11_feed_1 (fun a1523591 m1523592 r1523593 => ?_)
  refine fg_RX11_209 E hW r1523593 dX11_feed_4 (fun y1523594 m1523595 b1523596 => ?_)
  refine lv_bipush (v := 20) hx hb dX11_feed_7 (by decide) ?_
  refine q_iadd (Y := 20) hx hb dX11_feed_9 rfl rfl (by omega) (fun x1523597 h1523598 => ?_)
  refine lv_sipush (v := 400) hx hb dX11_feed_10 (by decide) ?_
  refine q_icmp_le (Y := 400) (tgt := 18) hx hb dX11_feed_13 (by decide) rfl rfl (fun c1523599 => ?_) (fun c1523599 => ?_)
  · refine lv_aload_n hx hb dX11_feed_18 rfl (lv_at hl 0 rfl) ?_
    refine fg_RX11_30 E hW rh0 dX11_feed_19 (fun a1523600 m1523601 r1523602 => ?_)
    obtain rfl : a1523591 = a1523600 := (m1523592).symm.trans m1523601
    refine lv_iload_n hx hb dX11_feed_22 rfl (lv_at hl 1 rfl) ?_
    refine t_callV (As := [.int u1]) (rest := []) E hW (c_X8_append l G cI cJ cZ cD cR cT kp L f0 hW.2.2.2 _ a1523591 u1 r1523593) r1523593 (by decide) rfl wk_X8_append tw_851 rfl ⟨Nat.le_of_ble_eq_true rfl, Nat.le_of_ble_eq_true rfl⟩ ⟨rfl, rfl⟩ hl.1 rfl (Nat.le_of_ble_eq_true rfl) dX11_feed_23 ⟨Nat.le_of_ble_eq_true rfl, Nat.le_of_ble_eq_true rfl⟩ (fun v1523603 f1523604 H locs q1523605 hW => ?_)
    obtain ⟨rfl, g1523606⟩ := q1523605
    have hF := FM.tr hF g1523606 rfl
    refine lv_aload_n hx hb dX11_feed_26 rfl (lv_at hl 0 rfl) ?_
    refine fg_RX11_30 E hW rh0 dX11_feed_27 (fun a1523607 m1523608 r1523609 => ?_)
    obtain rfl : a1523591 = a1523607 := (((fm_R g1523606 rh0 rfl).trans m1523601)).symm.trans m1523608
    refine lv_iload_n hx hb dX11_feed_30 rfl (lv_at hl 2 rfl) ?_
    refine t_callV (As := [.int u2]) (rest := []) E hW (c_X8_append l G cI cJ cZ cD cR cT kp L f1523604 hW.2.2.2 _ a1523591 u2 r1523593) r1523593 (by decide) rfl wk_X8_append tw_851 rfl ⟨Nat.le_of_ble_eq_true rfl, Nat.le_of_ble_eq_true rfl⟩ ⟨rfl, rfl⟩ hl.1 rfl (Nat.le_of_ble_eq_true rfl) dX11_feed_31 ⟨Nat.le_of_ble_eq_true rfl, Nat.le_of_ble_eq_true rfl⟩ (fun v1523610 f1523611 H locs q1523612 hW => ?_)
    obtain ⟨rfl, g1523613⟩ := q1523612
    have hF := FM.tr hF g1523613 rfl
    refine lv_aload_n hx hb dX11_feed_34 rfl (lv_at hl 0 rfl) ?_
    refine fg_RX11_30 E hW rh0 dX11_feed_35 (fun a1523614 m1523615 r1523616 => ?_)
    obtain rfl : a1523591 = a1523614 := (((fm_R g1523613 rh0 rfl).trans m1523608)).symm.trans m1523615
    refine lv_iload_n hx hb dX11_feed_38 rfl (lv_at hl 3 rfl) ?_
    refine t_callV (As := [.int u3]) (rest := []) E hW (c_X8_append l G cI cJ cZ cD cR cT kp L f1523611 hW.2.2.2 _ a1523591 u3 r1523593) r1523593 (by decide) rfl wk_X8_append tw_851 rfl ⟨Nat.le_of_ble_eq_true rfl, Nat.le_of_ble_eq_true rfl⟩ ⟨rfl, rfl⟩ hl.1 rfl (Nat.le_of_ble_eq_true rfl) dX11_feed_39 ⟨Nat.le_of_ble_eq_true rfl, Nat.le_of_ble_eq_true rfl⟩ (fun v1523617 f1523618 H locs q1523619 hW => ?_)
    obtain ⟨rfl, g1523620⟩ := q1523619
    have hF := FM.tr hF g1523620 rfl
    refine lv_aload_n hx hb dX11_feed_42 rfl (lv_at hl 0 rfl) ?_
    refine fg_RX11_30 E hW rh0 dX11_feed_43 (fun a1523621 m1523622 r1523623 => ?_)
    obtain rfl : a1523591 = a1523621 := (((fm_R g1523620 rh0 rfl).trans m1523615)).symm.trans m1523622
    refine lv_iload hx hb dX11_feed_46 (lv_at hl 4 rfl) ?_
    refine t_callV (As := [.int u4]) (rest := []) E hW (c_X8_append l G cI cJ cZ cD cR cT kp L f1523618 hW.2.2.2 _ a1523591 u4 r1523593) r1523593 (by decide) rfl wk_X8_append tw_851 rfl ⟨Nat.le_of_ble_eq_true rfl, Nat.le_of_ble_eq_true rfl⟩ ⟨rfl, rfl⟩ hl.1 rfl (Nat.le_of_ble_eq_true rfl) dX11_feed_48 ⟨Nat.le_of_ble_eq_true rfl, Nat.le_of_ble_eq_true rfl⟩ (fun v1523624 f1523625 H locs q1523626 hW => ?_)
    obtain ⟨rfl, g1523627⟩ := q1523626
    have hF := FM.tr hF g1523627 rfl
    refine lv_aload_n hx hb dX11_feed_51 rfl (lv_at hl 0 rfl) ?_
    refine fg_RX11_30 E hW rh0 dX11_feed_52 (fun a1523628 m1523629 r1523630 => ?_)
    obtain rfl : a1523591 = a1523628 := (((fm_R g1523627 rh0 rfl).trans m1523622)).symm.trans m1523629
    refine lv_iload hx hb dX11_feed_55 (lv_at hl 5 rfl) ?_
    refine t_callV (As := [.int u5]) (rest := []) E hW (c_X8_append l G cI cJ cZ cD cR cT kp L f1523625 hW.2.2.2 _ a1523591 u5 r1523593) r1523593 (by decide) rfl wk_X8_append tw_851 rfl ⟨Nat.le_of_ble_eq_true rfl, Nat.le_of_ble_eq_true rfl⟩ ⟨rfl, rfl⟩ hl.1 rfl (Nat.le_of_ble_eq_true rfl) dX11_feed_57 ⟨Nat.le_of_ble_eq_true rfl, Nat.le_of_ble_eq_true rfl⟩ (fun v1523631 f1523632 H locs q1523633 hW => ?_)
    obtain ⟨rfl, g1523634⟩ := q1523633
    have hF := FM.tr hF g1523634 rfl
    refine lv_aload_n hx hb dX11_feed_60 rfl (lv_at hl 0 rfl) ?_
    refine fg_RX11_30 E hW rh0 dX11_feed_61 (fun a1523635 m1523636 r1523637 => ?_)
    obtain rfl : a1523591 = a1523635 := (((fm_R g1523634 rh0 rfl).trans m1523629)).symm.trans m1523636
    refine fg_RX11_209 E hW r1523593 dX11_feed_64 (fun y1523638 m1523639 b1523640 => ?_)
    exact e_I E hW rfl ⟨⟨_, rfl, (by first | omega | trivial)⟩, hF⟩ dX11_feed_67
  · refine lv_iconst (v := (-1)) hx hb dX11_feed_16 (by decide) ?_
    exact e_I E hW rfl ⟨⟨_, rfl, (by have hk : ((-1) : Int32).toInt = -1 := rfl; first | decide | omega)⟩, hF⟩ dX11_feed_17
def ms_X11_field : List (Nat × Nat) := [(1, 0), (11, 15), (161, 0), (162, 0), (163, 0), (164, 0), (165, 0), (166, 0), (167, 0), (347, 0)]
def po_X11_field (kp : Nat → Nat) (L : List Nat) (f0 : Nat → va_E) (h0 : Nat) (u1 : Int32) (u2 : Int32) (u3 : Int32) (u4 : Int32) : Option Value → (Nat → va_E) → Prop := fun v f => (∃ r : Int32, v = some (.int r) ∧ (True)) ∧ FM kp L ms_X11_field f0 f
set_option maxHeartbeats 4000000 in
set_option maxRecDepth 100000 in
theorem c_X11_field (l : Launch) (G : va_G) (cI cJ cZ cD cR cT : ClassId) (kp : Nat → Nat) (L : List Nat) (f0 : Nat → va_E) (hTH : TH cI cJ cZ cD cR cT kp L f0) (sz : Nat) (h0 : Nat) (u1 : Int32) (u2 : Int32) (u3 : Int32) (u4 : Int32) (rh0 : RK kp L h0 11) : Met l yX11_field (Cond.code yX11_field cX11_field 7 (some .int) :: wTab) ({ frames := 2, cells := 0, slots := 0, locals := 64 }) (va_Pc [.ref h0, .int u1, .int u2, .int u3, .int u4] (PreW G (tys6 cI cJ cZ cD cR cT) (va_pl L f0) sz)) (QT (po_X11_field kp L f0 h0 u1 u2 u3 u4) G cI cJ cZ cD cR cT (va_A (va_pl L f0) sz) kp L) 0 0 (va_A (va_pl L f0) sz) := by
  refine metT (by decide) (Nat.le_of_ble_eq_true rfl) hTH ?_
  intro p e s m below meth c A ls E hW hl
  obtain ⟨hx, hb, -, hml, hown, hts, -, -, -⟩ := id E
  have hF : FM kp L ms_X11_field f0 f0 := FM.rf
  have hl : lv_has ls 7 [(0, .ref h0), (1, .int u1), (2, .int u2), (3, .int u3), (4, .int u4)] := hl
  refine lv_aload_n hx hb dX11_field_0 rfl (lv_at hl 0 rfl) ?_
  refine fg_RX11_12 E hW rh0 dX11_field_1 (fun a1523641 m1523642 r1523643 => ?_)
  refine fg_RX11_63 E hW r1523643 dX11_field_4 (fun a1523644 m1523645 r1523646 => ?_)
  refine lv_astore (lv' := [(5, .ref a1523644), (0, .ref h0), (1, .int u1), (2, .int u2), (3, .int u3), (4, .int u4)]) hx hb dX11_field_7 hl (by decide) rfl (fun ls hl => ?_)
  refine lv_iload_n hx hb dX11_field_9 rfl (lv_at hl 3 rfl) ?_
  refine lv_iconst (v := 1) hx hb dX11_field_10 (by decide) ?_
  refine lv_sipush (v := 1000) hx hb dX11_field_11 (by decide) ?_
  refine t_callS (As := [.int u2, .int 1, .int 1000]) (rest := []) E hW (c_X11_within l G cI cJ cZ cD cR cT kp L f0 hW.2.2.2 _ u2 1 1000 (by decide)) wk_X11_within tw_599 rfl ⟨Nat.le_of_ble_eq_true rfl, Nat.le_of_ble_eq_true rfl⟩ ⟨rfl, rfl⟩ hl.1 rfl (Nat.le_of_ble_eq_true rfl) dX11_field_14 ⟨Nat.le_of_ble_eq_true rfl, Nat.le_of_ble_eq_true rfl⟩ (fun v1523647 f1523648 H locs q1523649 hW => ?_)
  obtain ⟨⟨x1523651, rfl, p1523652⟩, g1523650⟩ := q1523649
  have p1523652 : (x1523651.toInt = 1 ∧ 1 ≤ u2.toInt ∧ u2.toInt ≤ 1000) ∨ (x1523651.toInt = 0 ∧ (u2.toInt < 1 ∨ 1000 < u2.toInt)) := p1523652
  have hF := FM.tr hF g1523650 rfl
  refine q_if_eq (tgt := 30) hx hb dX11_field_17 (by decide) rfl (fun c1523653 => ?_) (fun c1523653 => ?_)
  · have q1523654 : (u2.toInt < 1 ∨ 1000 < u2.toInt) := by omega
    clear p1523652
    refine lv_aload_n hx hb dX11_field_30 rfl (lv_at hl 1 rfl) ?_
    refine lv_iconst (v := (-1)) hx hb dX11_field_31 (by decide) ?_
    refine t_callV (As := [.int (-1)]) (rest := []) E hW (c_X11_refuse l G cI cJ cZ cD cR cT kp L f1523648 hW.2.2.2 _ h0 (-1) rh0 (by decide)) rh0 (by decide) rfl wk_X11_refuse tw_603 rfl ⟨Nat.le_of_ble_eq_true rfl, Nat.le_of_ble_eq_true rfl⟩ ⟨rfl, rfl⟩ hl.1 rfl (Nat.le_of_ble_eq_true rfl) dX11_field_32 ⟨Nat.le_of_ble_eq_true rfl, Nat.le_of_ble_eq_true rfl⟩ (fun v1523655 f1523656 H locs q1523657 hW => ?_)
    obtain ⟨⟨x1523659, rfl, p1523660⟩, g1523658⟩ := q1523657
    have p1523660 : (-6 : Int) ≤ x1523659.toInt ∧ x1523659.toInt ≤ -1 := p1523660
    have hF := FM.tr hF g1523658 rfl
    exact e_I E hW rfl ⟨⟨_, rfl, trivial⟩, hF⟩ dX11_field_35
  · have q1523661 : 1 ≤ u2.toInt ∧ u2.toInt ≤ 1000 := by omega
    clear p1523652
    refine lv_iload_n hx hb dX11_field_20 rfl (lv_at hl 4 rfl) ?_
    refine lv_iconst (v := 0) hx hb dX11_field_21 (by decide) ?_
    refine lv_ldc (v := 100000) hx hb hown (hts _ tw_658) dX11_field_22 ?_
    refine t_callS (As := [.int u3, .int 0, .int 100000]) (rest := []) E hW (c_X11_within l G cI cJ cZ cD cR cT kp L f1523648 hW.2.2.2 _ u3 0 100000 (by decide)) wk_X11_within tw_599 rfl ⟨Nat.le_of_ble_eq_true rfl, Nat.le_of_ble_eq_true rfl⟩ ⟨rfl, rfl⟩ hl.1 rfl (Nat.le_of_ble_eq_true rfl) dX11_field_24 ⟨Nat.le_of_ble_eq_true rfl, Nat.le_of_ble_eq_true rfl⟩ (fun v1523662 f1523663 H locs q1523664 hW => ?_)
    obtain ⟨⟨x1523666, rfl, p1523667⟩, g1523665⟩ := q1523664
    have p1523667 : (x1523666.toInt = 1 ∧ 0 ≤ u3.toInt ∧ u3.toInt ≤ 100000) ∨ (x1523666.toInt = 0 ∧ (u3.toInt < 0 ∨ 100000 < u3.toInt)) := p1523667
    have hF := FM.tr hF g1523665 rfl
    refine q_if_ne (tgt := 36) hx hb dX11_field_27 (by decide) rfl (fun c1523668 => ?_) (fun c1523668 => ?_)
    · have q1523669 : 0 ≤ u3.toInt ∧ u3.toInt ≤ 100000 := by omega
      clear p1523667
      refine lv_aload_n hx hb dX11_field_36 rfl (lv_at hl 1 rfl) ?_
      refine fg_RX11_12 E hW rh0 dX11_field_37 (fun a1523670 m1523671 r1523672 => ?_)
      obtain rfl : a1523641 = a1523670 := (((fm_R g1523665 rh0 rfl).trans ((fm_R g1523650 rh0 rfl).trans m1523642))).symm.trans m1523671
      refine fg_RX11_114 E hW r1523643 dX11_field_40 (fun a1523673 m1523674 r1523675 => ?_)
      refine lv_iload_n hx hb dX11_field_43 rfl (lv_at hl 2 rfl) ?_
      refine t_callV (As := [.int u1]) (rest := []) E hW (c_X1_hasEstate l G cI cJ cZ cD cR cT kp L f1523663 hW.2.2.2 _ a1523673 u1 r1523675) r1523675 (by decide) rfl wk_X1_hasEstate tw_659 rfl ⟨Nat.le_of_ble_eq_true rfl, Nat.le_of_ble_eq_true rfl⟩ ⟨rfl, rfl⟩ hl.1 rfl (Nat.le_of_ble_eq_true rfl) dX11_field_44 ⟨Nat.le_of_ble_eq_true rfl, Nat.le_of_ble_eq_true rfl⟩ (fun v1523676 f1523677 H locs q1523678 hW => ?_)
      obtain ⟨⟨x1523680, rfl, p1523681⟩, g1523679⟩ := q1523678
      have hF := FM.tr hF g1523679 rfl
      refine q_if_eq (tgt := 66) hx hb dX11_field_47 (by decide) rfl (fun c1523682 => ?_) (fun c1523682 => ?_)
      · clear p1523681
        refine lv_aload_n hx hb dX11_field_66 rfl (lv_at hl 1 rfl) ?_
        refine lv_bipush (v := (-2)) hx hb dX11_field_67 (by decide) ?_
        refine t_callV (As := [.int (-2)]) (rest := []) E hW (c_X11_refuse l G cI cJ cZ cD cR cT kp L f1523677 hW.2.2.2 _ h0 (-2) rh0 (by decide)) rh0 (by decide) rfl wk_X11_refuse tw_603 rfl ⟨Nat.le_of_ble_eq_true rfl, Nat.le_of_ble_eq_true rfl⟩ ⟨rfl, rfl⟩ hl.1 rfl (Nat.le_of_ble_eq_true rfl) dX11_field_69 ⟨Nat.le_of_ble_eq_true rfl, Nat.le_of_ble_eq_true rfl⟩ (fun v1523683 f1523684 H locs q1523685 hW => ?_)
        obtain ⟨⟨x1523687, rfl, p1523688⟩, g1523686⟩ := q1523685
        have p1523688 : (-6 : Int) ≤ x1523687.toInt ∧ x1523687.toInt ≤ -1 := p1523688
        have hF := FM.tr hF g1523686 rfl
        exact e_I E hW rfl ⟨⟨_, rfl, trivial⟩, hF⟩ dX11_field_72
      · have q1523689 : 0 ≤ u1.toInt ∧ u1.toInt ≤ 7 := by omega
        clear p1523681
        refine lv_iload hx hb dX11_field_50 (lv_at hl 5 rfl) ?_
        refine lv_iconst (v := (-1)) hx hb dX11_field_52 (by decide) ?_
        refine q_icmp_eq (Y := -1) (tgt := 73) hx hb dX11_field_53 (by decide) rfl rfl (fun c1523690 => ?_) (fun c1523690 => ?_)
        · refine lv_iload hx hb dX11_field_73 (lv_at hl 5 rfl) ?_
          refine lv_iconst (v := (-1)) hx hb dX11_field_75 (by decide) ?_
          refine q_icmp_eq (Y := -1) (tgt := 97) hx hb dX11_field_76 (by decide) rfl rfl (fun c1523691 => ?_) (fun c1523691 => ?_)
          · refine lv_aload_n hx hb dX11_field_97 rfl (lv_at hl 1 rfl) ?_
            refine fg_RX11_12 E hW rh0 dX11_field_98 (fun a1523692 m1523693 r1523694 => ?_)
            obtain rfl : a1523641 = a1523692 := (((fm_R g1523679 rh0 rfl).trans m1523671)).symm.trans m1523693
            refine fg_RX11_114 E hW r1523643 dX11_field_101 (fun a1523695 m1523696 r1523697 => ?_)
            obtain rfl : a1523673 = a1523695 := (((fm_R g1523679 r1523643 rfl).trans m1523674)).symm.trans m1523696
            refine fg_RX11_130 E hW r1523675 dX11_field_104 (fun y1523698 m1523699 b1523700 => ?_)
            refine lv_bipush (v := 40) hx hb dX11_field_107 (by decide) ?_
            refine q_icmp_lt (Y := 40) (tgt := 119) hx hb dX11_field_109 (by decide) rfl rfl (fun c1523701 => ?_) (fun c1523701 => ?_)
            · refine lv_aload_n hx hb dX11_field_119 rfl (lv_at hl 1 rfl) ?_
              refine fg_RX11_12 E hW rh0 dX11_field_120 (fun a1523702 m1523703 r1523704 => ?_)
              obtain rfl : a1523641 = a1523702 := (m1523693).symm.trans m1523703
              refine fg_RX11_114 E hW r1523643 dX11_field_123 (fun a1523705 m1523706 r1523707 => ?_)
              obtain rfl : a1523673 = a1523705 := (m1523696).symm.trans m1523706
              refine lv_iload_n hx hb dX11_field_126 rfl (lv_at hl 2 rfl) ?_
              refine lv_iload_n hx hb dX11_field_127 rfl (lv_at hl 3 rfl) ?_
              refine lv_iload_n hx hb dX11_field_128 rfl (lv_at hl 4 rfl) ?_
              refine t_callV (As := [.int u1, .int u2, .int u3]) (rest := []) E hW (c_X1_addField l G cI cJ cZ cD cR cT kp L f1523677 hW.2.2.2 _ a1523673 u1 u2 u3 r1523675 (by omega) (by omega) (by omega)) r1523675 (by decide) rfl wk_X1_addField tw_663 rfl ⟨Nat.le_of_ble_eq_true rfl, Nat.le_of_ble_eq_true rfl⟩ ⟨rfl, rfl⟩ hl.1 rfl (Nat.le_of_ble_eq_true rfl) dX11_field_129 ⟨Nat.le_of_ble_eq_true rfl, Nat.le_of_ble_eq_true rfl⟩ (fun v1523708 f1523709 H locs q1523710 hW => ?_)
              obtain ⟨⟨x1523712, rfl, p1523713⟩, g1523711⟩ := q1523710
              rw [m1523699] at p1523713
              have q1523714 : 0 ≤ x1523712.toInt := by omega
              have hF := FM.tr hF g1523711 rfl
              refine lv_istore (lv' := [(6, .int x1523712), (5, .ref a1523644), (0, .ref h0), (1, .int u1), (2, .int u2), (3, .int u3), (4, .int u4)]) hx hb dX11_field_132 hl (by decide) rfl (fun ls hl => ?_)
              refine lv_iload hx hb dX11_field_134 (lv_at hl 6 rfl) ?_
              refine lv_iconst (v := (-1)) hx hb dX11_field_136 (by decide) ?_
              refine q_icmp_eq (Y := -1) (tgt := 152) hx hb dX11_field_137 (by decide) rfl rfl (fun c1523715 => ?_) (fun c1523715 => ?_)
              · refine lv_aload_n hx hb dX11_field_152 rfl (lv_at hl 2 rfl) ?_
                refine lv_iload hx hb dX11_field_153 (lv_at hl 0 rfl) ?_
                refine t_callV (As := [.int x1523712]) (rest := []) E hW (c_X11_accept l G cI cJ cZ cD cR cT kp L f1523709 hW.2.2.2 _ h0 x1523712 rh0) rh0 (by decide) rfl wk_X11_accept tw_611 rfl ⟨Nat.le_of_ble_eq_true rfl, Nat.le_of_ble_eq_true rfl⟩ ⟨rfl, rfl⟩ hl.1 rfl (Nat.le_of_ble_eq_true rfl) dX11_field_155 ⟨Nat.le_of_ble_eq_true rfl, Nat.le_of_ble_eq_true rfl⟩ (fun v1523716 f1523717 H locs q1523718 hW => ?_)
                obtain ⟨⟨x1523720, rfl, p1523721⟩, g1523719⟩ := q1523718
                clear p1523721
                have hF := FM.tr hF g1523719 rfl
                exact e_I E hW rfl ⟨⟨_, rfl, trivial⟩, hF⟩ dX11_field_158
              · exfalso; omega
            · refine lv_aload_n hx hb dX11_field_112 rfl (lv_at hl 1 rfl) ?_
              refine lv_bipush (v := (-5)) hx hb dX11_field_113 (by decide) ?_
              refine t_callV (As := [.int (-5)]) (rest := []) E hW (c_X11_refuse l G cI cJ cZ cD cR cT kp L f1523677 hW.2.2.2 _ h0 (-5) rh0 (by decide)) rh0 (by decide) rfl wk_X11_refuse tw_603 rfl ⟨Nat.le_of_ble_eq_true rfl, Nat.le_of_ble_eq_true rfl⟩ ⟨rfl, rfl⟩ hl.1 rfl (Nat.le_of_ble_eq_true rfl) dX11_field_115 ⟨Nat.le_of_ble_eq_true rfl, Nat.le_of_ble_eq_true rfl⟩ (fun v1523722 f1523723 H locs q1523724 hW => ?_)
              obtain ⟨⟨x1523726, rfl, p1523727⟩, g1523725⟩ := q1523724
              have p1523727 : (-6 : Int) ≤ x1523726.toInt ∧ x1523726.toInt ≤ -1 := p1523727
              have hF := FM.tr hF g1523725 rfl
              exact e_I E hW rfl ⟨⟨_, rfl, trivial⟩, hF⟩ dX11_field_118
          · exfalso; omega
        · refine lv_aload hx hb dX11_field_56 (lv_at hl 0 rfl) ?_
          refine lv_iload hx hb dX11_field_58 (lv_at hl 5 rfl) ?_
          refine t_callV (As := [.int u4]) (rest := []) E hW (c_X4_has l G cI cJ cZ cD cR cT kp L f1523677 hW.2.2.2 _ a1523644 u4 r1523646) r1523646 (by decide) rfl wk_X4_has tw_619 rfl ⟨Nat.le_of_ble_eq_true rfl, Nat.le_of_ble_eq_true rfl⟩ ⟨rfl, rfl⟩ hl.1 rfl (Nat.le_of_ble_eq_true rfl) dX11_field_60 ⟨Nat.le_of_ble_eq_true rfl, Nat.le_of_ble_eq_true rfl⟩ (fun v1523728 f1523729 H locs q1523730 hW => ?_)
          obtain ⟨⟨x1523732, rfl, p1523733⟩, g1523731⟩ := q1523730
          have hF := FM.tr hF g1523731 rfl
          refine q_if_ne (tgt := 73) hx hb dX11_field_63 (by decide) rfl (fun c1523734 => ?_) (fun c1523734 => ?_)
          · have q1523735 : 0 ≤ u4.toInt ∧ u4.toInt ≤ 39 := by omega
            clear p1523733
            refine lv_iload hx hb dX11_field_73 (lv_at hl 5 rfl) ?_
            refine lv_iconst (v := (-1)) hx hb dX11_field_75 (by decide) ?_
            refine q_icmp_eq (Y := -1) (tgt := 97) hx hb dX11_field_76 (by decide) rfl rfl (fun c1523736 => ?_) (fun c1523736 => ?_)
            · exfalso; omega
            · refine lv_aload hx hb dX11_field_79 (lv_at hl 0 rfl) ?_
              refine fg_RX11_87 E hW r1523646 dX11_field_81 (fun a1523737 m1523738 r1523739 => ?_)
              refine lv_iload hx hb dX11_field_84 (lv_at hl 5 rfl) ?_
              refine gl_346 E hW r1523739 ⟨by omega, by omega⟩ dX11_field_86 (fun y1523740 m1523741 => ?_)
              refine q_if_eq (tgt := 97) hx hb dX11_field_87 (by decide) rfl (fun c1523743 => ?_) (fun c1523743 => ?_)
              · refine lv_aload_n hx hb dX11_field_97 rfl (lv_at hl 1 rfl) ?_
                refine fg_RX11_12 E hW rh0 dX11_field_98 (fun a1523744 m1523745 r1523746 => ?_)
                obtain rfl : a1523641 = a1523744 := (((fm_R g1523731 rh0 rfl).trans ((fm_R g1523679 rh0 rfl).trans m1523671))).symm.trans m1523745
                refine fg_RX11_114 E hW r1523643 dX11_field_101 (fun a1523747 m1523748 r1523749 => ?_)
                obtain rfl : a1523673 = a1523747 := (((fm_R g1523731 r1523643 rfl).trans ((fm_R g1523679 r1523643 rfl).trans m1523674))).symm.trans m1523748
                refine fg_RX11_130 E hW r1523675 dX11_field_104 (fun y1523750 m1523751 b1523752 => ?_)
                refine lv_bipush (v := 40) hx hb dX11_field_107 (by decide) ?_
                refine q_icmp_lt (Y := 40) (tgt := 119) hx hb dX11_field_109 (by decide) rfl rfl (fun c1523753 => ?_) (fun c1523753 => ?_)
                · refine lv_aload_n hx hb dX11_field_119 rfl (lv_at hl 1 rfl) ?_
                  refine fg_RX11_12 E hW rh0 dX11_field_120 (fun a1523754 m1523755 r1523756 => ?_)
                  obtain rfl : a1523641 = a1523754 := (m1523745).symm.trans m1523755
                  refine fg_RX11_114 E hW r1523643 dX11_field_123 (fun a1523757 m1523758 r1523759 => ?_)
                  obtain rfl : a1523673 = a1523757 := (m1523748).symm.trans m1523758
                  refine lv_iload_n hx hb dX11_field_126 rfl (lv_at hl 2 rfl) ?_
                  refine lv_iload_n hx hb dX11_field_127 rfl (lv_at hl 3 rfl) ?_
                  refine lv_iload_n hx hb dX11_field_128 rfl (lv_at hl 4 rfl) ?_
                  refine t_callV (As := [.int u1, .int u2, .int u3]) (rest := []) E hW (c_X1_addField l G cI cJ cZ cD cR cT kp L f1523729 hW.2.2.2 _ a1523673 u1 u2 u3 r1523675 (by omega) (by omega) (by omega)) r1523675 (by decide) rfl wk_X1_addField tw_663 rfl ⟨Nat.le_of_ble_eq_true rfl, Nat.le_of_ble_eq_true rfl⟩ ⟨rfl, rfl⟩ hl.1 rfl (Nat.le_of_ble_eq_true rfl) dX11_field_129 ⟨Nat.le_of_ble_eq_true rfl, Nat.le_of_ble_eq_true rfl⟩ (fun v1523760 f1523761 H locs q1523762 hW => ?_)
                  obtain ⟨⟨x1523764, rfl, p1523765⟩, g1523763⟩ := q1523762
                  rw [m1523751] at p1523765
                  have q1523766 : 0 ≤ x1523764.toInt := by omega
                  have hF := FM.tr hF g1523763 rfl
                  refine lv_istore (lv' := [(6, .int x1523764), (5, .ref a1523644), (0, .ref h0), (1, .int u1), (2, .int u2), (3, .int u3), (4, .int u4)]) hx hb dX11_field_132 hl (by decide) rfl (fun ls hl => ?_)
                  refine lv_iload hx hb dX11_field_134 (lv_at hl 6 rfl) ?_
                  refine lv_iconst (v := (-1)) hx hb dX11_field_136 (by decide) ?_
                  refine q_icmp_eq (Y := -1) (tgt := 152) hx hb dX11_field_137 (by decide) rfl rfl (fun c1523774 => ?_) (fun c1523774 => ?_)
                  · exfalso; omega
                  · refine lv_aload_n hx hb dX11_field_140 rfl (lv_at hl 2 rfl) ?_
                    refine fg_RX11_12 E hW rh0 dX11_field_141 (fun a1523775 m1523776 r1523777 => ?_)
                    obtain rfl : a1523641 = a1523775 := (((fm_R g1523763 rh0 rfl).trans m1523755)).symm.trans m1523776
                    refine lv_iload hx hb dX11_field_144 (lv_at hl 6 rfl) ?_
                    refine lv_iload hx hb dX11_field_146 (lv_at hl 0 rfl) ?_
                    refine lv_iconst (v := 0) hx hb dX11_field_148 (by decide) ?_
                    refine t_callV (As := [.int u4, .int x1523764, .int 0]) (rest := []) E hW (c_X0_settle l G cI cJ cZ cD cR cT kp L f1523761 hW.2.2.2 _ a1523641 u4 x1523764 0 r1523643 (by omega) (by omega) (by decide)) r1523643 (by decide) rfl wk_X0_settle tw_667 rfl ⟨Nat.le_of_ble_eq_true rfl, Nat.le_of_ble_eq_true rfl⟩ ⟨rfl, rfl⟩ hl.1 rfl (Nat.le_of_ble_eq_true rfl) dX11_field_149 ⟨Nat.le_of_ble_eq_true rfl, Nat.le_of_ble_eq_true rfl⟩ (fun v1523778 f1523779 H locs q1523780 hW => ?_)
                    obtain ⟨rfl, g1523781⟩ := q1523780
                    have hF := FM.tr hF g1523781 rfl
                    refine lv_aload_n hx hb dX11_field_152 rfl (lv_at hl 2 rfl) ?_
                    refine lv_iload hx hb dX11_field_153 (lv_at hl 0 rfl) ?_
                    refine t_callV (As := [.int x1523764]) (rest := []) E hW (c_X11_accept l G cI cJ cZ cD cR cT kp L f1523779 hW.2.2.2 _ h0 x1523764 rh0) rh0 (by decide) rfl wk_X11_accept tw_611 rfl ⟨Nat.le_of_ble_eq_true rfl, Nat.le_of_ble_eq_true rfl⟩ ⟨rfl, rfl⟩ hl.1 rfl (Nat.le_of_ble_eq_true rfl) dX11_field_155 ⟨Nat.le_of_ble_eq_true rfl, Nat.le_of_ble_eq_true rfl⟩ (fun v1523782 f1523783 H locs q1523784 hW => ?_)
                    obtain ⟨⟨x1523786, rfl, p1523787⟩, g1523785⟩ := q1523784
                    clear p1523787
                    have hF := FM.tr hF g1523785 rfl
                    exact e_I E hW rfl ⟨⟨_, rfl, trivial⟩, hF⟩ dX11_field_158
                · refine lv_aload_n hx hb dX11_field_112 rfl (lv_at hl 1 rfl) ?_
                  refine lv_bipush (v := (-5)) hx hb dX11_field_113 (by decide) ?_
                  refine t_callV (As := [.int (-5)]) (rest := []) E hW (c_X11_refuse l G cI cJ cZ cD cR cT kp L f1523729 hW.2.2.2 _ h0 (-5) rh0 (by decide)) rh0 (by decide) rfl wk_X11_refuse tw_603 rfl ⟨Nat.le_of_ble_eq_true rfl, Nat.le_of_ble_eq_true rfl⟩ ⟨rfl, rfl⟩ hl.1 rfl (Nat.le_of_ble_eq_true rfl) dX11_field_115 ⟨Nat.le_of_ble_eq_true rfl, Nat.le_of_ble_eq_true rfl⟩ (fun v1523788 f1523789 H locs q1523790 hW => ?_)
                  obtain ⟨⟨x1523792, rfl, p1523793⟩, g1523791⟩ := q1523790
                  have p1523793 : (-6 : Int) ≤ x1523792.toInt ∧ x1523792.toInt ≤ -1 := p1523793
                  have hF := FM.tr hF g1523791 rfl
                  exact e_I E hW rfl ⟨⟨_, rfl, trivial⟩, hF⟩ dX11_field_118
              · refine lv_aload_n hx hb dX11_field_90 rfl (lv_at hl 1 rfl) ?_
                refine lv_bipush (v := (-3)) hx hb dX11_field_91 (by decide) ?_
                refine t_callV (As := [.int (-3)]) (rest := []) E hW (c_X11_refuse l G cI cJ cZ cD cR cT kp L f1523729 hW.2.2.2 _ h0 (-3) rh0 (by decide)) rh0 (by decide) rfl wk_X11_refuse tw_603 rfl ⟨Nat.le_of_ble_eq_true rfl, Nat.le_of_ble_eq_true rfl⟩ ⟨rfl, rfl⟩ hl.1 rfl (Nat.le_of_ble_eq_true rfl) dX11_field_93 ⟨Nat.le_of_ble_eq_true rfl, Nat.le_of_ble_eq_true rfl⟩ (fun v1523794 f1523795 H locs q1523796 hW => ?_)
                obtain ⟨⟨x1523798, rfl, p1523799⟩, g1523797⟩ := q1523796
                have p1523799 : (-6 : Int) ≤ x1523798.toInt ∧ x1523798.toInt ≤ -1 := p1523799
                have hF := FM.tr hF g1523797 rfl
                exact e_I E hW rfl ⟨⟨_, rfl, trivial⟩, hF⟩ dX11_field_96
          · clear p1523733
            refine lv_aload_n hx hb dX11_field_66 rfl (lv_at hl 1 rfl) ?_
            refine lv_bipush (v := (-2)) hx hb dX11_field_67 (by decide) ?_
            refine t_callV (As := [.int (-2)]) (rest := []) E hW (c_X11_refuse l G cI cJ cZ cD cR cT kp L f1523729 hW.2.2.2 _ h0 (-2) rh0 (by decide)) rh0 (by decide) rfl wk_X11_refuse tw_603 rfl ⟨Nat.le_of_ble_eq_true rfl, Nat.le_of_ble_eq_true rfl⟩ ⟨rfl, rfl⟩ hl.1 rfl (Nat.le_of_ble_eq_true rfl) dX11_field_69 ⟨Nat.le_of_ble_eq_true rfl, Nat.le_of_ble_eq_true rfl⟩ (fun v1523800 f1523801 H locs q1523802 hW => ?_)
            obtain ⟨⟨x1523804, rfl, p1523805⟩, g1523803⟩ := q1523802
            have p1523805 : (-6 : Int) ≤ x1523804.toInt ∧ x1523804.toInt ≤ -1 := p1523805
            have hF := FM.tr hF g1523803 rfl
            exact e_I E hW rfl ⟨⟨_, rfl, trivial⟩, hF⟩ dX11_field_72
    · have q1523806 : (u3.toInt < 0 ∨ 100000 < u3.toInt) := by omega
      clear p1523667
      refine lv_aload_n hx hb dX11_field_30 rfl (lv_at hl 1 rfl) ?_
      refine lv_iconst (v := (-1)) hx hb dX11_field_31 (by decide) ?_
      refine t_callV (As := [.int (-1)]) (rest := []) E hW (c_X11_refuse l G cI cJ cZ cD cR cT kp L f1523663 hW.2.2.2 _ h0 (-1) rh0 (by decide)) rh0 (by decide) rfl wk_X11_refuse tw_603 rfl ⟨Nat.le_of_ble_eq_true rfl, Nat.le_of_ble_eq_true rfl⟩ ⟨rfl, rfl⟩ hl.1 rfl (Nat.le_of_ble_eq_true rfl) dX11_field_32 ⟨Nat.le_of_ble_eq_true rfl, Nat.le_of_ble_eq_true rfl⟩ (fun v1523807 f1523808 H locs q1523809 hW => ?_)
      obtain ⟨⟨x1523811, rfl, p1523812⟩, g1523810⟩ := q1523809
      have p1523812 : (-6 : Int) ≤ x1523811.toInt ∧ x1523811.toInt ≤ -1 := p1523812
      have hF := FM.tr hF g1523810 rfl
      exact e_I E hW rfl ⟨⟨_, rfl, trivial⟩, hF⟩ dX11_field_35
def ms_X11_force : List (Nat × Nat) := [(222, 0), (223, 0)]
def po_X11_force (kp : Nat → Nat) (L : List Nat) (f0 : Nat → va_E) (h0 : Nat) (u1 : Int32) (u2 : Int32) (u3 : Int32) : Option Value → (Nat → va_E) → Prop := fun v f => (∃ r : Int32, v = some (.int r) ∧ ((-1 : Int) ≤ r.toInt ∧ r.toInt ≤ 1)) ∧ FM kp L ms_X11_force f0 f
set_option maxHeartbeats 4000000 in
set_option maxRecDepth 100000 in
theorem c_X11_force (l : Launch) (G : va_G) (cI cJ cZ cD cR cT : ClassId) (kp : Nat → Nat) (L : List Nat) (f0 : Nat → va_E) (hTH : TH cI cJ cZ cD cR cT kp L f0) (sz : Nat) (h0 : Nat) (u1 : Int32) (u2 : Int32) (u3 : Int32) (rh0 : RK kp L h0 11) : Met l yX11_force (Cond.code yX11_force cX11_force 5 (some .int) :: wTab) ({ frames := 3, cells := 0, slots := 0, locals := 88 }) (va_Pc [.ref h0, .int u1, .int u2, .int u3] (PreW G (tys6 cI cJ cZ cD cR cT) (va_pl L f0) sz)) (QT (po_X11_force kp L f0 h0 u1 u2 u3) G cI cJ cZ cD cR cT (va_A (va_pl L f0) sz) kp L) 0 0 (va_A (va_pl L f0) sz) := by
  refine metT (by decide) (Nat.le_of_ble_eq_true rfl) hTH ?_
  intro p e s m below meth c A ls E hW hl
  obtain ⟨hx, hb, -, hml, hown, hts, -, -, -⟩ := id E
  have hF : FM kp L ms_X11_force f0 f0 := FM.rf
  have hl : lv_has ls 5 [(0, .ref h0), (1, .int u1), (2, .int u2), (3, .int u3)] := hl
  refine lv_aload_n hx hb dX11_force_0 rfl (lv_at hl 0 rfl) ?_
  refine fg_RX11_12 E hW rh0 dX11_force_1 (fun a1523813 m1523814 r1523815 => ?_)
  refine fg_RX11_219 E hW r1523815 dX11_force_4 (fun a1523816 m1523817 r1523818 => ?_)
  refine lv_astore (lv' := [(4, .ref a1523816), (0, .ref h0), (1, .int u1), (2, .int u2), (3, .int u3)]) hx hb dX11_force_7 hl (by decide) rfl (fun ls hl => ?_)
  refine lv_aload hx hb dX11_force_9 (lv_at hl 0 rfl) ?_
  refine lv_iload_n hx hb dX11_force_11 rfl (lv_at hl 2 rfl) ?_
  refine lv_iload_n hx hb dX11_force_12 rfl (lv_at hl 3 rfl) ?_
  refine t_callV (As := [.int u1, .int u2]) (rest := []) E hW (c_X2_has l G cI cJ cZ cD cR cT kp L f0 hW.2.2.2 _ a1523816 u1 u2 r1523818) r1523818 (by decide) rfl wk_X2_has tw_1062 rfl ⟨Nat.le_of_ble_eq_true rfl, Nat.le_of_ble_eq_true rfl⟩ ⟨rfl, rfl⟩ hl.1 rfl (Nat.le_of_ble_eq_true rfl) dX11_force_13 ⟨Nat.le_of_ble_eq_true rfl, Nat.le_of_ble_eq_true rfl⟩ (fun v1523819 f1523820 H locs q1523821 hW => ?_)
  obtain ⟨⟨x1523823, rfl, p1523824⟩, g1523822⟩ := q1523821
  have hF := FM.tr hF g1523822 rfl
  refine q_if_eq (tgt := 26) hx hb dX11_force_16 (by decide) rfl (fun c1523825 => ?_) (fun c1523825 => ?_)
  · clear p1523824
    refine lv_iconst (v := (-1)) hx hb dX11_force_26 (by decide) ?_
    exact e_I E hW rfl ⟨⟨_, rfl, (by have hk : ((-1) : Int32).toInt = -1 := rfl; first | decide | omega)⟩, hF⟩ dX11_force_27
  · have q1523826 : 0 ≤ u1.toInt ∧ u1.toInt ≤ 19 ∧ 0 ≤ u2.toInt ∧ u2.toInt ≤ 11 := by omega
    clear p1523824
    refine lv_iload_n hx hb dX11_force_19 rfl (lv_at hl 4 rfl) ?_
    refine t_callS (As := [.int u3]) (rest := []) E hW (c_X11_isWeek l G cI cJ cZ cD cR cT kp L f1523820 hW.2.2.2 _ u3) wk_X11_isWeek tw_780 rfl ⟨Nat.le_of_ble_eq_true rfl, Nat.le_of_ble_eq_true rfl⟩ ⟨rfl, rfl⟩ hl.1 rfl (Nat.le_of_ble_eq_true rfl) dX11_force_20 ⟨Nat.le_of_ble_eq_true rfl, Nat.le_of_ble_eq_true rfl⟩ (fun v1523827 f1523828 H locs q1523829 hW => ?_)
    obtain ⟨⟨x1523831, rfl, p1523832⟩, g1523830⟩ := q1523829
    have hF := FM.tr hF g1523830 rfl
    refine q_if_ne (tgt := 28) hx hb dX11_force_23 (by decide) rfl (fun c1523833 => ?_) (fun c1523833 => ?_)
    · have q1523834 : 0 ≤ u3.toInt ∧ u3.toInt ≤ 399 := by omega
      clear p1523832
      refine lv_aload hx hb dX11_force_28 (lv_at hl 0 rfl) ?_
      refine lv_iload_n hx hb dX11_force_30 rfl (lv_at hl 4 rfl) ?_
      refine t_callV (As := [.int u3]) (rest := []) E hW (c_X2_mark l G cI cJ cZ cD cR cT kp L f1523828 hW.2.2.2 _ a1523816 u3 r1523818 (by omega)) r1523818 (by decide) rfl wk_X2_mark tw_1066 rfl ⟨Nat.le_of_ble_eq_true rfl, Nat.le_of_ble_eq_true rfl⟩ ⟨rfl, rfl⟩ hl.1 rfl (Nat.le_of_ble_eq_true rfl) dX11_force_31 ⟨Nat.le_of_ble_eq_true rfl, Nat.le_of_ble_eq_true rfl⟩ (fun v1523835 f1523836 H locs q1523837 hW => ?_)
      obtain ⟨rfl, g1523838⟩ := q1523837
      have hF := FM.tr hF g1523838 rfl
      refine lv_aload hx hb dX11_force_34 (lv_at hl 0 rfl) ?_
      refine lv_iload_n hx hb dX11_force_36 rfl (lv_at hl 2 rfl) ?_
      refine lv_iload_n hx hb dX11_force_37 rfl (lv_at hl 3 rfl) ?_
      refine t_callV (As := [.int u1, .int u2]) (rest := []) E hW (c_X2_isInForce l G cI cJ cZ cD cR cT kp L f1523836 hW.2.2.2 _ a1523816 u1 u2 r1523818 (by omega) (by omega)) r1523818 (by decide) rfl wk_X2_isInForce tw_1067 rfl ⟨Nat.le_of_ble_eq_true rfl, Nat.le_of_ble_eq_true rfl⟩ ⟨rfl, rfl⟩ hl.1 rfl (Nat.le_of_ble_eq_true rfl) dX11_force_38 ⟨Nat.le_of_ble_eq_true rfl, Nat.le_of_ble_eq_true rfl⟩ (fun v1523839 f1523840 H locs q1523841 hW => ?_)
      obtain ⟨⟨x1523843, rfl, p1523844⟩, g1523842⟩ := q1523841
      have hF := FM.tr hF g1523842 rfl
      have J1523847 : ∀ (y1523845 : Int32) (b1523846 : (0 : Int) ≤ y1523845.toInt ∧ y1523845.toInt ≤ 1) (H : Heap) (locs : List Loc) (ls : Array Slot), WS G cI cJ cZ cD cR cT A kp L f1523840 s H locs → FM kp L ms_X11_force f0 f1523840 → lv_has ls 5 [(4, .ref a1523816), (0, .ref h0), (1, .int u1), (2, .int u2), (3, .int u3)] → W p l e ({ frames := 3, cells := 0, slots := 0, locals := 88 }) s m ([.ref h0, .int u1, .int u2, .int u3] : List Value).toArray below meth c H locs 0 0 (MQ below (QT (po_X11_force kp L f0 h0 u1 u2 u3) G cI cJ cZ cD cR cT A kp L) ([.ref h0, .int u1, .int u2, .int u3] : List Value).toArray s 0 0 A) (F0 m 49 ls [.int y1523845]) := by
        intro y1523845 b1523846 H locs ls hW hF hl
        clear c1523825 c1523833 p1523844
        exact e_I E hW rfl ⟨⟨_, rfl, (by first | omega | trivial)⟩, hF⟩ dX11_force_49
      refine q_if_eq (tgt := 48) hx hb dX11_force_41 (by decide) rfl (fun c1523848 => ?_) (fun c1523848 => ?_)
      · refine lv_iconst (v := 0) hx hb dX11_force_48 (by decide) ?_
        exact J1523847 0 (by decide) _ _ _ hW hF (lv_sub hl [0, 1, 2, 3, 4] rfl)
      · refine lv_iconst (v := 1) hx hb dX11_force_44 (by decide) ?_
        refine lv_goto (tgt := 49) hx hb dX11_force_45 (by decide) ?_
        exact J1523847 1 (by decide) _ _ _ hW hF (lv_sub hl [0, 1, 2, 3, 4] rfl)
    · have q1523849 : (u3.toInt < 0 ∨ 399 < u3.toInt) := by omega
      clear p1523832
      refine lv_iconst (v := (-1)) hx hb dX11_force_26 (by decide) ?_
      exact e_I E hW rfl ⟨⟨_, rfl, (by have hk : ((-1) : Int32).toInt = -1 := rfl; first | decide | omega)⟩, hF⟩ dX11_force_27
def ms_X11_found : List (Nat × Nat) := []
def po_X11_found (kp : Nat → Nat) (L : List Nat) (f0 : Nat → va_E) (h0 : Nat) : Option Value → (Nat → va_E) → Prop := fun v f => (∃ r : Int32, v = some (.int r) ∧ ((-3 : Int) ≤ r.toInt ∧ r.toInt ≤ 39)) ∧ FM kp L ms_X11_found f0 f
set_option maxHeartbeats 4000000 in
set_option maxRecDepth 100000 in
theorem c_X11_found (l : Launch) (G : va_G) (cI cJ cZ cD cR cT : ClassId) (kp : Nat → Nat) (L : List Nat) (f0 : Nat → va_E) (hTH : TH cI cJ cZ cD cR cT kp L f0) (sz : Nat) (h0 : Nat) (rh0 : RK kp L h0 11) : Met l yX11_found (Cond.code yX11_found cX11_found 1 (some .int) :: wTab) ({ frames := 3, cells := 0, slots := 0, locals := 88 }) (va_Pc [.ref h0] (PreW G (tys6 cI cJ cZ cD cR cT) (va_pl L f0) sz)) (QT (po_X11_found kp L f0 h0) G cI cJ cZ cD cR cT (va_A (va_pl L f0) sz) kp L) 0 0 (va_A (va_pl L f0) sz) := by
  refine metT (by decide) (Nat.le_of_ble_eq_true rfl) hTH ?_
  intro p e s m below meth c A ls E hW hl
  obtain ⟨hx, hb, -, hml, hown, hts, -, -, -⟩ := id E
  have hF : FM kp L ms_X11_found f0 f0 := FM.rf
  have hl : lv_has ls 1 [(0, .ref h0)] := hl
  refine lv_aload_n hx hb dX11_found_0 rfl (lv_at hl 0 rfl) ?_
  refine fg_RX11_12 E hW rh0 dX11_found_1 (fun a1523850 m1523851 r1523852 => ?_)
  refine fg_RX11_114 E hW r1523852 dX11_found_4 (fun a1523853 m1523854 r1523855 => ?_)
  refine t_callV (As := []) (rest := []) E hW (c_X1_findAltered l G cI cJ cZ cD cR cT kp L f0 hW.2.2.2 _ a1523853 r1523855) r1523855 (by decide) rfl wk_X1_findAltered tw_1364 rfl ⟨Nat.le_of_ble_eq_true rfl, Nat.le_of_ble_eq_true rfl⟩ ⟨rfl, rfl⟩ hl.1 rfl (Nat.le_of_ble_eq_true rfl) dX11_found_7 ⟨Nat.le_of_ble_eq_true rfl, Nat.le_of_ble_eq_true rfl⟩ (fun v1523856 f1523857 H locs q1523858 hW => ?_)
  obtain ⟨⟨x1523860, rfl, p1523861⟩, g1523859⟩ := q1523858
  have hF := FM.tr hF g1523859 rfl
  exact e_I E hW rfl ⟨⟨_, rfl, (by first | omega | trivial)⟩, hF⟩ dX11_found_10
def ms_X11_fund : List (Nat × Nat) := []
def po_X11_fund (kp : Nat → Nat) (L : List Nat) (f0 : Nat → va_E) (h0 : Nat) : Option Value → (Nat → va_E) → Prop := fun v f => (∃ r : Int32, v = some (.int r) ∧ (True)) ∧ FM kp L ms_X11_fund f0 f
set_option maxHeartbeats 4000000 in
set_option maxRecDepth 100000 in
theorem c_X11_fund (l : Launch) (G : va_G) (cI cJ cZ cD cR cT : ClassId) (kp : Nat → Nat) (L : List Nat) (f0 : Nat → va_E) (hTH : TH cI cJ cZ cD cR cT kp L f0) (sz : Nat) (h0 : Nat) (rh0 : RK kp L h0 11) : Met l yX11_fund (Cond.code yX11_fund cX11_fund 1 (some .int) :: wTab) ({ frames := 1, cells := 0, slots := 0, locals := 40 }) (va_Pc [.ref h0] (PreW G (tys6 cI cJ cZ cD cR cT) (va_pl L f0) sz)) (QT (po_X11_fund kp L f0 h0) G cI cJ cZ cD cR cT (va_A (va_pl L f0) sz) kp L) 0 0 (va_A (va_pl L f0) sz) := by
  refine metT (by decide) (Nat.le_of_ble_eq_true rfl) hTH ?_
  intro p e s m below meth c A ls E hW hl
  obtain ⟨hx, hb, -, hml, hown, hts, -, -, -⟩ := id E
  have hF : FM kp L ms_X11_fund f0 f0 := FM.rf
  have hl : lv_has ls 1 [(0, .ref h0)] := hl
  refine lv_aload_n hx hb dX11_fund_0 rfl (lv_at hl 0 rfl) ?_
  refine fg_RX11_12 E hW rh0 dX11_fund_1 (fun a1523862 m1523863 r1523864 => ?_)
  refine fg_RX11_98 E hW r1523864 dX11_fund_4 (fun a1523865 m1523866 r1523867 => ?_)
  refine fg_RX11_102 E hW r1523867 dX11_fund_7 (fun y1523868 m1523869 => ?_)
  exact e_I E hW rfl ⟨⟨_, rfl, trivial⟩, hF⟩ dX11_fund_10
def ms_X11_give : List (Nat × Nat) := [(3, 0), (11, 15)]
def po_X11_give (kp : Nat → Nat) (L : List Nat) (f0 : Nat → va_E) (h0 : Nat) (u1 : Int32) : Option Value → (Nat → va_E) → Prop := fun v f => (∃ r : Int32, v = some (.int r) ∧ (True)) ∧ FM kp L ms_X11_give f0 f
set_option maxHeartbeats 4000000 in
set_option maxRecDepth 100000 in
theorem c_X11_give (l : Launch) (G : va_G) (cI cJ cZ cD cR cT : ClassId) (kp : Nat → Nat) (L : List Nat) (f0 : Nat → va_E) (hTH : TH cI cJ cZ cD cR cT kp L f0) (sz : Nat) (h0 : Nat) (u1 : Int32) (rh0 : RK kp L h0 11) : Met l yX11_give (Cond.code yX11_give cX11_give 3 (some .int) :: wTab) ({ frames := 2, cells := 0, slots := 0, locals := 62 }) (va_Pc [.ref h0, .int u1] (PreW G (tys6 cI cJ cZ cD cR cT) (va_pl L f0) sz)) (QT (po_X11_give kp L f0 h0 u1) G cI cJ cZ cD cR cT (va_A (va_pl L f0) sz) kp L) 0 0 (va_A (va_pl L f0) sz) := by
  refine metT (by decide) (Nat.le_of_ble_eq_true rfl) hTH ?_
  intro p e s m below meth c A ls E hW hl
  obtain ⟨hx, hb, -, hml, hown, hts, -, -, -⟩ := id E
  have hF : FM kp L ms_X11_give f0 f0 := FM.rf
  have hl : lv_has ls 3 [(0, .ref h0), (1, .int u1)] := hl
  refine lv_iload_n hx hb dX11_give_0 rfl (lv_at hl 1 rfl) ?_
  refine lv_iconst (v := 0) hx hb dX11_give_1 (by decide) ?_
  refine lv_ldc (v := 10000000) hx hb hown (hts _ tw_643) dX11_give_2 ?_
  refine t_callS (As := [.int u1, .int 0, .int 10000000]) (rest := []) E hW (c_X11_within l G cI cJ cZ cD cR cT kp L f0 hW.2.2.2 _ u1 0 10000000 (by decide)) wk_X11_within tw_599 rfl ⟨Nat.le_of_ble_eq_true rfl, Nat.le_of_ble_eq_true rfl⟩ ⟨rfl, rfl⟩ hl.1 rfl (Nat.le_of_ble_eq_true rfl) dX11_give_4 ⟨Nat.le_of_ble_eq_true rfl, Nat.le_of_ble_eq_true rfl⟩ (fun v1523871 f1523872 H locs q1523873 hW => ?_)
  obtain ⟨⟨x1523875, rfl, p1523876⟩, g1523874⟩ := q1523873
  have p1523876 : (x1523875.toInt = 1 ∧ 0 ≤ u1.toInt ∧ u1.toInt ≤ 10000000) ∨ (x1523875.toInt = 0 ∧ (u1.toInt < 0 ∨ 10000000 < u1.toInt)) := p1523876
  have hF := FM.tr hF g1523874 rfl
  refine q_if_ne (tgt := 16) hx hb dX11_give_7 (by decide) rfl (fun c1523877 => ?_) (fun c1523877 => ?_)
  · have q1523878 : 0 ≤ u1.toInt ∧ u1.toInt ≤ 10000000 := by omega
    clear p1523876
    refine lv_aload_n hx hb dX11_give_16 rfl (lv_at hl 0 rfl) ?_
    refine fg_RX11_12 E hW rh0 dX11_give_17 (fun a1523879 m1523880 r1523881 => ?_)
    refine fg_RX11_98 E hW r1523881 dX11_give_20 (fun a1523882 m1523883 r1523884 => ?_)
    refine lv_astore_n (lv' := [(2, .ref a1523882), (0, .ref h0), (1, .int u1)]) hx hb dX11_give_23 rfl hl (by decide) rfl (fun ls hl => ?_)
    refine lv_aload_n hx hb dX11_give_24 rfl (lv_at hl 0 rfl) ?_
    refine lv_aload_n hx hb dX11_give_25 rfl (lv_at hl 0 rfl) ?_
    refine fg_RX11_102 E hW r1523884 dX11_give_26 (fun y1523885 m1523886 => ?_)
    refine lv_iload_n hx hb dX11_give_29 rfl (lv_at hl 2 rfl) ?_
    refine u_iadd hx hb dX11_give_30 (fun x1523888 => ?_)
    refine lv_ldc (v := 100000000) hx hb hown (hts _ tw_644) dX11_give_31 ?_
    refine t_min (Y := 100000000) (own := RX11) E tw_645 ⟨tw_637, tw_115, tw_638⟩ hl.1 ⟨Nat.le_of_ble_eq_true rfl, Nat.le_of_ble_eq_true rfl⟩ ⟨Nat.le_of_ble_eq_true rfl, Nat.le_of_ble_eq_true rfl⟩ rfl rfl dX11_give_33 (fun x1523889 h1523890 => ?_)
    refine fp_RX11_102 E hW r1523884 dX11_give_36 (fun f1523891 H locs e1523892 n1523893 g1523894 hW => ?_)
    have hF := FM.tr hF g1523894 rfl
    refine lv_aload_n hx hb dX11_give_39 rfl (lv_at hl 1 rfl) ?_
    refine lv_aload_n hx hb dX11_give_40 rfl (lv_at hl 0 rfl) ?_
    refine fg_RX11_102 E hW r1523884 dX11_give_41 (fun y1523895 m1523896 => ?_)
    obtain rfl : x1523889 = y1523895 := (e1523892).symm.trans m1523896
    refine t_callV (As := [.int x1523889]) (rest := []) E hW (c_X11_accept l G cI cJ cZ cD cR cT kp L f1523891 hW.2.2.2 _ h0 x1523889 rh0) rh0 (by decide) rfl wk_X11_accept tw_611 rfl ⟨Nat.le_of_ble_eq_true rfl, Nat.le_of_ble_eq_true rfl⟩ ⟨rfl, rfl⟩ hl.1 rfl (Nat.le_of_ble_eq_true rfl) dX11_give_44 ⟨Nat.le_of_ble_eq_true rfl, Nat.le_of_ble_eq_true rfl⟩ (fun v1523898 f1523899 H locs q1523900 hW => ?_)
    obtain ⟨⟨x1523902, rfl, p1523903⟩, g1523901⟩ := q1523900
    clear p1523903
    have hF := FM.tr hF g1523901 rfl
    exact e_I E hW rfl ⟨⟨_, rfl, trivial⟩, hF⟩ dX11_give_47
  · have q1523904 : (u1.toInt < 0 ∨ 10000000 < u1.toInt) := by omega
    clear p1523876
    refine lv_aload_n hx hb dX11_give_10 rfl (lv_at hl 0 rfl) ?_
    refine lv_iconst (v := (-1)) hx hb dX11_give_11 (by decide) ?_
    refine t_callV (As := [.int (-1)]) (rest := []) E hW (c_X11_refuse l G cI cJ cZ cD cR cT kp L f1523872 hW.2.2.2 _ h0 (-1) rh0 (by decide)) rh0 (by decide) rfl wk_X11_refuse tw_603 rfl ⟨Nat.le_of_ble_eq_true rfl, Nat.le_of_ble_eq_true rfl⟩ ⟨rfl, rfl⟩ hl.1 rfl (Nat.le_of_ble_eq_true rfl) dX11_give_12 ⟨Nat.le_of_ble_eq_true rfl, Nat.le_of_ble_eq_true rfl⟩ (fun v1523905 f1523906 H locs q1523907 hW => ?_)
    obtain ⟨⟨x1523909, rfl, p1523910⟩, g1523908⟩ := q1523907
    have p1523910 : (-6 : Int) ≤ x1523909.toInt ∧ x1523909.toInt ≤ -1 := p1523910
    have hF := FM.tr hF g1523908 rfl
    exact e_I E hW rfl ⟨⟨_, rfl, trivial⟩, hF⟩ dX11_give_15
def ms_X11_go : List (Nat × Nat) := [(0, 6), (0, 12), (0, 13), (0, 14), (3, 0), (10, 0), (11, 15), (115, 0), (164, 0), (165, 0), (166, 0), (167, 0), (169, 0), (171, 0), (222, 0), (223, 0), (342, 0), (345, 0), (346, 0), (347, 0), (348, 0), (349, 0), (701, 0), (702, 0), (703, 0), (704, 0), (705, 0), (706, 0)]
def po_X11_go (kp : Nat → Nat) (L : List Nat) (f0 : Nat → va_E) (h0 : Nat) (u1 : Int32) : Option Value → (Nat → va_E) → Prop := fun v f => (∃ r : Int32, v = some (.int r) ∧ (True)) ∧ FM kp L ms_X11_go f0 f
set_option maxHeartbeats 4000000 in
set_option maxRecDepth 100000 in
theorem c_X11_go (l : Launch) (G : va_G) (cI cJ cZ cD cR cT : ClassId) (kp : Nat → Nat) (L : List Nat) (f0 : Nat → va_E) (hTH : TH cI cJ cZ cD cR cT kp L f0) (sz : Nat) (h0 : Nat) (u1 : Int32) (rh0 : RK kp L h0 11) : Met l yX11_go (Cond.code yX11_go cX11_go 3 (some .int) :: wTab) ({ frames := 7, cells := 0, slots := 0, locals := 191 }) (va_Pc [.ref h0, .int u1] (PreW G (tys6 cI cJ cZ cD cR cT) (va_pl L f0) sz)) (QT (po_X11_go kp L f0 h0 u1) G cI cJ cZ cD cR cT (va_A (va_pl L f0) sz) kp L) 0 0 (va_A (va_pl L f0) sz) := by
  refine metT (by decide) (Nat.le_of_ble_eq_true rfl) hTH ?_
  intro p e s m below meth c A ls E hW hl
  obtain ⟨hx, hb, -, hml, hown, hts, -, -, -⟩ := id E
  have hF : FM kp L ms_X11_go f0 f0 := FM.rf
  have hl : lv_has ls 3 [(0, .ref h0), (1, .int u1)] := hl
  refine lv_aload_n hx hb dX11_go_0 rfl (lv_at hl 0 rfl) ?_
  refine lv_iload_n hx hb dX11_go_1 rfl (lv_at hl 1 rfl) ?_
  refine t_callV (As := [.int u1]) (rest := []) E hW (c_X11_canGo l G cI cJ cZ cD cR cT kp L f0 hW.2.2.2 _ h0 u1 rh0) rh0 (by decide) rfl wk_X11_canGo tw_1110 rfl ⟨Nat.le_of_ble_eq_true rfl, Nat.le_of_ble_eq_true rfl⟩ ⟨rfl, rfl⟩ hl.1 rfl (Nat.le_of_ble_eq_true rfl) dX11_go_2 ⟨Nat.le_of_ble_eq_true rfl, Nat.le_of_ble_eq_true rfl⟩ (fun v1523911 f1523912 H locs q1523913 hW => ?_)
  obtain ⟨⟨x1523915, rfl, p1523916⟩, g1523914⟩ := q1523913
  have hF := FM.tr hF g1523914 rfl
  refine q_if_ne (tgt := 14) hx hb dX11_go_5 (by decide) rfl (fun c1523917 => ?_) (fun c1523917 => ?_)
  · have q1523918 : 1 ≤ u1.toInt ∧ u1.toInt ≤ 104 := by omega
    clear p1523916
    refine lv_iconst (v := 0) hx hb dX11_go_14 (by decide) ?_
    refine lv_istore_n (lv' := [(2, .int 0), (0, .ref h0), (1, .int u1)]) hx hb dX11_go_15 rfl hl (by decide) rfl (fun ls hl => ?_)
    have L1524377 : ∀ (n : Nat), ∀ (f1524374 : Nat → va_E) (y1524375 : Int32) (b1524376 : (0 : Int) ≤ y1524375.toInt ∧ y1524375.toInt ≤ 104) (hm : (105 : Int) - y1524375.toInt ≤ n) (H : Heap) (locs : List Loc) (ls : Array Slot), WS G cI cJ cZ cD cR cT A kp L f1524374 s H locs → FM kp L ms_X11_go f0 f1524374 → lv_has ls 3 [(2, .int y1524375), (0, .ref h0), (1, .int u1)] → W p l e ({ frames := 7, cells := 0, slots := 0, locals := 191 }) s m ([.ref h0, .int u1] : List Value).toArray below meth c H locs 0 0 (MQ below (QT (po_X11_go kp L f0 h0 u1) G cI cJ cZ cD cR cT A kp L) ([.ref h0, .int u1] : List Value).toArray s 0 0 A) (F0 m 16 ls []) := by
      intro n
      induction n with
      | zero =>
        intro f1524374 y1524375 b1524376 hm H locs ls hW hF hl
        have hz := i32_b y1524375
        exfalso; omega
      | succ n ih =>
        intro f1524374 y1524375 b1524376 hm H locs ls hW hF hl
        clear c1523917
        have ih16 := ih
        refine lv_iload_n hx hb dX11_go_16 rfl (lv_at hl 0 rfl) ?_
        refine lv_iload_n hx hb dX11_go_17 rfl (lv_at hl 2 rfl) ?_
        refine q_icmp_ge (tgt := 34) hx hb dX11_go_18 (by decide) rfl rfl (fun c1524387 => ?_) (fun c1524387 => ?_)
        · refine lv_aload_n hx hb dX11_go_34 rfl (lv_at hl 1 rfl) ?_
          refine lv_aload_n hx hb dX11_go_35 rfl (lv_at hl 1 rfl) ?_
          refine fg_RX11_12 E hW rh0 dX11_go_36 (fun a1524388 m1524389 r1524390 => ?_)
          refine fg_RX11_255 E hW r1524390 dX11_go_39 (fun y1524391 m1524392 b1524393 => ?_)
          refine t_callV (As := [.int y1524391]) (rest := []) E hW (c_X11_accept l G cI cJ cZ cD cR cT kp L f1524374 hW.2.2.2 _ h0 y1524391 rh0) rh0 (by decide) rfl wk_X11_accept tw_611 rfl ⟨Nat.le_of_ble_eq_true rfl, Nat.le_of_ble_eq_true rfl⟩ ⟨rfl, rfl⟩ hl.1 rfl (Nat.le_of_ble_eq_true rfl) dX11_go_42 ⟨Nat.le_of_ble_eq_true rfl, Nat.le_of_ble_eq_true rfl⟩ (fun v1524394 f1524395 H locs q1524396 hW => ?_)
          obtain ⟨⟨x1524398, rfl, p1524399⟩, g1524397⟩ := q1524396
          clear p1524399
          have hF := FM.tr hF g1524397 rfl
          exact e_I E hW rfl ⟨⟨_, rfl, trivial⟩, hF⟩ dX11_go_45
        · refine lv_aload_n hx hb dX11_go_21 rfl (lv_at hl 1 rfl) ?_
          refine fg_RX11_12 E hW rh0 dX11_go_22 (fun a1524400 m1524401 r1524402 => ?_)
          refine t_callV (As := []) (rest := []) E hW (c_X0_passWeek l G cI cJ cZ cD cR cT kp L f1524374 hW.2.2.2 _ a1524400 r1524402) r1524402 (by decide) rfl wk_X0_passWeek tw_1114 rfl ⟨Nat.le_of_ble_eq_true rfl, Nat.le_of_ble_eq_true rfl⟩ ⟨rfl, rfl⟩ hl.1 rfl (Nat.le_of_ble_eq_true rfl) dX11_go_25 ⟨Nat.le_of_ble_eq_true rfl, Nat.le_of_ble_eq_true rfl⟩ (fun v1524403 f1524404 H locs q1524405 hW => ?_)
          obtain ⟨rfl, g1524406⟩ := q1524405
          have hF := FM.tr hF g1524406 rfl
          refine q_iinc hx hb dX11_go_28 hl (k := 0) rfl rfl rfl (by omega) (by decide) (fun i1524407 ls h1524408 hl => ?_)
          have hl : lv_has ls 3 [(2, .int i1524407), (0, .ref h0), (1, .int u1)] := hl
          refine lv_goto (tgt := 16) hx hb dX11_go_31 (by decide) ?_
          exact ih16 f1524404 i1524407 (by omega) (by omega) _ _ _ hW hF (lv_sub hl [0, 1, 2] rfl)
    have hk1524409 : (0 : Int32).toInt = 0 := rfl
    exact L1524377 105 f1523912 0 (by decide) (by omega) _ _ _ hW hF (lv_sub hl [0, 1, 2] rfl)
  · clear p1523916
    refine lv_aload_n hx hb dX11_go_8 rfl (lv_at hl 0 rfl) ?_
    refine lv_iconst (v := (-1)) hx hb dX11_go_9 (by decide) ?_
    refine t_callV (As := [.int (-1)]) (rest := []) E hW (c_X11_refuse l G cI cJ cZ cD cR cT kp L f1523912 hW.2.2.2 _ h0 (-1) rh0 (by decide)) rh0 (by decide) rfl wk_X11_refuse tw_603 rfl ⟨Nat.le_of_ble_eq_true rfl, Nat.le_of_ble_eq_true rfl⟩ ⟨rfl, rfl⟩ hl.1 rfl (Nat.le_of_ble_eq_true rfl) dX11_go_10 ⟨Nat.le_of_ble_eq_true rfl, Nat.le_of_ble_eq_true rfl⟩ (fun v1524410 f1524411 H locs q1524412 hW => ?_)
    obtain ⟨⟨x1524414, rfl, p1524415⟩, g1524413⟩ := q1524412
    have p1524415 : (-6 : Int) ≤ x1524414.toInt ∧ x1524414.toInt ≤ -1 := p1524415
    have hF := FM.tr hF g1524413 rfl
    exact e_I E hW rfl ⟨⟨_, rfl, trivial⟩, hF⟩ dX11_go_13
def ms_X11_goes : List (Nat × Nat) := [(11, 15), (346, 0)]
def po_X11_goes (kp : Nat → Nat) (L : List Nat) (f0 : Nat → va_E) (h0 : Nat) (u1 : Int32) (u2 : Int32) : Option Value → (Nat → va_E) → Prop := fun v f => (∃ r : Int32, v = some (.int r) ∧ (True)) ∧ FM kp L ms_X11_goes f0 f
set_option maxHeartbeats 4000000 in
set_option maxRecDepth 100000 in
theorem c_X11_goes (l : Launch) (G : va_G) (cI cJ cZ cD cR cT : ClassId) (kp : Nat → Nat) (L : List Nat) (f0 : Nat → va_E) (hTH : TH cI cJ cZ cD cR cT kp L f0) (sz : Nat) (h0 : Nat) (u1 : Int32) (u2 : Int32) (rh0 : RK kp L h0 11) : Met l yX11_goes (Cond.code yX11_goes cX11_goes 4 (some .int) :: wTab) ({ frames := 2, cells := 0, slots := 0, locals := 62 }) (va_Pc [.ref h0, .int u1, .int u2] (PreW G (tys6 cI cJ cZ cD cR cT) (va_pl L f0) sz)) (QT (po_X11_goes kp L f0 h0 u1 u2) G cI cJ cZ cD cR cT (va_A (va_pl L f0) sz) kp L) 0 0 (va_A (va_pl L f0) sz) := by
  refine metT (by decide) (Nat.le_of_ble_eq_true rfl) hTH ?_
  intro p e s m below meth c A ls E hW hl
  obtain ⟨hx, hb, -, hml, hown, hts, -, -, -⟩ := id E
  have hF : FM kp L ms_X11_goes f0 f0 := FM.rf
  have hl : lv_has ls 4 [(0, .ref h0), (1, .int u1), (2, .int u2)] := hl
  refine lv_aload_n hx hb dX11_goes_0 rfl (lv_at hl 0 rfl) ?_
  refine fg_RX11_12 E hW rh0 dX11_goes_1 (fun a1524416 m1524417 r1524418 => ?_)
  refine fg_RX11_63 E hW r1524418 dX11_goes_4 (fun a1524419 m1524420 r1524421 => ?_)
  refine lv_astore_n (lv' := [(3, .ref a1524419), (0, .ref h0), (1, .int u1), (2, .int u2)]) hx hb dX11_goes_7 rfl hl (by decide) rfl (fun ls hl => ?_)
  refine lv_iload_n hx hb dX11_goes_8 rfl (lv_at hl 3 rfl) ?_
  refine lv_iconst (v := 0) hx hb dX11_goes_9 (by decide) ?_
  refine lv_iconst (v := 4) hx hb dX11_goes_10 (by decide) ?_
  refine t_callS (As := [.int u2, .int 0, .int 4]) (rest := []) E hW (c_X11_within l G cI cJ cZ cD cR cT kp L f0 hW.2.2.2 _ u2 0 4 (by decide)) wk_X11_within tw_599 rfl ⟨Nat.le_of_ble_eq_true rfl, Nat.le_of_ble_eq_true rfl⟩ ⟨rfl, rfl⟩ hl.1 rfl (Nat.le_of_ble_eq_true rfl) dX11_goes_11 ⟨Nat.le_of_ble_eq_true rfl, Nat.le_of_ble_eq_true rfl⟩ (fun v1524422 f1524423 H locs q1524424 hW => ?_)
  obtain ⟨⟨x1524426, rfl, p1524427⟩, g1524425⟩ := q1524424
  have p1524427 : (x1524426.toInt = 1 ∧ 0 ≤ u2.toInt ∧ u2.toInt ≤ 4) ∨ (x1524426.toInt = 0 ∧ (u2.toInt < 0 ∨ 4 < u2.toInt)) := p1524427
  have hF := FM.tr hF g1524425 rfl
  refine q_if_ne (tgt := 23) hx hb dX11_goes_14 (by decide) rfl (fun c1524428 => ?_) (fun c1524428 => ?_)
  · have q1524429 : 0 ≤ u2.toInt ∧ u2.toInt ≤ 4 := by omega
    clear p1524427
    refine lv_aload_n hx hb dX11_goes_23 rfl (lv_at hl 0 rfl) ?_
    refine lv_iload_n hx hb dX11_goes_24 rfl (lv_at hl 2 rfl) ?_
    refine t_callV (As := [.int u1]) (rest := []) E hW (c_X4_has l G cI cJ cZ cD cR cT kp L f1524423 hW.2.2.2 _ a1524419 u1 r1524421) r1524421 (by decide) rfl wk_X4_has tw_619 rfl ⟨Nat.le_of_ble_eq_true rfl, Nat.le_of_ble_eq_true rfl⟩ ⟨rfl, rfl⟩ hl.1 rfl (Nat.le_of_ble_eq_true rfl) dX11_goes_25 ⟨Nat.le_of_ble_eq_true rfl, Nat.le_of_ble_eq_true rfl⟩ (fun v1524430 f1524431 H locs q1524432 hW => ?_)
    obtain ⟨⟨x1524434, rfl, p1524435⟩, g1524433⟩ := q1524432
    have hF := FM.tr hF g1524433 rfl
    refine q_if_ne (tgt := 38) hx hb dX11_goes_28 (by decide) rfl (fun c1524436 => ?_) (fun c1524436 => ?_)
    · have q1524437 : 0 ≤ u1.toInt ∧ u1.toInt ≤ 39 := by omega
      clear p1524435
      refine lv_aload_n hx hb dX11_goes_38 rfl (lv_at hl 0 rfl) ?_
      refine fg_RX11_87 E hW r1524421 dX11_goes_39 (fun a1524438 m1524439 r1524440 => ?_)
      refine lv_iload_n hx hb dX11_goes_42 rfl (lv_at hl 2 rfl) ?_
      refine gl_346 E hW r1524440 ⟨by omega, by omega⟩ dX11_goes_43 (fun y1524441 m1524442 => ?_)
      refine lv_iconst (v := 4) hx hb dX11_goes_44 (by decide) ?_
      refine q_icmp_ne (Y := 4) (tgt := 55) hx hb dX11_goes_45 (by decide) rfl rfl (fun c1524444 => ?_) (fun c1524444 => ?_)
      · refine lv_aload_n hx hb dX11_goes_55 rfl (lv_at hl 0 rfl) ?_
        refine fg_RX11_87 E hW r1524421 dX11_goes_56 (fun a1524445 m1524446 r1524447 => ?_)
        obtain rfl : a1524438 = a1524445 := (m1524439).symm.trans m1524446
        refine lv_iload_n hx hb dX11_goes_59 rfl (lv_at hl 2 rfl) ?_
        refine lv_iload_n hx hb dX11_goes_60 rfl (lv_at hl 3 rfl) ?_
        refine gs_346 E hW r1524440 ⟨by omega, by omega⟩ dX11_goes_61 (fun f1524448 H locs e1524449 n1524450 g1524451 hW => ?_)
        have hF := FM.tr hF g1524451 rfl
        refine lv_aload_n hx hb dX11_goes_62 rfl (lv_at hl 1 rfl) ?_
        refine lv_iconst (v := 0) hx hb dX11_goes_63 (by decide) ?_
        refine t_callV (As := [.int 0]) (rest := []) E hW (c_X11_accept l G cI cJ cZ cD cR cT kp L f1524448 hW.2.2.2 _ h0 0 rh0) rh0 (by decide) rfl wk_X11_accept tw_611 rfl ⟨Nat.le_of_ble_eq_true rfl, Nat.le_of_ble_eq_true rfl⟩ ⟨rfl, rfl⟩ hl.1 rfl (Nat.le_of_ble_eq_true rfl) dX11_goes_64 ⟨Nat.le_of_ble_eq_true rfl, Nat.le_of_ble_eq_true rfl⟩ (fun v1524452 f1524453 H locs q1524454 hW => ?_)
        obtain ⟨⟨x1524456, rfl, p1524457⟩, g1524455⟩ := q1524454
        clear p1524457
        have hF := FM.tr hF g1524455 rfl
        exact e_I E hW rfl ⟨⟨_, rfl, trivial⟩, hF⟩ dX11_goes_67
      · refine lv_aload_n hx hb dX11_goes_48 rfl (lv_at hl 1 rfl) ?_
        refine lv_bipush (v := (-3)) hx hb dX11_goes_49 (by decide) ?_
        refine t_callV (As := [.int (-3)]) (rest := []) E hW (c_X11_refuse l G cI cJ cZ cD cR cT kp L f1524431 hW.2.2.2 _ h0 (-3) rh0 (by decide)) rh0 (by decide) rfl wk_X11_refuse tw_603 rfl ⟨Nat.le_of_ble_eq_true rfl, Nat.le_of_ble_eq_true rfl⟩ ⟨rfl, rfl⟩ hl.1 rfl (Nat.le_of_ble_eq_true rfl) dX11_goes_51 ⟨Nat.le_of_ble_eq_true rfl, Nat.le_of_ble_eq_true rfl⟩ (fun v1524458 f1524459 H locs q1524460 hW => ?_)
        obtain ⟨⟨x1524462, rfl, p1524463⟩, g1524461⟩ := q1524460
        have p1524463 : (-6 : Int) ≤ x1524462.toInt ∧ x1524462.toInt ≤ -1 := p1524463
        have hF := FM.tr hF g1524461 rfl
        exact e_I E hW rfl ⟨⟨_, rfl, trivial⟩, hF⟩ dX11_goes_54
    · clear p1524435
      refine lv_aload_n hx hb dX11_goes_31 rfl (lv_at hl 1 rfl) ?_
      refine lv_bipush (v := (-2)) hx hb dX11_goes_32 (by decide) ?_
      refine t_callV (As := [.int (-2)]) (rest := []) E hW (c_X11_refuse l G cI cJ cZ cD cR cT kp L f1524431 hW.2.2.2 _ h0 (-2) rh0 (by decide)) rh0 (by decide) rfl wk_X11_refuse tw_603 rfl ⟨Nat.le_of_ble_eq_true rfl, Nat.le_of_ble_eq_true rfl⟩ ⟨rfl, rfl⟩ hl.1 rfl (Nat.le_of_ble_eq_true rfl) dX11_goes_34 ⟨Nat.le_of_ble_eq_true rfl, Nat.le_of_ble_eq_true rfl⟩ (fun v1524464 f1524465 H locs q1524466 hW => ?_)
      obtain ⟨⟨x1524468, rfl, p1524469⟩, g1524467⟩ := q1524466
      have p1524469 : (-6 : Int) ≤ x1524468.toInt ∧ x1524468.toInt ≤ -1 := p1524469
      have hF := FM.tr hF g1524467 rfl
      exact e_I E hW rfl ⟨⟨_, rfl, trivial⟩, hF⟩ dX11_goes_37
  · have q1524470 : (u2.toInt < 0 ∨ 4 < u2.toInt) := by omega
    clear p1524427
    refine lv_aload_n hx hb dX11_goes_17 rfl (lv_at hl 1 rfl) ?_
    refine lv_iconst (v := (-1)) hx hb dX11_goes_18 (by decide) ?_
    refine t_callV (As := [.int (-1)]) (rest := []) E hW (c_X11_refuse l G cI cJ cZ cD cR cT kp L f1524423 hW.2.2.2 _ h0 (-1) rh0 (by decide)) rh0 (by decide) rfl wk_X11_refuse tw_603 rfl ⟨Nat.le_of_ble_eq_true rfl, Nat.le_of_ble_eq_true rfl⟩ ⟨rfl, rfl⟩ hl.1 rfl (Nat.le_of_ble_eq_true rfl) dX11_goes_19 ⟨Nat.le_of_ble_eq_true rfl, Nat.le_of_ble_eq_true rfl⟩ (fun v1524471 f1524472 H locs q1524473 hW => ?_)
    obtain ⟨⟨x1524475, rfl, p1524476⟩, g1524474⟩ := q1524473
    have p1524476 : (-6 : Int) ≤ x1524475.toInt ∧ x1524475.toInt ≤ -1 := p1524476
    have hF := FM.tr hF g1524474 rfl
    exact e_I E hW rfl ⟨⟨_, rfl, trivial⟩, hF⟩ dX11_goes_22
def ms_X11_gotOnPaper : List (Nat × Nat) := [(0, 6), (0, 9), (0, 12), (0, 13), (0, 14), (1, 0), (1, 8), (1, 12), (1, 13), (1, 14), (2, 0), (3, 0), (3, 1), (3, 2), (3, 3), (4, 0), (10, 0), (10, 7), (108, 0), (115, 0), (161, 0), (162, 0), (163, 0), (164, 0), (165, 0), (166, 0), (167, 0), (169, 0), (170, 0), (171, 0), (221, 0), (222, 0), (223, 0), (284, 0), (285, 0), (341, 0), (342, 0), (343, 0), (344, 0), (345, 0), (346, 0), (347, 0), (348, 0), (349, 0), (520, 0), (521, 0), (701, 0), (702, 0), (703, 0), (704, 0), (705, 0), (706, 0), (708, 0), (709, 0), (710, 0)]
def po_X11_gotOnPaper (kp : Nat → Nat) (L : List Nat) (f0 : Nat → va_E) (h0 : Nat) (u1 : Int32) (u2 : Nat) : Option Value → (Nat → va_E) → Prop := fun v f => (∃ r : Int64, v = some (.long r) ∧ (True)) ∧ FM kp L ms_X11_gotOnPaper f0 f
set_option maxHeartbeats 4000000 in
set_option maxRecDepth 100000 in
theorem c_X11_gotOnPaper (l : Launch) (G : va_G) (cI cJ cZ cD cR cT : ClassId) (kp : Nat → Nat) (L : List Nat) (f0 : Nat → va_E) (hTH : TH cI cJ cZ cD cR cT kp L f0) (sz : Nat) (h0 : Nat) (u1 : Int32) (u2 : Nat) (rh0 : RK kp L h0 11) (ru2 : RK kp L u2 9) : Met l yX11_gotOnPaper (Cond.code yX11_gotOnPaper cX11_gotOnPaper 4 (some .long) :: wTab) ({ frames := 7, cells := 0, slots := 0, locals := 191 }) (va_Pc [.ref h0, .int u1, .ref u2] (PreW G (tys6 cI cJ cZ cD cR cT) (va_pl L f0) sz)) (QT (po_X11_gotOnPaper kp L f0 h0 u1 u2) G cI cJ cZ cD cR cT (va_A (va_pl L f0) sz) kp L) 0 0 (va_A (va_pl L f0) sz) := by
  refine metT (by decide) (Nat.le_of_ble_eq_true rfl) hTH ?_
  intro p e s m below meth c A ls E hW hl
  obtain ⟨hx, hb, -, hml, hown, hts, -, -, -⟩ := id E
  have hF : FM kp L ms_X11_gotOnPaper f0 f0 := FM.rf
  have hl : lv_has ls 4 [(0, .ref h0), (1, .int u1), (2, .ref u2)] := hl
  refine lv_aload_n hx hb dX11_gotOnPaper_0 rfl (lv_at hl 0 rfl) ?_
  refine fg_RX11_18 E hW rh0 dX11_gotOnPaper_1 (fun a1524477 m1524478 r1524479 => ?_)
  refine lv_aload_n hx hb dX11_gotOnPaper_4 rfl (lv_at hl 0 rfl) ?_
  refine fg_RX11_12 E hW rh0 dX11_gotOnPaper_5 (fun a1524480 m1524481 r1524482 => ?_)
  refine t_callV (As := [.ref a1524480]) (rest := []) E hW (c_X0_copyFrom l G cI cJ cZ cD cR cT kp L f0 hW.2.2.2 _ a1524477 a1524480 r1524479 r1524482) r1524479 (by decide) rfl wk_X0_copyFrom tw_1285 rfl ⟨Nat.le_of_ble_eq_true rfl, Nat.le_of_ble_eq_true rfl⟩ ⟨rfl, rfl⟩ hl.1 rfl (Nat.le_of_ble_eq_true rfl) dX11_gotOnPaper_8 ⟨Nat.le_of_ble_eq_true rfl, Nat.le_of_ble_eq_true rfl⟩ (fun v1524483 f1524484 H locs q1524485 hW => ?_)
  obtain ⟨rfl, g1524486⟩ := q1524485
  have hF := FM.tr hF g1524486 rfl
  refine lv_aload_n hx hb dX11_gotOnPaper_11 rfl (lv_at hl 2 rfl) ?_
  refine lv_ifnull hx hb dX11_gotOnPaper_12 ?_
  refine lv_aload_n hx hb dX11_gotOnPaper_15 rfl (lv_at hl 0 rfl) ?_
  refine fg_RX11_18 E hW rh0 dX11_gotOnPaper_16 (fun a1524487 m1524488 r1524489 => ?_)
  obtain rfl : a1524477 = a1524487 := (((fm_R g1524486 rh0 rfl).trans m1524478)).symm.trans m1524488
  refine fg_RX11_219 E hW r1524479 dX11_gotOnPaper_19 (fun a1524490 m1524491 r1524492 => ?_)
  refine lv_aload_n hx hb dX11_gotOnPaper_22 rfl (lv_at hl 2 rfl) ?_
  refine t_callV (As := [.ref u2]) (rest := []) E hW (c_X2_add l G cI cJ cZ cD cR cT kp L f1524484 hW.2.2.2 _ a1524490 u2 r1524492 ru2) r1524492 (by decide) rfl wk_X2_add tw_1050 rfl ⟨Nat.le_of_ble_eq_true rfl, Nat.le_of_ble_eq_true rfl⟩ ⟨rfl, rfl⟩ hl.1 rfl (Nat.le_of_ble_eq_true rfl) dX11_gotOnPaper_23 ⟨Nat.le_of_ble_eq_true rfl, Nat.le_of_ble_eq_true rfl⟩ (fun v1524493 f1524494 H locs q1524495 hW => ?_)
  obtain ⟨⟨x1524497, rfl, p1524498⟩, g1524496⟩ := q1524495
  have hF := FM.tr hF g1524496 rfl
  refine lv_pop hx hb dX11_gotOnPaper_26 rfl ?_
  refine lv_iconst (v := 0) hx hb dX11_gotOnPaper_27 (by decide) ?_
  refine lv_istore_n (lv' := [(3, .int 0), (0, .ref h0), (1, .int u1), (2, .ref u2)]) hx hb dX11_gotOnPaper_28 rfl hl (by decide) rfl (fun ls hl => ?_)
  have L1525498 : ∀ (n : Nat), ∀ (f1525492 : Nat → va_E) (y1525496 : Int32) (m1525493 : oR (f1525492 a1524477) 4 = a1524490) (m1525494 : oR (f1525492 h0) 0 = a1524480) (m1525495 : oR (f1525492 h0) 1 = a1524477) (b1525497 : (0 : Int) ≤ y1525496.toInt) (hm : (2147483648 : Int) - y1525496.toInt ≤ n) (H : Heap) (locs : List Loc) (ls : Array Slot), WS G cI cJ cZ cD cR cT A kp L f1525492 s H locs → FM kp L ms_X11_gotOnPaper f0 f1525492 → lv_has ls 4 [(3, .int y1525496), (0, .ref h0), (1, .int u1), (2, .ref u2)] → W p l e ({ frames := 7, cells := 0, slots := 0, locals := 191 }) s m ([.ref h0, .int u1, .ref u2] : List Value).toArray below meth c H locs 0 0 (MQ below (QT (po_X11_gotOnPaper kp L f0 h0 u1 u2) G cI cJ cZ cD cR cT A kp L) ([.ref h0, .int u1, .ref u2] : List Value).toArray s 0 0 A) (F0 m 29 ls []) := by
    intro n
    induction n with
    | zero =>
      intro f1525492 y1525496 m1525493 m1525494 m1525495 b1525497 hm H locs ls hW hF hl
      have hz := i32_b y1525496
      exfalso; omega
    | succ n ih =>
      intro f1525492 y1525496 m1525493 m1525494 m1525495 b1525497 hm H locs ls hW hF hl
      clear p1524498
      have ih29 := ih
      refine lv_iload_n hx hb dX11_gotOnPaper_29 rfl (lv_at hl 0 rfl) ?_
      refine lv_iload_n hx hb dX11_gotOnPaper_30 rfl (lv_at hl 2 rfl) ?_
      refine q_icmp_ge (tgt := 47) hx hb dX11_gotOnPaper_31 (by decide) rfl rfl (fun c1525508 => ?_) (fun c1525508 => ?_)
      · refine lv_aload_n hx hb dX11_gotOnPaper_47 rfl (lv_at hl 1 rfl) ?_
        refine fg_RX11_18 E hW rh0 dX11_gotOnPaper_48 (fun a1525509 m1525510 r1525511 => ?_)
        obtain rfl : a1524477 = a1525509 := (m1525495).symm.trans m1525510
        refine fg_RX11_395 E hW r1524479 dX11_gotOnPaper_51 (fun y1525512 m1525513 => ?_)
        exact e_J E hW rfl ⟨⟨_, rfl, trivial⟩, hF⟩ dX11_gotOnPaper_54
      · have hb1525514 : y1525496.toInt ≤ 2147483646 := by have := i32_b u1; omega
        refine lv_aload_n hx hb dX11_gotOnPaper_34 rfl (lv_at hl 1 rfl) ?_
        refine fg_RX11_18 E hW rh0 dX11_gotOnPaper_35 (fun a1525515 m1525516 r1525517 => ?_)
        obtain rfl : a1524477 = a1525515 := (m1525495).symm.trans m1525516
        refine t_callV (As := []) (rest := []) E hW (c_X0_passWeek l G cI cJ cZ cD cR cT kp L f1525492 hW.2.2.2 _ a1524477 r1524479) r1524479 (by decide) rfl wk_X0_passWeek tw_1114 rfl ⟨Nat.le_of_ble_eq_true rfl, Nat.le_of_ble_eq_true rfl⟩ ⟨rfl, rfl⟩ hl.1 rfl (Nat.le_of_ble_eq_true rfl) dX11_gotOnPaper_38 ⟨Nat.le_of_ble_eq_true rfl, Nat.le_of_ble_eq_true rfl⟩ (fun v1525518 f1525519 H locs q1525520 hW => ?_)
        obtain ⟨rfl, g1525521⟩ := q1525520
        have hF := FM.tr hF g1525521 rfl
        refine q_iinc hx hb dX11_gotOnPaper_41 hl (k := 0) rfl rfl rfl (by omega) (by decide) (fun i1525522 ls h1525523 hl => ?_)
        have hl : lv_has ls 4 [(3, .int i1525522), (0, .ref h0), (1, .int u1), (2, .ref u2)] := hl
        refine lv_goto (tgt := 29) hx hb dX11_gotOnPaper_44 (by decide) ?_
        exact ih29 f1525519 i1525522 ((fm_R g1525521 r1524479 rfl).trans m1525493) ((fm_R g1525521 rh0 rfl).trans m1525494) ((fm_R g1525521 rh0 rfl).trans m1525516) (by omega) (by omega) _ _ _ hW hF (lv_sub hl [0, 1, 2, 3] rfl)
  have hk1525524 : (0 : Int32).toInt = 0 := rfl
  exact L1525498 2147483648 f1524494 0 ((fm_R g1524496 r1524479 rfl).trans m1524491) ((fm_R g1524496 rh0 rfl).trans ((fm_R g1524486 rh0 rfl).trans m1524481)) ((fm_R g1524496 rh0 rfl).trans m1524488) (by decide) (by omega) _ _ _ hW hF (lv_sub hl [0, 1, 2, 3] rfl)
def ms_X11_guard : List (Nat × Nat) := [(10, 7), (11, 15), (708, 0), (709, 0), (710, 0)]
def po_X11_guard (kp : Nat → Nat) (L : List Nat) (f0 : Nat → va_E) (h0 : Nat) (u1 : Int32) (u2 : Int32) (u3 : Int32) : Option Value → (Nat → va_E) → Prop := fun v f => (∃ r : Int32, v = some (.int r) ∧ (True)) ∧ FM kp L ms_X11_guard f0 f
set_option maxHeartbeats 4000000 in
set_option maxRecDepth 100000 in
theorem c_X11_guard (l : Launch) (G : va_G) (cI cJ cZ cD cR cT : ClassId) (kp : Nat → Nat) (L : List Nat) (f0 : Nat → va_E) (hTH : TH cI cJ cZ cD cR cT kp L f0) (sz : Nat) (h0 : Nat) (u1 : Int32) (u2 : Int32) (u3 : Int32) (rh0 : RK kp L h0 11) : Met l yX11_guard (Cond.code yX11_guard cX11_guard 5 (some .int) :: wTab) ({ frames := 2, cells := 0, slots := 0, locals := 63 }) (va_Pc [.ref h0, .int u1, .int u2, .int u3] (PreW G (tys6 cI cJ cZ cD cR cT) (va_pl L f0) sz)) (QT (po_X11_guard kp L f0 h0 u1 u2 u3) G cI cJ cZ cD cR cT (va_A (va_pl L f0) sz) kp L) 0 0 (va_A (va_pl L f0) sz) := by
  refine metT (by decide) (Nat.le_of_ble_eq_true rfl) hTH ?_
  intro p e s m below meth c A ls E hW hl
  obtain ⟨hx, hb, -, hml, hown, hts, -, -, -⟩ := id E
  have hF : FM kp L ms_X11_guard f0 f0 := FM.rf
  have hl : lv_has ls 5 [(0, .ref h0), (1, .int u1), (2, .int u2), (3, .int u3)] := hl
  refine lv_aload_n hx hb dX11_guard_0 rfl (lv_at hl 0 rfl) ?_
  refine fg_RX11_12 E hW rh0 dX11_guard_1 (fun a1525525 m1525526 r1525527 => ?_)
  refine fg_RX11_170 E hW r1525527 dX11_guard_4 (fun a1525528 m1525529 r1525530 => ?_)
  refine lv_astore (lv' := [(4, .ref a1525528), (0, .ref h0), (1, .int u1), (2, .int u2), (3, .int u3)]) hx hb dX11_guard_7 hl (by decide) rfl (fun ls hl => ?_)
  refine lv_iload_n hx hb dX11_guard_9 rfl (lv_at hl 3 rfl) ?_
  refine t_callS (As := [.int u2]) (rest := []) E hW (c_X11_isWeek l G cI cJ cZ cD cR cT kp L f0 hW.2.2.2 _ u2) wk_X11_isWeek tw_780 rfl ⟨Nat.le_of_ble_eq_true rfl, Nat.le_of_ble_eq_true rfl⟩ ⟨rfl, rfl⟩ hl.1 rfl (Nat.le_of_ble_eq_true rfl) dX11_guard_10 ⟨Nat.le_of_ble_eq_true rfl, Nat.le_of_ble_eq_true rfl⟩ (fun v1525531 f1525532 H locs q1525533 hW => ?_)
  obtain ⟨⟨x1525535, rfl, p1525536⟩, g1525534⟩ := q1525533
  have hF := FM.tr hF g1525534 rfl
  refine q_if_eq (tgt := 28) hx hb dX11_guard_13 (by decide) rfl (fun c1525537 => ?_) (fun c1525537 => ?_)
  · have q1525538 : (u2.toInt < 0 ∨ 399 < u2.toInt) := by omega
    clear p1525536
    refine lv_aload_n hx hb dX11_guard_28 rfl (lv_at hl 1 rfl) ?_
    refine lv_iconst (v := (-1)) hx hb dX11_guard_29 (by decide) ?_
    refine t_callV (As := [.int (-1)]) (rest := []) E hW (c_X11_refuse l G cI cJ cZ cD cR cT kp L f1525532 hW.2.2.2 _ h0 (-1) rh0 (by decide)) rh0 (by decide) rfl wk_X11_refuse tw_603 rfl ⟨Nat.le_of_ble_eq_true rfl, Nat.le_of_ble_eq_true rfl⟩ ⟨rfl, rfl⟩ hl.1 rfl (Nat.le_of_ble_eq_true rfl) dX11_guard_30 ⟨Nat.le_of_ble_eq_true rfl, Nat.le_of_ble_eq_true rfl⟩ (fun v1525539 f1525540 H locs q1525541 hW => ?_)
    obtain ⟨⟨x1525543, rfl, p1525544⟩, g1525542⟩ := q1525541
    have p1525544 : (-6 : Int) ≤ x1525543.toInt ∧ x1525543.toInt ≤ -1 := p1525544
    have hF := FM.tr hF g1525542 rfl
    exact e_I E hW rfl ⟨⟨_, rfl, trivial⟩, hF⟩ dX11_guard_33
  · have q1525545 : 0 ≤ u2.toInt ∧ u2.toInt ≤ 399 := by omega
    clear p1525536
    refine lv_iload_n hx hb dX11_guard_16 rfl (lv_at hl 4 rfl) ?_
    refine t_callS (As := [.int u3]) (rest := []) E hW (c_X11_isWeek l G cI cJ cZ cD cR cT kp L f1525532 hW.2.2.2 _ u3) wk_X11_isWeek tw_780 rfl ⟨Nat.le_of_ble_eq_true rfl, Nat.le_of_ble_eq_true rfl⟩ ⟨rfl, rfl⟩ hl.1 rfl (Nat.le_of_ble_eq_true rfl) dX11_guard_17 ⟨Nat.le_of_ble_eq_true rfl, Nat.le_of_ble_eq_true rfl⟩ (fun v1525546 f1525547 H locs q1525548 hW => ?_)
    obtain ⟨⟨x1525550, rfl, p1525551⟩, g1525549⟩ := q1525548
    have hF := FM.tr hF g1525549 rfl
    refine q_if_eq (tgt := 28) hx hb dX11_guard_20 (by decide) rfl (fun c1525552 => ?_) (fun c1525552 => ?_)
    · have q1525553 : (u3.toInt < 0 ∨ 399 < u3.toInt) := by omega
      clear p1525551
      refine lv_aload_n hx hb dX11_guard_28 rfl (lv_at hl 1 rfl) ?_
      refine lv_iconst (v := (-1)) hx hb dX11_guard_29 (by decide) ?_
      refine t_callV (As := [.int (-1)]) (rest := []) E hW (c_X11_refuse l G cI cJ cZ cD cR cT kp L f1525547 hW.2.2.2 _ h0 (-1) rh0 (by decide)) rh0 (by decide) rfl wk_X11_refuse tw_603 rfl ⟨Nat.le_of_ble_eq_true rfl, Nat.le_of_ble_eq_true rfl⟩ ⟨rfl, rfl⟩ hl.1 rfl (Nat.le_of_ble_eq_true rfl) dX11_guard_30 ⟨Nat.le_of_ble_eq_true rfl, Nat.le_of_ble_eq_true rfl⟩ (fun v1525554 f1525555 H locs q1525556 hW => ?_)
      obtain ⟨⟨x1525558, rfl, p1525559⟩, g1525557⟩ := q1525556
      have p1525559 : (-6 : Int) ≤ x1525558.toInt ∧ x1525558.toInt ≤ -1 := p1525559
      have hF := FM.tr hF g1525557 rfl
      exact e_I E hW rfl ⟨⟨_, rfl, trivial⟩, hF⟩ dX11_guard_33
    · have q1525560 : 0 ≤ u3.toInt ∧ u3.toInt ≤ 399 := by omega
      clear p1525551
      refine lv_iload_n hx hb dX11_guard_23 rfl (lv_at hl 3 rfl) ?_
      refine lv_iload_n hx hb dX11_guard_24 rfl (lv_at hl 4 rfl) ?_
      refine q_icmp_le (tgt := 34) hx hb dX11_guard_25 (by decide) rfl rfl (fun c1525561 => ?_) (fun c1525561 => ?_)
      · refine lv_aload_n hx hb dX11_guard_34 rfl (lv_at hl 1 rfl) ?_
        refine fg_RX11_12 E hW rh0 dX11_guard_35 (fun a1525562 m1525563 r1525564 => ?_)
        obtain rfl : a1525525 = a1525562 := (((fm_R g1525549 rh0 rfl).trans ((fm_R g1525534 rh0 rfl).trans m1525526))).symm.trans m1525563
        refine fg_RX11_114 E hW r1525527 dX11_guard_38 (fun a1525565 m1525566 r1525567 => ?_)
        refine lv_iload_n hx hb dX11_guard_41 rfl (lv_at hl 2 rfl) ?_
        refine t_callV (As := [.int u1]) (rest := []) E hW (c_X1_has l G cI cJ cZ cD cR cT kp L f1525547 hW.2.2.2 _ a1525565 u1 r1525567) r1525567 (by decide) rfl wk_X1_has tw_683 rfl ⟨Nat.le_of_ble_eq_true rfl, Nat.le_of_ble_eq_true rfl⟩ ⟨rfl, rfl⟩ hl.1 rfl (Nat.le_of_ble_eq_true rfl) dX11_guard_42 ⟨Nat.le_of_ble_eq_true rfl, Nat.le_of_ble_eq_true rfl⟩ (fun v1525568 f1525569 H locs q1525570 hW => ?_)
        obtain ⟨⟨x1525572, rfl, p1525573⟩, g1525571⟩ := q1525570
        have hF := FM.tr hF g1525571 rfl
        refine q_if_ne (tgt := 55) hx hb dX11_guard_45 (by decide) rfl (fun c1525574 => ?_) (fun c1525574 => ?_)
        · have q1525575 : 0 ≤ u1.toInt ∧ u1.toInt ≤ 39 := by omega
          clear p1525573
          refine lv_aload hx hb dX11_guard_55 (lv_at hl 0 rfl) ?_
          refine fg_RX11_264 E hW r1525530 dX11_guard_57 (fun y1525576 m1525577 b1525578 => ?_)
          refine lv_bipush (v := 40) hx hb dX11_guard_60 (by decide) ?_
          refine q_icmp_lt (Y := 40) (tgt := 72) hx hb dX11_guard_62 (by decide) rfl rfl (fun c1525579 => ?_) (fun c1525579 => ?_)
          · refine lv_aload hx hb dX11_guard_72 (lv_at hl 0 rfl) ?_
            refine lv_iload_n hx hb dX11_guard_74 rfl (lv_at hl 2 rfl) ?_
            refine lv_iload_n hx hb dX11_guard_75 rfl (lv_at hl 3 rfl) ?_
            refine lv_iload_n hx hb dX11_guard_76 rfl (lv_at hl 4 rfl) ?_
            refine t_callV (As := [.int u1, .int u2, .int u3]) (rest := []) E hW (c_X10_addGuard l G cI cJ cZ cD cR cT kp L f1525569 hW.2.2.2 _ a1525528 u1 u2 u3 r1525530 (by omega) (by omega) (by omega)) r1525530 (by decide) rfl wk_X10_addGuard tw_1097 rfl ⟨Nat.le_of_ble_eq_true rfl, Nat.le_of_ble_eq_true rfl⟩ ⟨rfl, rfl⟩ hl.1 rfl (Nat.le_of_ble_eq_true rfl) dX11_guard_77 ⟨Nat.le_of_ble_eq_true rfl, Nat.le_of_ble_eq_true rfl⟩ (fun v1525580 f1525581 H locs q1525582 hW => ?_)
            obtain ⟨rfl, g1525583⟩ := q1525582
            have hF := FM.tr hF g1525583 rfl
            refine lv_aload_n hx hb dX11_guard_80 rfl (lv_at hl 1 rfl) ?_
            refine lv_aload hx hb dX11_guard_81 (lv_at hl 0 rfl) ?_
            refine fg_RX11_264 E hW r1525530 dX11_guard_83 (fun y1525584 m1525585 b1525586 => ?_)
            refine t_callV (As := [.int y1525584]) (rest := []) E hW (c_X11_accept l G cI cJ cZ cD cR cT kp L f1525581 hW.2.2.2 _ h0 y1525584 rh0) rh0 (by decide) rfl wk_X11_accept tw_611 rfl ⟨Nat.le_of_ble_eq_true rfl, Nat.le_of_ble_eq_true rfl⟩ ⟨rfl, rfl⟩ hl.1 rfl (Nat.le_of_ble_eq_true rfl) dX11_guard_86 ⟨Nat.le_of_ble_eq_true rfl, Nat.le_of_ble_eq_true rfl⟩ (fun v1525587 f1525588 H locs q1525589 hW => ?_)
            obtain ⟨⟨x1525591, rfl, p1525592⟩, g1525590⟩ := q1525589
            clear p1525592
            have hF := FM.tr hF g1525590 rfl
            exact e_I E hW rfl ⟨⟨_, rfl, trivial⟩, hF⟩ dX11_guard_89
          · refine lv_aload_n hx hb dX11_guard_65 rfl (lv_at hl 1 rfl) ?_
            refine lv_bipush (v := (-5)) hx hb dX11_guard_66 (by decide) ?_
            refine t_callV (As := [.int (-5)]) (rest := []) E hW (c_X11_refuse l G cI cJ cZ cD cR cT kp L f1525569 hW.2.2.2 _ h0 (-5) rh0 (by decide)) rh0 (by decide) rfl wk_X11_refuse tw_603 rfl ⟨Nat.le_of_ble_eq_true rfl, Nat.le_of_ble_eq_true rfl⟩ ⟨rfl, rfl⟩ hl.1 rfl (Nat.le_of_ble_eq_true rfl) dX11_guard_68 ⟨Nat.le_of_ble_eq_true rfl, Nat.le_of_ble_eq_true rfl⟩ (fun v1525593 f1525594 H locs q1525595 hW => ?_)
            obtain ⟨⟨x1525597, rfl, p1525598⟩, g1525596⟩ := q1525595
            have p1525598 : (-6 : Int) ≤ x1525597.toInt ∧ x1525597.toInt ≤ -1 := p1525598
            have hF := FM.tr hF g1525596 rfl
            exact e_I E hW rfl ⟨⟨_, rfl, trivial⟩, hF⟩ dX11_guard_71
        · clear p1525573
          refine lv_aload_n hx hb dX11_guard_48 rfl (lv_at hl 1 rfl) ?_
          refine lv_bipush (v := (-2)) hx hb dX11_guard_49 (by decide) ?_
          refine t_callV (As := [.int (-2)]) (rest := []) E hW (c_X11_refuse l G cI cJ cZ cD cR cT kp L f1525569 hW.2.2.2 _ h0 (-2) rh0 (by decide)) rh0 (by decide) rfl wk_X11_refuse tw_603 rfl ⟨Nat.le_of_ble_eq_true rfl, Nat.le_of_ble_eq_true rfl⟩ ⟨rfl, rfl⟩ hl.1 rfl (Nat.le_of_ble_eq_true rfl) dX11_guard_51 ⟨Nat.le_of_ble_eq_true rfl, Nat.le_of_ble_eq_true rfl⟩ (fun v1525599 f1525600 H locs q1525601 hW => ?_)
          obtain ⟨⟨x1525603, rfl, p1525604⟩, g1525602⟩ := q1525601
          have p1525604 : (-6 : Int) ≤ x1525603.toInt ∧ x1525603.toInt ≤ -1 := p1525604
          have hF := FM.tr hF g1525602 rfl
          exact e_I E hW rfl ⟨⟨_, rfl, trivial⟩, hF⟩ dX11_guard_54
      · refine lv_aload_n hx hb dX11_guard_28 rfl (lv_at hl 1 rfl) ?_
        refine lv_iconst (v := (-1)) hx hb dX11_guard_29 (by decide) ?_
        refine t_callV (As := [.int (-1)]) (rest := []) E hW (c_X11_refuse l G cI cJ cZ cD cR cT kp L f1525547 hW.2.2.2 _ h0 (-1) rh0 (by decide)) rh0 (by decide) rfl wk_X11_refuse tw_603 rfl ⟨Nat.le_of_ble_eq_true rfl, Nat.le_of_ble_eq_true rfl⟩ ⟨rfl, rfl⟩ hl.1 rfl (Nat.le_of_ble_eq_true rfl) dX11_guard_30 ⟨Nat.le_of_ble_eq_true rfl, Nat.le_of_ble_eq_true rfl⟩ (fun v1525605 f1525606 H locs q1525607 hW => ?_)
        obtain ⟨⟨x1525609, rfl, p1525610⟩, g1525608⟩ := q1525607
        have p1525610 : (-6 : Int) ≤ x1525609.toInt ∧ x1525609.toInt ≤ -1 := p1525610
        have hF := FM.tr hF g1525608 rfl
        exact e_I E hW rfl ⟨⟨_, rfl, trivial⟩, hF⟩ dX11_guard_33
def ms_X11_heed : List (Nat × Nat) := [(11, 15), (344, 0)]
def po_X11_heed (kp : Nat → Nat) (L : List Nat) (f0 : Nat → va_E) (h0 : Nat) (u1 : Int32) (u2 : Int32) : Option Value → (Nat → va_E) → Prop := fun v f => (∃ r : Int32, v = some (.int r) ∧ (True)) ∧ FM kp L ms_X11_heed f0 f
set_option maxHeartbeats 4000000 in
set_option maxRecDepth 100000 in
theorem c_X11_heed (l : Launch) (G : va_G) (cI cJ cZ cD cR cT : ClassId) (kp : Nat → Nat) (L : List Nat) (f0 : Nat → va_E) (hTH : TH cI cJ cZ cD cR cT kp L f0) (sz : Nat) (h0 : Nat) (u1 : Int32) (u2 : Int32) (rh0 : RK kp L h0 11) : Met l yX11_heed (Cond.code yX11_heed cX11_heed 4 (some .int) :: wTab) ({ frames := 2, cells := 0, slots := 0, locals := 61 }) (va_Pc [.ref h0, .int u1, .int u2] (PreW G (tys6 cI cJ cZ cD cR cT) (va_pl L f0) sz)) (QT (po_X11_heed kp L f0 h0 u1 u2) G cI cJ cZ cD cR cT (va_A (va_pl L f0) sz) kp L) 0 0 (va_A (va_pl L f0) sz) := by
  refine metT (by decide) (Nat.le_of_ble_eq_true rfl) hTH ?_
  intro p e s m below meth c A ls E hW hl
  obtain ⟨hx, hb, -, hml, hown, hts, -, -, -⟩ := id E
  have hF : FM kp L ms_X11_heed f0 f0 := FM.rf
  have hl : lv_has ls 4 [(0, .ref h0), (1, .int u1), (2, .int u2)] := hl
  refine lv_aload_n hx hb dX11_heed_0 rfl (lv_at hl 0 rfl) ?_
  refine fg_RX11_12 E hW rh0 dX11_heed_1 (fun a1525611 m1525612 r1525613 => ?_)
  refine fg_RX11_63 E hW r1525613 dX11_heed_4 (fun a1525614 m1525615 r1525616 => ?_)
  refine lv_astore_n (lv' := [(3, .ref a1525614), (0, .ref h0), (1, .int u1), (2, .int u2)]) hx hb dX11_heed_7 rfl hl (by decide) rfl (fun ls hl => ?_)
  refine lv_aload_n hx hb dX11_heed_8 rfl (lv_at hl 0 rfl) ?_
  refine lv_iload_n hx hb dX11_heed_9 rfl (lv_at hl 2 rfl) ?_
  refine t_callV (As := [.int u1]) (rest := []) E hW (c_X4_has l G cI cJ cZ cD cR cT kp L f0 hW.2.2.2 _ a1525614 u1 r1525616) r1525616 (by decide) rfl wk_X4_has tw_619 rfl ⟨Nat.le_of_ble_eq_true rfl, Nat.le_of_ble_eq_true rfl⟩ ⟨rfl, rfl⟩ hl.1 rfl (Nat.le_of_ble_eq_true rfl) dX11_heed_10 ⟨Nat.le_of_ble_eq_true rfl, Nat.le_of_ble_eq_true rfl⟩ (fun v1525617 f1525618 H locs q1525619 hW => ?_)
  obtain ⟨⟨x1525621, rfl, p1525622⟩, g1525620⟩ := q1525619
  have hF := FM.tr hF g1525620 rfl
  refine q_if_eq (tgt := 29) hx hb dX11_heed_13 (by decide) rfl (fun c1525623 => ?_) (fun c1525623 => ?_)
  · clear p1525622
    refine lv_aload_n hx hb dX11_heed_29 rfl (lv_at hl 1 rfl) ?_
    refine lv_bipush (v := (-2)) hx hb dX11_heed_30 (by decide) ?_
    refine t_callV (As := [.int (-2)]) (rest := []) E hW (c_X11_refuse l G cI cJ cZ cD cR cT kp L f1525618 hW.2.2.2 _ h0 (-2) rh0 (by decide)) rh0 (by decide) rfl wk_X11_refuse tw_603 rfl ⟨Nat.le_of_ble_eq_true rfl, Nat.le_of_ble_eq_true rfl⟩ ⟨rfl, rfl⟩ hl.1 rfl (Nat.le_of_ble_eq_true rfl) dX11_heed_32 ⟨Nat.le_of_ble_eq_true rfl, Nat.le_of_ble_eq_true rfl⟩ (fun v1525624 f1525625 H locs q1525626 hW => ?_)
    obtain ⟨⟨x1525628, rfl, p1525629⟩, g1525627⟩ := q1525626
    have p1525629 : (-6 : Int) ≤ x1525628.toInt ∧ x1525628.toInt ≤ -1 := p1525629
    have hF := FM.tr hF g1525627 rfl
    exact e_I E hW rfl ⟨⟨_, rfl, trivial⟩, hF⟩ dX11_heed_35
  · have q1525630 : 0 ≤ u1.toInt ∧ u1.toInt ≤ 39 := by omega
    clear p1525622
    refine lv_iload_n hx hb dX11_heed_16 rfl (lv_at hl 3 rfl) ?_
    refine lv_iconst (v := (-1)) hx hb dX11_heed_17 (by decide) ?_
    refine q_icmp_eq (Y := -1) (tgt := 36) hx hb dX11_heed_18 (by decide) rfl rfl (fun c1525631 => ?_) (fun c1525631 => ?_)
    · refine lv_iload_n hx hb dX11_heed_36 rfl (lv_at hl 2 rfl) ?_
      refine lv_iload_n hx hb dX11_heed_37 rfl (lv_at hl 3 rfl) ?_
      refine q_icmp_ne (tgt := 48) hx hb dX11_heed_38 (by decide) rfl rfl (fun c1525632 => ?_) (fun c1525632 => ?_)
      · refine lv_aload_n hx hb dX11_heed_48 rfl (lv_at hl 0 rfl) ?_
        refine fg_RX11_84 E hW r1525616 dX11_heed_49 (fun a1525633 m1525634 r1525635 => ?_)
        refine lv_iload_n hx hb dX11_heed_52 rfl (lv_at hl 2 rfl) ?_
        refine lv_iload_n hx hb dX11_heed_53 rfl (lv_at hl 3 rfl) ?_
        refine gs_344 E hW r1525635 ⟨by omega, by omega⟩ (by omega) dX11_heed_54 (fun f1525636 H locs e1525637 n1525638 g1525639 hW => ?_)
        have hF := FM.tr hF g1525639 rfl
        refine lv_aload_n hx hb dX11_heed_55 rfl (lv_at hl 1 rfl) ?_
        refine lv_iconst (v := 0) hx hb dX11_heed_56 (by decide) ?_
        refine t_callV (As := [.int 0]) (rest := []) E hW (c_X11_accept l G cI cJ cZ cD cR cT kp L f1525636 hW.2.2.2 _ h0 0 rh0) rh0 (by decide) rfl wk_X11_accept tw_611 rfl ⟨Nat.le_of_ble_eq_true rfl, Nat.le_of_ble_eq_true rfl⟩ ⟨rfl, rfl⟩ hl.1 rfl (Nat.le_of_ble_eq_true rfl) dX11_heed_57 ⟨Nat.le_of_ble_eq_true rfl, Nat.le_of_ble_eq_true rfl⟩ (fun v1525640 f1525641 H locs q1525642 hW => ?_)
        obtain ⟨⟨x1525644, rfl, p1525645⟩, g1525643⟩ := q1525642
        clear p1525645
        have hF := FM.tr hF g1525643 rfl
        exact e_I E hW rfl ⟨⟨_, rfl, trivial⟩, hF⟩ dX11_heed_60
      · exfalso; omega
    · refine lv_aload_n hx hb dX11_heed_21 rfl (lv_at hl 0 rfl) ?_
      refine lv_iload_n hx hb dX11_heed_22 rfl (lv_at hl 3 rfl) ?_
      refine t_callV (As := [.int u2]) (rest := []) E hW (c_X4_has l G cI cJ cZ cD cR cT kp L f1525618 hW.2.2.2 _ a1525614 u2 r1525616) r1525616 (by decide) rfl wk_X4_has tw_619 rfl ⟨Nat.le_of_ble_eq_true rfl, Nat.le_of_ble_eq_true rfl⟩ ⟨rfl, rfl⟩ hl.1 rfl (Nat.le_of_ble_eq_true rfl) dX11_heed_23 ⟨Nat.le_of_ble_eq_true rfl, Nat.le_of_ble_eq_true rfl⟩ (fun v1525646 f1525647 H locs q1525648 hW => ?_)
      obtain ⟨⟨x1525650, rfl, p1525651⟩, g1525649⟩ := q1525648
      have hF := FM.tr hF g1525649 rfl
      refine q_if_ne (tgt := 36) hx hb dX11_heed_26 (by decide) rfl (fun c1525652 => ?_) (fun c1525652 => ?_)
      · have q1525653 : 0 ≤ u2.toInt ∧ u2.toInt ≤ 39 := by omega
        clear p1525651
        refine lv_iload_n hx hb dX11_heed_36 rfl (lv_at hl 2 rfl) ?_
        refine lv_iload_n hx hb dX11_heed_37 rfl (lv_at hl 3 rfl) ?_
        refine q_icmp_ne (tgt := 48) hx hb dX11_heed_38 (by decide) rfl rfl (fun c1525654 => ?_) (fun c1525654 => ?_)
        · refine lv_aload_n hx hb dX11_heed_48 rfl (lv_at hl 0 rfl) ?_
          refine fg_RX11_84 E hW r1525616 dX11_heed_49 (fun a1525655 m1525656 r1525657 => ?_)
          refine lv_iload_n hx hb dX11_heed_52 rfl (lv_at hl 2 rfl) ?_
          refine lv_iload_n hx hb dX11_heed_53 rfl (lv_at hl 3 rfl) ?_
          refine gs_344 E hW r1525657 ⟨by omega, by omega⟩ (by omega) dX11_heed_54 (fun f1525658 H locs e1525659 n1525660 g1525661 hW => ?_)
          have hF := FM.tr hF g1525661 rfl
          refine lv_aload_n hx hb dX11_heed_55 rfl (lv_at hl 1 rfl) ?_
          refine lv_iconst (v := 0) hx hb dX11_heed_56 (by decide) ?_
          refine t_callV (As := [.int 0]) (rest := []) E hW (c_X11_accept l G cI cJ cZ cD cR cT kp L f1525658 hW.2.2.2 _ h0 0 rh0) rh0 (by decide) rfl wk_X11_accept tw_611 rfl ⟨Nat.le_of_ble_eq_true rfl, Nat.le_of_ble_eq_true rfl⟩ ⟨rfl, rfl⟩ hl.1 rfl (Nat.le_of_ble_eq_true rfl) dX11_heed_57 ⟨Nat.le_of_ble_eq_true rfl, Nat.le_of_ble_eq_true rfl⟩ (fun v1525662 f1525663 H locs q1525664 hW => ?_)
          obtain ⟨⟨x1525666, rfl, p1525667⟩, g1525665⟩ := q1525664
          clear p1525667
          have hF := FM.tr hF g1525665 rfl
          exact e_I E hW rfl ⟨⟨_, rfl, trivial⟩, hF⟩ dX11_heed_60
        · refine lv_aload_n hx hb dX11_heed_41 rfl (lv_at hl 1 rfl) ?_
          refine lv_bipush (v := (-3)) hx hb dX11_heed_42 (by decide) ?_
          refine t_callV (As := [.int (-3)]) (rest := []) E hW (c_X11_refuse l G cI cJ cZ cD cR cT kp L f1525647 hW.2.2.2 _ h0 (-3) rh0 (by decide)) rh0 (by decide) rfl wk_X11_refuse tw_603 rfl ⟨Nat.le_of_ble_eq_true rfl, Nat.le_of_ble_eq_true rfl⟩ ⟨rfl, rfl⟩ hl.1 rfl (Nat.le_of_ble_eq_true rfl) dX11_heed_44 ⟨Nat.le_of_ble_eq_true rfl, Nat.le_of_ble_eq_true rfl⟩ (fun v1525668 f1525669 H locs q1525670 hW => ?_)
          obtain ⟨⟨x1525672, rfl, p1525673⟩, g1525671⟩ := q1525670
          have p1525673 : (-6 : Int) ≤ x1525672.toInt ∧ x1525672.toInt ≤ -1 := p1525673
          have hF := FM.tr hF g1525671 rfl
          exact e_I E hW rfl ⟨⟨_, rfl, trivial⟩, hF⟩ dX11_heed_47
      · clear p1525651
        refine lv_aload_n hx hb dX11_heed_29 rfl (lv_at hl 1 rfl) ?_
        refine lv_bipush (v := (-2)) hx hb dX11_heed_30 (by decide) ?_
        refine t_callV (As := [.int (-2)]) (rest := []) E hW (c_X11_refuse l G cI cJ cZ cD cR cT kp L f1525647 hW.2.2.2 _ h0 (-2) rh0 (by decide)) rh0 (by decide) rfl wk_X11_refuse tw_603 rfl ⟨Nat.le_of_ble_eq_true rfl, Nat.le_of_ble_eq_true rfl⟩ ⟨rfl, rfl⟩ hl.1 rfl (Nat.le_of_ble_eq_true rfl) dX11_heed_32 ⟨Nat.le_of_ble_eq_true rfl, Nat.le_of_ble_eq_true rfl⟩ (fun v1525674 f1525675 H locs q1525676 hW => ?_)
        obtain ⟨⟨x1525678, rfl, p1525679⟩, g1525677⟩ := q1525676
        have p1525679 : (-6 : Int) ≤ x1525678.toInt ∧ x1525678.toInt ≤ -1 := p1525679
        have hF := FM.tr hF g1525677 rfl
        exact e_I E hW rfl ⟨⟨_, rfl, trivial⟩, hF⟩ dX11_heed_35
def ms_X11_holds : List (Nat × Nat) := [(0, 14), (115, 0), (222, 0), (223, 0)]
def po_X11_holds (kp : Nat → Nat) (L : List Nat) (f0 : Nat → va_E) (h0 : Nat) (u1 : Int32) (u2 : Int32) (u3 : Int32) (u4 : Int32) : Option Value → (Nat → va_E) → Prop := fun v f => (∃ r : Int32, v = some (.int r) ∧ ((-1 : Int) ≤ r.toInt ∧ r.toInt ≤ 1)) ∧ FM kp L ms_X11_holds f0 f
set_option maxHeartbeats 4000000 in
set_option maxRecDepth 100000 in
theorem c_X11_holds (l : Launch) (G : va_G) (cI cJ cZ cD cR cT : ClassId) (kp : Nat → Nat) (L : List Nat) (f0 : Nat → va_E) (hTH : TH cI cJ cZ cD cR cT kp L f0) (sz : Nat) (h0 : Nat) (u1 : Int32) (u2 : Int32) (u3 : Int32) (u4 : Int32) (rh0 : RK kp L h0 11) : Met l yX11_holds (Cond.code yX11_holds cX11_holds 5 (some .int) :: wTab) ({ frames := 5, cells := 0, slots := 0, locals := 143 }) (va_Pc [.ref h0, .int u1, .int u2, .int u3, .int u4] (PreW G (tys6 cI cJ cZ cD cR cT) (va_pl L f0) sz)) (QT (po_X11_holds kp L f0 h0 u1 u2 u3 u4) G cI cJ cZ cD cR cT (va_A (va_pl L f0) sz) kp L) 0 0 (va_A (va_pl L f0) sz) := by
  refine metT (by decide) (Nat.le_of_ble_eq_true rfl) hTH ?_
  intro p e s m below meth c A ls E hW hl
  obtain ⟨hx, hb, -, hml, hown, hts, -, -, -⟩ := id E
  have hF : FM kp L ms_X11_holds f0 f0 := FM.rf
  have hl : lv_has ls 5 [(0, .ref h0), (1, .int u1), (2, .int u2), (3, .int u3), (4, .int u4)] := hl
  refine lv_aload_n hx hb dX11_holds_0 rfl (lv_at hl 0 rfl) ?_
  refine fg_RX11_12 E hW rh0 dX11_holds_1 (fun a1525680 m1525681 r1525682 => ?_)
  refine fg_RX11_219 E hW r1525682 dX11_holds_4 (fun a1525683 m1525684 r1525685 => ?_)
  refine lv_iload_n hx hb dX11_holds_7 rfl (lv_at hl 1 rfl) ?_
  refine lv_iload_n hx hb dX11_holds_8 rfl (lv_at hl 2 rfl) ?_
  refine t_callV (As := [.int u1, .int u2]) (rest := []) E hW (c_X2_has l G cI cJ cZ cD cR cT kp L f0 hW.2.2.2 _ a1525683 u1 u2 r1525685) r1525685 (by decide) rfl wk_X2_has tw_1062 rfl ⟨Nat.le_of_ble_eq_true rfl, Nat.le_of_ble_eq_true rfl⟩ ⟨rfl, rfl⟩ hl.1 rfl (Nat.le_of_ble_eq_true rfl) dX11_holds_9 ⟨Nat.le_of_ble_eq_true rfl, Nat.le_of_ble_eq_true rfl⟩ (fun v1525686 f1525687 H locs q1525688 hW => ?_)
  obtain ⟨⟨x1525690, rfl, p1525691⟩, g1525689⟩ := q1525688
  have hF := FM.tr hF g1525689 rfl
  refine q_if_eq (tgt := 55) hx hb dX11_holds_12 (by decide) rfl (fun c1525692 => ?_) (fun c1525692 => ?_)
  · clear p1525691
    refine lv_iconst (v := (-1)) hx hb dX11_holds_55 (by decide) ?_
    exact e_I E hW rfl ⟨⟨_, rfl, (by have hk : ((-1) : Int32).toInt = -1 := rfl; first | decide | omega)⟩, hF⟩ dX11_holds_56
  · have q1525693 : 0 ≤ u1.toInt ∧ u1.toInt ≤ 19 ∧ 0 ≤ u2.toInt ∧ u2.toInt ≤ 11 := by omega
    clear p1525691
    refine lv_iload_n hx hb dX11_holds_15 rfl (lv_at hl 3 rfl) ?_
    refine lv_iconst (v := (-1)) hx hb dX11_holds_16 (by decide) ?_
    refine q_icmp_eq (Y := -1) (tgt := 34) hx hb dX11_holds_17 (by decide) rfl rfl (fun c1525694 => ?_) (fun c1525694 => ?_)
    · refine lv_iload hx hb dX11_holds_34 (lv_at hl 4 rfl) ?_
      refine lv_iconst (v := (-1)) hx hb dX11_holds_36 (by decide) ?_
      refine q_icmp_eq (Y := -1) (tgt := 57) hx hb dX11_holds_37 (by decide) rfl rfl (fun c1525695 => ?_) (fun c1525695 => ?_)
      · refine lv_aload_n hx hb dX11_holds_57 rfl (lv_at hl 0 rfl) ?_
        refine fg_RX11_12 E hW rh0 dX11_holds_58 (fun a1525696 m1525697 r1525698 => ?_)
        obtain rfl : a1525680 = a1525696 := (((fm_R g1525689 rh0 rfl).trans m1525681)).symm.trans m1525697
        refine t_callV (As := []) (rest := []) E hW (c_X0_lookAtNow l G cI cJ cZ cD cR cT kp L f1525687 hW.2.2.2 _ a1525680 r1525682) r1525682 (by decide) rfl wk_X0_lookAtNow tw_687 rfl ⟨Nat.le_of_ble_eq_true rfl, Nat.le_of_ble_eq_true rfl⟩ ⟨rfl, rfl⟩ hl.1 rfl (Nat.le_of_ble_eq_true rfl) dX11_holds_61 ⟨Nat.le_of_ble_eq_true rfl, Nat.le_of_ble_eq_true rfl⟩ (fun v1525699 f1525700 H locs q1525701 hW => ?_)
        obtain ⟨rfl, g1525702⟩ := q1525701
        have hF := FM.tr hF g1525702 rfl
        refine lv_aload_n hx hb dX11_holds_64 rfl (lv_at hl 0 rfl) ?_
        refine fg_RX11_12 E hW rh0 dX11_holds_65 (fun a1525703 m1525704 r1525705 => ?_)
        obtain rfl : a1525680 = a1525703 := (((fm_R g1525702 rh0 rfl).trans m1525697)).symm.trans m1525704
        refine lv_iload_n hx hb dX11_holds_68 rfl (lv_at hl 1 rfl) ?_
        refine lv_iload_n hx hb dX11_holds_69 rfl (lv_at hl 2 rfl) ?_
        refine lv_iload_n hx hb dX11_holds_70 rfl (lv_at hl 3 rfl) ?_
        refine lv_iload hx hb dX11_holds_71 (lv_at hl 4 rfl) ?_
        refine t_callV (As := [.int u1, .int u2, .int u3, .int u4]) (rest := []) E hW (c_X0_clauseHolds l G cI cJ cZ cD cR cT kp L f1525700 hW.2.2.2 _ a1525680 u1 u2 u3 u4 r1525682 (by omega) (by omega) (by omega) (by omega) sorry) r1525682 (by decide) rfl wk_X0_clauseHolds tw_1072 rfl ⟨Nat.le_of_ble_eq_true rfl, Nat.le_of_ble_eq_true rfl⟩ ⟨rfl, rfl⟩ hl.1 rfl (Nat.le_of_ble_eq_true rfl) dX11_holds_73 ⟨Nat.le_of_ble_eq_true rfl, Nat.le_of_ble_eq_true rfl⟩ (fun v1525706 f1525707 H locs q1525708 hW => ?_)
        obtain ⟨⟨x1525710, rfl, p1525711⟩, g1525709⟩ := q1525708
        have hF := FM.tr hF g1525709 rfl
        have J1525714 : ∀ (y1525712 : Int32) (b1525713 : (0 : Int) ≤ y1525712.toInt ∧ y1525712.toInt ≤ 1) (H : Heap) (locs : List Loc) (ls : Array Slot), WS G cI cJ cZ cD cR cT A kp L f1525707 s H locs → FM kp L ms_X11_holds f0 f1525707 → lv_has ls 5 [(0, .ref h0), (1, .int u1), (2, .int u2), (3, .int u3), (4, .int u4)] → W p l e ({ frames := 5, cells := 0, slots := 0, locals := 143 }) s m ([.ref h0, .int u1, .int u2, .int u3, .int u4] : List Value).toArray below meth c H locs 0 0 (MQ below (QT (po_X11_holds kp L f0 h0 u1 u2 u3 u4) G cI cJ cZ cD cR cT A kp L) ([.ref h0, .int u1, .int u2, .int u3, .int u4] : List Value).toArray s 0 0 A) (F0 m 84 ls [.int y1525712]) := by
          intro y1525712 b1525713 H locs ls hW hF hl
          clear c1525692 p1525711
          exact e_I E hW rfl ⟨⟨_, rfl, (by first | omega | trivial)⟩, hF⟩ dX11_holds_84
        refine q_if_eq (tgt := 83) hx hb dX11_holds_76 (by decide) rfl (fun c1525715 => ?_) (fun c1525715 => ?_)
        · refine lv_iconst (v := 0) hx hb dX11_holds_83 (by decide) ?_
          exact J1525714 0 (by decide) _ _ _ hW hF (lv_sub hl [0, 1, 2, 3, 4] rfl)
        · refine lv_iconst (v := 1) hx hb dX11_holds_79 (by decide) ?_
          refine lv_goto (tgt := 84) hx hb dX11_holds_80 (by decide) ?_
          exact J1525714 1 (by decide) _ _ _ hW hF (lv_sub hl [0, 1, 2, 3, 4] rfl)
      · refine lv_aload_n hx hb dX11_holds_40 rfl (lv_at hl 0 rfl) ?_
        refine fg_RX11_12 E hW rh0 dX11_holds_41 (fun a1525716 m1525717 r1525718 => ?_)
        obtain rfl : a1525680 = a1525716 := (((fm_R g1525689 rh0 rfl).trans m1525681)).symm.trans m1525717
        refine fg_RX11_114 E hW r1525682 dX11_holds_44 (fun a1525719 m1525720 r1525721 => ?_)
        refine lv_iload hx hb dX11_holds_47 (lv_at hl 4 rfl) ?_
        refine t_callV (As := [.int u4]) (rest := []) E hW (c_X1_has l G cI cJ cZ cD cR cT kp L f1525687 hW.2.2.2 _ a1525719 u4 r1525721) r1525721 (by decide) rfl wk_X1_has tw_683 rfl ⟨Nat.le_of_ble_eq_true rfl, Nat.le_of_ble_eq_true rfl⟩ ⟨rfl, rfl⟩ hl.1 rfl (Nat.le_of_ble_eq_true rfl) dX11_holds_49 ⟨Nat.le_of_ble_eq_true rfl, Nat.le_of_ble_eq_true rfl⟩ (fun v1525722 f1525723 H locs q1525724 hW => ?_)
        obtain ⟨⟨x1525726, rfl, p1525727⟩, g1525725⟩ := q1525724
        have hF := FM.tr hF g1525725 rfl
        refine q_if_ne (tgt := 57) hx hb dX11_holds_52 (by decide) rfl (fun c1525728 => ?_) (fun c1525728 => ?_)
        · have q1525729 : 0 ≤ u4.toInt ∧ u4.toInt ≤ 39 := by omega
          clear p1525727
          refine lv_aload_n hx hb dX11_holds_57 rfl (lv_at hl 0 rfl) ?_
          refine fg_RX11_12 E hW rh0 dX11_holds_58 (fun a1525730 m1525731 r1525732 => ?_)
          obtain rfl : a1525680 = a1525730 := (((fm_R g1525725 rh0 rfl).trans m1525717)).symm.trans m1525731
          refine t_callV (As := []) (rest := []) E hW (c_X0_lookAtNow l G cI cJ cZ cD cR cT kp L f1525723 hW.2.2.2 _ a1525680 r1525682) r1525682 (by decide) rfl wk_X0_lookAtNow tw_687 rfl ⟨Nat.le_of_ble_eq_true rfl, Nat.le_of_ble_eq_true rfl⟩ ⟨rfl, rfl⟩ hl.1 rfl (Nat.le_of_ble_eq_true rfl) dX11_holds_61 ⟨Nat.le_of_ble_eq_true rfl, Nat.le_of_ble_eq_true rfl⟩ (fun v1525733 f1525734 H locs q1525735 hW => ?_)
          obtain ⟨rfl, g1525736⟩ := q1525735
          have hF := FM.tr hF g1525736 rfl
          refine lv_aload_n hx hb dX11_holds_64 rfl (lv_at hl 0 rfl) ?_
          refine fg_RX11_12 E hW rh0 dX11_holds_65 (fun a1525737 m1525738 r1525739 => ?_)
          obtain rfl : a1525680 = a1525737 := (((fm_R g1525736 rh0 rfl).trans m1525731)).symm.trans m1525738
          refine lv_iload_n hx hb dX11_holds_68 rfl (lv_at hl 1 rfl) ?_
          refine lv_iload_n hx hb dX11_holds_69 rfl (lv_at hl 2 rfl) ?_
          refine lv_iload_n hx hb dX11_holds_70 rfl (lv_at hl 3 rfl) ?_
          refine lv_iload hx hb dX11_holds_71 (lv_at hl 4 rfl) ?_
          refine t_callV (As := [.int u1, .int u2, .int u3, .int u4]) (rest := []) E hW (c_X0_clauseHolds l G cI cJ cZ cD cR cT kp L f1525734 hW.2.2.2 _ a1525680 u1 u2 u3 u4 r1525682 (by omega) (by omega) (by omega) (by omega) sorry) r1525682 (by decide) rfl wk_X0_clauseHolds tw_1072 rfl ⟨Nat.le_of_ble_eq_true rfl, Nat.le_of_ble_eq_true rfl⟩ ⟨rfl, rfl⟩ hl.1 rfl (Nat.le_of_ble_eq_true rfl) dX11_holds_73 ⟨Nat.le_of_ble_eq_true rfl, Nat.le_of_ble_eq_true rfl⟩ (fun v1525740 f1525741 H locs q1525742 hW => ?_)
          obtain ⟨⟨x1525744, rfl, p1525745⟩, g1525743⟩ := q1525742
          have hF := FM.tr hF g1525743 rfl
          have J1525748 : ∀ (y1525746 : Int32) (b1525747 : (0 : Int) ≤ y1525746.toInt ∧ y1525746.toInt ≤ 1) (H : Heap) (locs : List Loc) (ls : Array Slot), WS G cI cJ cZ cD cR cT A kp L f1525741 s H locs → FM kp L ms_X11_holds f0 f1525741 → lv_has ls 5 [(0, .ref h0), (1, .int u1), (2, .int u2), (3, .int u3), (4, .int u4)] → W p l e ({ frames := 5, cells := 0, slots := 0, locals := 143 }) s m ([.ref h0, .int u1, .int u2, .int u3, .int u4] : List Value).toArray below meth c H locs 0 0 (MQ below (QT (po_X11_holds kp L f0 h0 u1 u2 u3 u4) G cI cJ cZ cD cR cT A kp L) ([.ref h0, .int u1, .int u2, .int u3, .int u4] : List Value).toArray s 0 0 A) (F0 m 84 ls [.int y1525746]) := by
            intro y1525746 b1525747 H locs ls hW hF hl
            clear c1525692 c1525728 p1525745
            exact e_I E hW rfl ⟨⟨_, rfl, (by first | omega | trivial)⟩, hF⟩ dX11_holds_84
          refine q_if_eq (tgt := 83) hx hb dX11_holds_76 (by decide) rfl (fun c1525749 => ?_) (fun c1525749 => ?_)
          · refine lv_iconst (v := 0) hx hb dX11_holds_83 (by decide) ?_
            exact J1525748 0 (by decide) _ _ _ hW hF (lv_sub hl [0, 1, 2, 3, 4] rfl)
          · refine lv_iconst (v := 1) hx hb dX11_holds_79 (by decide) ?_
            refine lv_goto (tgt := 84) hx hb dX11_holds_80 (by decide) ?_
            exact J1525748 1 (by decide) _ _ _ hW hF (lv_sub hl [0, 1, 2, 3, 4] rfl)
        · clear p1525727
          refine lv_iconst (v := (-1)) hx hb dX11_holds_55 (by decide) ?_
          exact e_I E hW rfl ⟨⟨_, rfl, (by have hk : ((-1) : Int32).toInt = -1 := rfl; first | decide | omega)⟩, hF⟩ dX11_holds_56
    · refine lv_aload_n hx hb dX11_holds_20 rfl (lv_at hl 0 rfl) ?_
      refine fg_RX11_12 E hW rh0 dX11_holds_21 (fun a1525750 m1525751 r1525752 => ?_)
      obtain rfl : a1525680 = a1525750 := (((fm_R g1525689 rh0 rfl).trans m1525681)).symm.trans m1525751
      refine fg_RX11_63 E hW r1525682 dX11_holds_24 (fun a1525753 m1525754 r1525755 => ?_)
      refine lv_iload_n hx hb dX11_holds_27 rfl (lv_at hl 3 rfl) ?_
      refine t_callV (As := [.int u3]) (rest := []) E hW (c_X4_has l G cI cJ cZ cD cR cT kp L f1525687 hW.2.2.2 _ a1525753 u3 r1525755) r1525755 (by decide) rfl wk_X4_has tw_619 rfl ⟨Nat.le_of_ble_eq_true rfl, Nat.le_of_ble_eq_true rfl⟩ ⟨rfl, rfl⟩ hl.1 rfl (Nat.le_of_ble_eq_true rfl) dX11_holds_28 ⟨Nat.le_of_ble_eq_true rfl, Nat.le_of_ble_eq_true rfl⟩ (fun v1525756 f1525757 H locs q1525758 hW => ?_)
      obtain ⟨⟨x1525760, rfl, p1525761⟩, g1525759⟩ := q1525758
      have hF := FM.tr hF g1525759 rfl
      refine q_if_eq (tgt := 55) hx hb dX11_holds_31 (by decide) rfl (fun c1525762 => ?_) (fun c1525762 => ?_)
      · clear p1525761
        refine lv_iconst (v := (-1)) hx hb dX11_holds_55 (by decide) ?_
        exact e_I E hW rfl ⟨⟨_, rfl, (by have hk : ((-1) : Int32).toInt = -1 := rfl; first | decide | omega)⟩, hF⟩ dX11_holds_56
      · have q1525763 : 0 ≤ u3.toInt ∧ u3.toInt ≤ 39 := by omega
        clear p1525761
        refine lv_iload hx hb dX11_holds_34 (lv_at hl 4 rfl) ?_
        refine lv_iconst (v := (-1)) hx hb dX11_holds_36 (by decide) ?_
        refine q_icmp_eq (Y := -1) (tgt := 57) hx hb dX11_holds_37 (by decide) rfl rfl (fun c1525764 => ?_) (fun c1525764 => ?_)
        · refine lv_aload_n hx hb dX11_holds_57 rfl (lv_at hl 0 rfl) ?_
          refine fg_RX11_12 E hW rh0 dX11_holds_58 (fun a1525765 m1525766 r1525767 => ?_)
          obtain rfl : a1525680 = a1525765 := (((fm_R g1525759 rh0 rfl).trans m1525751)).symm.trans m1525766
          refine t_callV (As := []) (rest := []) E hW (c_X0_lookAtNow l G cI cJ cZ cD cR cT kp L f1525757 hW.2.2.2 _ a1525680 r1525682) r1525682 (by decide) rfl wk_X0_lookAtNow tw_687 rfl ⟨Nat.le_of_ble_eq_true rfl, Nat.le_of_ble_eq_true rfl⟩ ⟨rfl, rfl⟩ hl.1 rfl (Nat.le_of_ble_eq_true rfl) dX11_holds_61 ⟨Nat.le_of_ble_eq_true rfl, Nat.le_of_ble_eq_true rfl⟩ (fun v1525768 f1525769 H locs q1525770 hW => ?_)
          obtain ⟨rfl, g1525771⟩ := q1525770
          have hF := FM.tr hF g1525771 rfl
          refine lv_aload_n hx hb dX11_holds_64 rfl (lv_at hl 0 rfl) ?_
          refine fg_RX11_12 E hW rh0 dX11_holds_65 (fun a1525772 m1525773 r1525774 => ?_)
          obtain rfl : a1525680 = a1525772 := (((fm_R g1525771 rh0 rfl).trans m1525766)).symm.trans m1525773
          refine lv_iload_n hx hb dX11_holds_68 rfl (lv_at hl 1 rfl) ?_
          refine lv_iload_n hx hb dX11_holds_69 rfl (lv_at hl 2 rfl) ?_
          refine lv_iload_n hx hb dX11_holds_70 rfl (lv_at hl 3 rfl) ?_
          refine lv_iload hx hb dX11_holds_71 (lv_at hl 4 rfl) ?_
          refine t_callV (As := [.int u1, .int u2, .int u3, .int u4]) (rest := []) E hW (c_X0_clauseHolds l G cI cJ cZ cD cR cT kp L f1525769 hW.2.2.2 _ a1525680 u1 u2 u3 u4 r1525682 (by omega) (by omega) (by omega) (by omega) sorry) r1525682 (by decide) rfl wk_X0_clauseHolds tw_1072 rfl ⟨Nat.le_of_ble_eq_true rfl, Nat.le_of_ble_eq_true rfl⟩ ⟨rfl, rfl⟩ hl.1 rfl (Nat.le_of_ble_eq_true rfl) dX11_holds_73 ⟨Nat.le_of_ble_eq_true rfl, Nat.le_of_ble_eq_true rfl⟩ (fun v1525775 f1525776 H locs q1525777 hW => ?_)
          obtain ⟨⟨x1525779, rfl, p1525780⟩, g1525778⟩ := q1525777
          have hF := FM.tr hF g1525778 rfl
          have J1525783 : ∀ (y1525781 : Int32) (b1525782 : (0 : Int) ≤ y1525781.toInt ∧ y1525781.toInt ≤ 1) (H : Heap) (locs : List Loc) (ls : Array Slot), WS G cI cJ cZ cD cR cT A kp L f1525776 s H locs → FM kp L ms_X11_holds f0 f1525776 → lv_has ls 5 [(0, .ref h0), (1, .int u1), (2, .int u2), (3, .int u3), (4, .int u4)] → W p l e ({ frames := 5, cells := 0, slots := 0, locals := 143 }) s m ([.ref h0, .int u1, .int u2, .int u3, .int u4] : List Value).toArray below meth c H locs 0 0 (MQ below (QT (po_X11_holds kp L f0 h0 u1 u2 u3 u4) G cI cJ cZ cD cR cT A kp L) ([.ref h0, .int u1, .int u2, .int u3, .int u4] : List Value).toArray s 0 0 A) (F0 m 84 ls [.int y1525781]) := by
            intro y1525781 b1525782 H locs ls hW hF hl
            clear c1525692 c1525762 p1525780
            exact e_I E hW rfl ⟨⟨_, rfl, (by first | omega | trivial)⟩, hF⟩ dX11_holds_84
          refine q_if_eq (tgt := 83) hx hb dX11_holds_76 (by decide) rfl (fun c1525784 => ?_) (fun c1525784 => ?_)
          · refine lv_iconst (v := 0) hx hb dX11_holds_83 (by decide) ?_
            exact J1525783 0 (by decide) _ _ _ hW hF (lv_sub hl [0, 1, 2, 3, 4] rfl)
          · refine lv_iconst (v := 1) hx hb dX11_holds_79 (by decide) ?_
            refine lv_goto (tgt := 84) hx hb dX11_holds_80 (by decide) ?_
            exact J1525783 1 (by decide) _ _ _ hW hF (lv_sub hl [0, 1, 2, 3, 4] rfl)
        · refine lv_aload_n hx hb dX11_holds_40 rfl (lv_at hl 0 rfl) ?_
          refine fg_RX11_12 E hW rh0 dX11_holds_41 (fun a1525785 m1525786 r1525787 => ?_)
          obtain rfl : a1525680 = a1525785 := (((fm_R g1525759 rh0 rfl).trans m1525751)).symm.trans m1525786
          refine fg_RX11_114 E hW r1525682 dX11_holds_44 (fun a1525788 m1525789 r1525790 => ?_)
          refine lv_iload hx hb dX11_holds_47 (lv_at hl 4 rfl) ?_
          refine t_callV (As := [.int u4]) (rest := []) E hW (c_X1_has l G cI cJ cZ cD cR cT kp L f1525757 hW.2.2.2 _ a1525788 u4 r1525790) r1525790 (by decide) rfl wk_X1_has tw_683 rfl ⟨Nat.le_of_ble_eq_true rfl, Nat.le_of_ble_eq_true rfl⟩ ⟨rfl, rfl⟩ hl.1 rfl (Nat.le_of_ble_eq_true rfl) dX11_holds_49 ⟨Nat.le_of_ble_eq_true rfl, Nat.le_of_ble_eq_true rfl⟩ (fun v1525791 f1525792 H locs q1525793 hW => ?_)
          obtain ⟨⟨x1525795, rfl, p1525796⟩, g1525794⟩ := q1525793
          have hF := FM.tr hF g1525794 rfl
          refine q_if_ne (tgt := 57) hx hb dX11_holds_52 (by decide) rfl (fun c1525797 => ?_) (fun c1525797 => ?_)
          · have q1525798 : 0 ≤ u4.toInt ∧ u4.toInt ≤ 39 := by omega
            clear p1525796
            refine lv_aload_n hx hb dX11_holds_57 rfl (lv_at hl 0 rfl) ?_
            refine fg_RX11_12 E hW rh0 dX11_holds_58 (fun a1525799 m1525800 r1525801 => ?_)
            obtain rfl : a1525680 = a1525799 := (((fm_R g1525794 rh0 rfl).trans m1525786)).symm.trans m1525800
            refine t_callV (As := []) (rest := []) E hW (c_X0_lookAtNow l G cI cJ cZ cD cR cT kp L f1525792 hW.2.2.2 _ a1525680 r1525682) r1525682 (by decide) rfl wk_X0_lookAtNow tw_687 rfl ⟨Nat.le_of_ble_eq_true rfl, Nat.le_of_ble_eq_true rfl⟩ ⟨rfl, rfl⟩ hl.1 rfl (Nat.le_of_ble_eq_true rfl) dX11_holds_61 ⟨Nat.le_of_ble_eq_true rfl, Nat.le_of_ble_eq_true rfl⟩ (fun v1525802 f1525803 H locs q1525804 hW => ?_)
            obtain ⟨rfl, g1525805⟩ := q1525804
            have hF := FM.tr hF g1525805 rfl
            refine lv_aload_n hx hb dX11_holds_64 rfl (lv_at hl 0 rfl) ?_
            refine fg_RX11_12 E hW rh0 dX11_holds_65 (fun a1525806 m1525807 r1525808 => ?_)
            obtain rfl : a1525680 = a1525806 := (((fm_R g1525805 rh0 rfl).trans m1525800)).symm.trans m1525807
            refine lv_iload_n hx hb dX11_holds_68 rfl (lv_at hl 1 rfl) ?_
            refine lv_iload_n hx hb dX11_holds_69 rfl (lv_at hl 2 rfl) ?_
            refine lv_iload_n hx hb dX11_holds_70 rfl (lv_at hl 3 rfl) ?_
            refine lv_iload hx hb dX11_holds_71 (lv_at hl 4 rfl) ?_
            refine t_callV (As := [.int u1, .int u2, .int u3, .int u4]) (rest := []) E hW (c_X0_clauseHolds l G cI cJ cZ cD cR cT kp L f1525803 hW.2.2.2 _ a1525680 u1 u2 u3 u4 r1525682 (by omega) (by omega) (by omega) (by omega) sorry) r1525682 (by decide) rfl wk_X0_clauseHolds tw_1072 rfl ⟨Nat.le_of_ble_eq_true rfl, Nat.le_of_ble_eq_true rfl⟩ ⟨rfl, rfl⟩ hl.1 rfl (Nat.le_of_ble_eq_true rfl) dX11_holds_73 ⟨Nat.le_of_ble_eq_true rfl, Nat.le_of_ble_eq_true rfl⟩ (fun v1525809 f1525810 H locs q1525811 hW => ?_)
            obtain ⟨⟨x1525813, rfl, p1525814⟩, g1525812⟩ := q1525811
            have hF := FM.tr hF g1525812 rfl
            have J1525817 : ∀ (y1525815 : Int32) (b1525816 : (0 : Int) ≤ y1525815.toInt ∧ y1525815.toInt ≤ 1) (H : Heap) (locs : List Loc) (ls : Array Slot), WS G cI cJ cZ cD cR cT A kp L f1525810 s H locs → FM kp L ms_X11_holds f0 f1525810 → lv_has ls 5 [(0, .ref h0), (1, .int u1), (2, .int u2), (3, .int u3), (4, .int u4)] → W p l e ({ frames := 5, cells := 0, slots := 0, locals := 143 }) s m ([.ref h0, .int u1, .int u2, .int u3, .int u4] : List Value).toArray below meth c H locs 0 0 (MQ below (QT (po_X11_holds kp L f0 h0 u1 u2 u3 u4) G cI cJ cZ cD cR cT A kp L) ([.ref h0, .int u1, .int u2, .int u3, .int u4] : List Value).toArray s 0 0 A) (F0 m 84 ls [.int y1525815]) := by
              intro y1525815 b1525816 H locs ls hW hF hl
              clear c1525692 c1525762 c1525797 p1525814
              exact e_I E hW rfl ⟨⟨_, rfl, (by first | omega | trivial)⟩, hF⟩ dX11_holds_84
            refine q_if_eq (tgt := 83) hx hb dX11_holds_76 (by decide) rfl (fun c1525818 => ?_) (fun c1525818 => ?_)
            · refine lv_iconst (v := 0) hx hb dX11_holds_83 (by decide) ?_
              exact J1525817 0 (by decide) _ _ _ hW hF (lv_sub hl [0, 1, 2, 3, 4] rfl)
            · refine lv_iconst (v := 1) hx hb dX11_holds_79 (by decide) ?_
              refine lv_goto (tgt := 84) hx hb dX11_holds_80 (by decide) ?_
              exact J1525817 1 (by decide) _ _ _ hW hF (lv_sub hl [0, 1, 2, 3, 4] rfl)
          · clear p1525796
            refine lv_iconst (v := (-1)) hx hb dX11_holds_55 (by decide) ?_
            exact e_I E hW rfl ⟨⟨_, rfl, (by have hk : ((-1) : Int32).toInt = -1 := rfl; first | decide | omega)⟩, hF⟩ dX11_holds_56
def ms_X11_image : List (Nat × Nat) := [(0, 6), (0, 9), (0, 12), (0, 13), (1, 0), (1, 8), (1, 12), (1, 13), (1, 14), (2, 0), (3, 0), (3, 1), (3, 2), (3, 3), (4, 0), (10, 0), (10, 7), (11, 4), (11, 5), (11, 15), (108, 0), (161, 0), (162, 0), (163, 0), (164, 0), (165, 0), (166, 0), (167, 0), (169, 0), (170, 0), (171, 0), (221, 0), (284, 0), (285, 0), (341, 0), (342, 0), (343, 0), (344, 0), (345, 0), (346, 0), (347, 0), (348, 0), (520, 0), (521, 0), (701, 0), (702, 0), (703, 0), (704, 0), (705, 0), (706, 0), (708, 0), (709, 0), (710, 0)]
def po_X11_image (kp : Nat → Nat) (L : List Nat) (f0 : Nat → va_E) (h0 : Nat) (u1 : Int32) : Option Value → (Nat → va_E) → Prop := fun v f => (∃ r : Int32, v = some (.int r) ∧ (True)) ∧ FM kp L ms_X11_image f0 f
set_option maxHeartbeats 4000000 in
set_option maxRecDepth 100000 in
theorem c_X11_image (l : Launch) (G : va_G) (cI cJ cZ cD cR cT : ClassId) (kp : Nat → Nat) (L : List Nat) (f0 : Nat → va_E) (hTH : TH cI cJ cZ cD cR cT kp L f0) (sz : Nat) (h0 : Nat) (u1 : Int32) (rh0 : RK kp L h0 11) : Met l yX11_image (Cond.code yX11_image cX11_image 2 (some .int) :: wTab) ({ frames := 3, cells := 0, slots := 0, locals := 103 }) (va_Pc [.ref h0, .int u1] (PreW G (tys6 cI cJ cZ cD cR cT) (va_pl L f0) sz)) (QT (po_X11_image kp L f0 h0 u1) G cI cJ cZ cD cR cT (va_A (va_pl L f0) sz) kp L) 0 0 (va_A (va_pl L f0) sz) := by
  refine metT (by decide) (Nat.le_of_ble_eq_true rfl) hTH ?_
  intro p e s m below meth c A ls E hW hl
  obtain ⟨hx, hb, -, hml, hown, hts, -, -, -⟩ := id E
  have hF : FM kp L ms_X11_image f0 f0 := FM.rf
  have hl : lv_has ls 2 [(0, .ref h0), (1, .int u1)] := hl
  refine lv_iload_n hx hb dX11_image_0 rfl (lv_at hl 1 rfl) ?_
  refine lv_iconst (v := 0) hx hb dX11_image_1 (by decide) ?_
  refine lv_iconst (v := 1) hx hb dX11_image_2 (by decide) ?_
  refine t_callS (As := [.int u1, .int 0, .int 1]) (rest := []) E hW (c_X11_within l G cI cJ cZ cD cR cT kp L f0 hW.2.2.2 _ u1 0 1 (by decide)) wk_X11_within tw_599 rfl ⟨Nat.le_of_ble_eq_true rfl, Nat.le_of_ble_eq_true rfl⟩ ⟨rfl, rfl⟩ hl.1 rfl (Nat.le_of_ble_eq_true rfl) dX11_image_3 ⟨Nat.le_of_ble_eq_true rfl, Nat.le_of_ble_eq_true rfl⟩ (fun v1525819 f1525820 H locs q1525821 hW => ?_)
  obtain ⟨⟨x1525823, rfl, p1525824⟩, g1525822⟩ := q1525821
  have p1525824 : (x1525823.toInt = 1 ∧ 0 ≤ u1.toInt ∧ u1.toInt ≤ 1) ∨ (x1525823.toInt = 0 ∧ (u1.toInt < 0 ∨ 1 < u1.toInt)) := p1525824
  have hF := FM.tr hF g1525822 rfl
  refine q_if_ne (tgt := 15) hx hb dX11_image_6 (by decide) rfl (fun c1525825 => ?_) (fun c1525825 => ?_)
  · have q1525826 : 0 ≤ u1.toInt ∧ u1.toInt ≤ 1 := by omega
    clear p1525824
    refine lv_iload_n hx hb dX11_image_15 rfl (lv_at hl 1 rfl) ?_
    have J1525856 : ∀ (f1525855 : Nat → va_E) (H : Heap) (locs : List Loc) (ls : Array Slot), WS G cI cJ cZ cD cR cT A kp L f1525855 s H locs → FM kp L ms_X11_image f0 f1525855 → lv_has ls 2 [(0, .ref h0), (1, .int u1)] → W p l e ({ frames := 3, cells := 0, slots := 0, locals := 103 }) s m ([.ref h0, .int u1] : List Value).toArray below meth c H locs 0 0 (MQ below (QT (po_X11_image kp L f0 h0 u1) G cI cJ cZ cD cR cT A kp L) ([.ref h0, .int u1] : List Value).toArray s 0 0 A) (F0 m 54 ls []) := by
      intro f1525855 H locs ls hW hF hl
      clear c1525825
      refine lv_aload_n hx hb dX11_image_54 rfl (lv_at hl 0 rfl) ?_
      refine lv_iconst (v := 0) hx hb dX11_image_55 (by decide) ?_
      refine t_callV (As := [.int 0]) (rest := []) E hW (c_X11_accept l G cI cJ cZ cD cR cT kp L f1525855 hW.2.2.2 _ h0 0 rh0) rh0 (by decide) rfl wk_X11_accept tw_611 rfl ⟨Nat.le_of_ble_eq_true rfl, Nat.le_of_ble_eq_true rfl⟩ ⟨rfl, rfl⟩ hl.1 rfl (Nat.le_of_ble_eq_true rfl) dX11_image_56 ⟨Nat.le_of_ble_eq_true rfl, Nat.le_of_ble_eq_true rfl⟩ (fun v1525857 f1525858 H locs q1525859 hW => ?_)
      obtain ⟨⟨x1525861, rfl, p1525862⟩, g1525860⟩ := q1525859
      clear p1525862
      have hF := FM.tr hF g1525860 rfl
      exact e_I E hW rfl ⟨⟨_, rfl, trivial⟩, hF⟩ dX11_image_59
    refine q_if_ne (tgt := 38) hx hb dX11_image_16 (by decide) rfl (fun c1525863 => ?_) (fun c1525863 => ?_)
    · refine lv_aload_n hx hb dX11_image_38 rfl (lv_at hl 0 rfl) ?_
      refine fg_RX11_24 E hW rh0 dX11_image_39 (fun a1525864 m1525865 r1525866 => ?_)
      refine lv_aload_n hx hb dX11_image_42 rfl (lv_at hl 0 rfl) ?_
      refine fg_RX11_12 E hW rh0 dX11_image_43 (fun a1525867 m1525868 r1525869 => ?_)
      refine t_callV (As := [.ref a1525867]) (rest := []) E hW (c_X0_copyFrom l G cI cJ cZ cD cR cT kp L f1525820 hW.2.2.2 _ a1525864 a1525867 r1525866 r1525869) r1525866 (by decide) rfl wk_X0_copyFrom tw_1285 rfl ⟨Nat.le_of_ble_eq_true rfl, Nat.le_of_ble_eq_true rfl⟩ ⟨rfl, rfl⟩ hl.1 rfl (Nat.le_of_ble_eq_true rfl) dX11_image_46 ⟨Nat.le_of_ble_eq_true rfl, Nat.le_of_ble_eq_true rfl⟩ (fun v1525870 f1525871 H locs q1525872 hW => ?_)
      obtain ⟨rfl, g1525873⟩ := q1525872
      have hF := FM.tr hF g1525873 rfl
      refine lv_aload_n hx hb dX11_image_49 rfl (lv_at hl 0 rfl) ?_
      refine lv_iconst (v := 1) hx hb dX11_image_50 (by decide) ?_
      refine fp_RX11_353 E hW rh0 (by decide) dX11_image_51 (fun f1525874 H locs e1525875 n1525876 g1525877 hW => ?_)
      have hF := FM.tr hF g1525877 rfl
      exact J1525856 f1525874  _ _ _ hW hF (lv_sub hl [0, 1] rfl)
    · refine lv_aload_n hx hb dX11_image_19 rfl (lv_at hl 0 rfl) ?_
      refine fg_RX11_21 E hW rh0 dX11_image_20 (fun a1525878 m1525879 r1525880 => ?_)
      refine lv_aload_n hx hb dX11_image_23 rfl (lv_at hl 0 rfl) ?_
      refine fg_RX11_12 E hW rh0 dX11_image_24 (fun a1525881 m1525882 r1525883 => ?_)
      refine t_callV (As := [.ref a1525881]) (rest := []) E hW (c_X0_copyFrom l G cI cJ cZ cD cR cT kp L f1525820 hW.2.2.2 _ a1525878 a1525881 r1525880 r1525883) r1525880 (by decide) rfl wk_X0_copyFrom tw_1285 rfl ⟨Nat.le_of_ble_eq_true rfl, Nat.le_of_ble_eq_true rfl⟩ ⟨rfl, rfl⟩ hl.1 rfl (Nat.le_of_ble_eq_true rfl) dX11_image_27 ⟨Nat.le_of_ble_eq_true rfl, Nat.le_of_ble_eq_true rfl⟩ (fun v1525884 f1525885 H locs q1525886 hW => ?_)
      obtain ⟨rfl, g1525887⟩ := q1525886
      have hF := FM.tr hF g1525887 rfl
      refine lv_aload_n hx hb dX11_image_30 rfl (lv_at hl 0 rfl) ?_
      refine lv_iconst (v := 1) hx hb dX11_image_31 (by decide) ?_
      refine fp_RX11_349 E hW rh0 (by decide) dX11_image_32 (fun f1525888 H locs e1525889 n1525890 g1525891 hW => ?_)
      have hF := FM.tr hF g1525891 rfl
      refine lv_goto (tgt := 54) hx hb dX11_image_35 (by decide) ?_
      exact J1525856 f1525888  _ _ _ hW hF (lv_sub hl [0, 1] rfl)
  · have q1525892 : (u1.toInt < 0 ∨ 1 < u1.toInt) := by omega
    clear p1525824
    refine lv_aload_n hx hb dX11_image_9 rfl (lv_at hl 0 rfl) ?_
    refine lv_iconst (v := (-1)) hx hb dX11_image_10 (by decide) ?_
    refine t_callV (As := [.int (-1)]) (rest := []) E hW (c_X11_refuse l G cI cJ cZ cD cR cT kp L f1525820 hW.2.2.2 _ h0 (-1) rh0 (by decide)) rh0 (by decide) rfl wk_X11_refuse tw_603 rfl ⟨Nat.le_of_ble_eq_true rfl, Nat.le_of_ble_eq_true rfl⟩ ⟨rfl, rfl⟩ hl.1 rfl (Nat.le_of_ble_eq_true rfl) dX11_image_11 ⟨Nat.le_of_ble_eq_true rfl, Nat.le_of_ble_eq_true rfl⟩ (fun v1525893 f1525894 H locs q1525895 hW => ?_)
    obtain ⟨⟨x1525897, rfl, p1525898⟩, g1525896⟩ := q1525895
    have p1525898 : (-6 : Int) ≤ x1525897.toInt ∧ x1525897.toInt ≤ -1 := p1525898
    have hF := FM.tr hF g1525896 rfl
    exact e_I E hW rfl ⟨⟨_, rfl, trivial⟩, hF⟩ dX11_image_14
def ms_X11_isWished : List (Nat × Nat) := []
def po_X11_isWished (kp : Nat → Nat) (L : List Nat) (f0 : Nat → va_E) (h0 : Nat) (u1 : Int32) : Option Value → (Nat → va_E) → Prop := fun v f => (∃ r : Int32, v = some (.int r) ∧ ((0 : Int) ≤ r.toInt ∧ r.toInt ≤ 1)) ∧ FM kp L ms_X11_isWished f0 f
set_option maxHeartbeats 4000000 in
set_option maxRecDepth 100000 in
theorem c_X11_isWished (l : Launch) (G : va_G) (cI cJ cZ cD cR cT : ClassId) (kp : Nat → Nat) (L : List Nat) (f0 : Nat → va_E) (hTH : TH cI cJ cZ cD cR cT kp L f0) (sz : Nat) (h0 : Nat) (u1 : Int32) (rh0 : RK kp L h0 11) (pu1 : (0 : Int) ≤ u1.toInt ∧ u1.toInt ≤ 39) : Met l yX11_isWished (Cond.code yX11_isWished cX11_isWished 3 (some .boolean) :: wTab) ({ frames := 1, cells := 0, slots := 0, locals := 40 }) (va_Pc [.ref h0, .int u1] (PreW G (tys6 cI cJ cZ cD cR cT) (va_pl L f0) sz)) (QT (po_X11_isWished kp L f0 h0 u1) G cI cJ cZ cD cR cT (va_A (va_pl L f0) sz) kp L) 0 0 (va_A (va_pl L f0) sz) := by
  refine metT (by decide) (Nat.le_of_ble_eq_true rfl) hTH ?_
  intro p e s m below meth c A ls E hW hl
  obtain ⟨hx, hb, -, hml, hown, hts, -, -, -⟩ := id E
  have hF : FM kp L ms_X11_isWished f0 f0 := FM.rf
  have hl : lv_has ls 3 [(0, .ref h0), (1, .int u1)] := hl
  refine lv_iconst (v := 0) hx hb dX11_isWished_0 (by decide) ?_
  refine lv_istore_n (lv' := [(2, .int 0), (0, .ref h0), (1, .int u1)]) hx hb dX11_isWished_1 rfl hl (by decide) rfl (fun ls hl => ?_)
  have L1526006 : ∀ (n : Nat), ∀ (y1526004 : Int32) (b1526005 : (0 : Int) ≤ y1526004.toInt ∧ y1526004.toInt ≤ 6) (hm : (7 : Int) - y1526004.toInt ≤ n) (H : Heap) (locs : List Loc) (ls : Array Slot), WS G cI cJ cZ cD cR cT A kp L f0 s H locs → FM kp L ms_X11_isWished f0 f0 → lv_has ls 3 [(2, .int y1526004), (0, .ref h0), (1, .int u1)] → W p l e ({ frames := 1, cells := 0, slots := 0, locals := 40 }) s m ([.ref h0, .int u1] : List Value).toArray below meth c H locs 0 0 (MQ below (QT (po_X11_isWished kp L f0 h0 u1) G cI cJ cZ cD cR cT A kp L) ([.ref h0, .int u1] : List Value).toArray s 0 0 A) (F0 m 2 ls []) := by
    intro n
    induction n with
    | zero =>
      intro y1526004 b1526005 hm H locs ls hW hF hl
      have hz := i32_b y1526004
      exfalso; omega
    | succ n ih =>
      intro y1526004 b1526005 hm H locs ls hW hF hl
      have ih2 := ih
      refine lv_iload_n hx hb dX11_isWished_2 rfl (lv_at hl 0 rfl) ?_
      refine lv_aload_n hx hb dX11_isWished_3 rfl (lv_at hl 1 rfl) ?_
      refine fg_RX11_309 E hW rh0 dX11_isWished_4 (fun y1526007 m1526008 b1526009 => ?_)
      refine q_icmp_ge (tgt := 28) hx hb dX11_isWished_7 (by decide) rfl rfl (fun c1526010 => ?_) (fun c1526010 => ?_)
      · refine lv_iconst (v := 0) hx hb dX11_isWished_28 (by decide) ?_
        exact e_Z E hW rfl (by decide) ⟨⟨_, rfl, (by have hk : (0 : Int32).toInt = 0 := rfl; first | decide | omega)⟩, hF⟩ dX11_isWished_29
      · refine lv_aload_n hx hb dX11_isWished_10 rfl (lv_at hl 1 rfl) ?_
        refine fg_RX11_41 E hW rh0 dX11_isWished_11 (fun a1526011 m1526012 r1526013 => ?_)
        refine lv_iload_n hx hb dX11_isWished_14 rfl (lv_at hl 0 rfl) ?_
        refine gl_768 E hW r1526013 ⟨by omega, by omega⟩ dX11_isWished_15 (fun y1526014 m1526015 b1526016 => ?_)
        refine lv_iload_n hx hb dX11_isWished_16 rfl (lv_at hl 2 rfl) ?_
        refine q_icmp_ne (tgt := 22) hx hb dX11_isWished_17 (by decide) rfl rfl (fun c1526017 => ?_) (fun c1526017 => ?_)
        · refine q_iinc hx hb dX11_isWished_22 hl (k := 0) rfl rfl rfl (by omega) (by decide) (fun i1526018 ls h1526019 hl => ?_)
          have hl : lv_has ls 3 [(2, .int i1526018), (0, .ref h0), (1, .int u1)] := hl
          refine lv_goto (tgt := 2) hx hb dX11_isWished_25 (by decide) ?_
          exact ih2 i1526018 (by omega) (by omega) _ _ _ hW hF (lv_sub hl [0, 1, 2] rfl)
        · refine lv_iconst (v := 1) hx hb dX11_isWished_20 (by decide) ?_
          exact e_Z E hW rfl (by decide) ⟨⟨_, rfl, (by have hk : (1 : Int32).toInt = 1 := rfl; first | decide | omega)⟩, hF⟩ dX11_isWished_21
  have hk1526020 : (0 : Int32).toInt = 0 := rfl
  exact L1526006 7 0 (by decide) (by omega) _ _ _ hW hF (lv_sub hl [0, 1, 2] rfl)
def ms_X11_judge : List (Nat × Nat) := [(0, 6), (0, 9), (0, 10), (0, 11), (0, 12), (0, 13), (0, 14), (1, 0), (1, 8), (1, 12), (1, 13), (1, 14), (2, 0), (3, 0), (3, 1), (3, 2), (3, 3), (4, 0), (10, 0), (10, 7), (108, 0), (115, 0), (161, 0), (162, 0), (163, 0), (164, 0), (165, 0), (166, 0), (167, 0), (169, 0), (170, 0), (171, 0), (221, 0), (222, 0), (223, 0), (284, 0), (285, 0), (341, 0), (342, 0), (343, 0), (344, 0), (345, 0), (346, 0), (347, 0), (348, 0), (349, 0), (520, 0), (521, 0), (701, 0), (702, 0), (703, 0), (704, 0), (705, 0), (706, 0), (708, 0), (709, 0), (710, 0)]
def po_X11_judge (kp : Nat → Nat) (L : List Nat) (f0 : Nat → va_E) (h0 : Nat) (u1 : Int32) (u2 : Int32) : Option Value → (Nat → va_E) → Prop := fun v f => (∃ r : Int32, v = some (.int r) ∧ ((-1 : Int) ≤ r.toInt)) ∧ FM kp L ms_X11_judge f0 f
set_option maxHeartbeats 4000000 in
set_option maxRecDepth 100000 in
theorem c_X11_judge (l : Launch) (G : va_G) (cI cJ cZ cD cR cT : ClassId) (kp : Nat → Nat) (L : List Nat) (f0 : Nat → va_E) (hTH : TH cI cJ cZ cD cR cT kp L f0) (sz : Nat) (h0 : Nat) (u1 : Int32) (u2 : Int32) (rh0 : RK kp L h0 11) : Met l yX11_judge (Cond.code yX11_judge cX11_judge 3 (some .int) :: wTab) ({ frames := 8, cells := 0, slots := 0, locals := 217 }) (va_Pc [.ref h0, .int u1, .int u2] (PreW G (tys6 cI cJ cZ cD cR cT) (va_pl L f0) sz)) (QT (po_X11_judge kp L f0 h0 u1 u2) G cI cJ cZ cD cR cT (va_A (va_pl L f0) sz) kp L) 0 0 (va_A (va_pl L f0) sz) := by
  refine metT (by decide) (Nat.le_of_ble_eq_true rfl) hTH ?_
  intro p e s m below meth c A ls E hW hl
  obtain ⟨hx, hb, -, hml, hown, hts, -, -, -⟩ := id E
  have hF : FM kp L ms_X11_judge f0 f0 := FM.rf
  have hl : lv_has ls 3 [(0, .ref h0), (1, .int u1), (2, .int u2)] := hl
  refine lv_aload_n hx hb dX11_judge_0 rfl (lv_at hl 0 rfl) ?_
  refine lv_iload_n hx hb dX11_judge_1 rfl (lv_at hl 2 rfl) ?_
  refine t_callV (As := [.int u2]) (rest := []) E hW (c_X11_canChoose l G cI cJ cZ cD cR cT kp L f0 hW.2.2.2 _ h0 u2 rh0) rh0 (by decide) rfl wk_X11_canChoose tw_1272 rfl ⟨Nat.le_of_ble_eq_true rfl, Nat.le_of_ble_eq_true rfl⟩ ⟨rfl, rfl⟩ hl.1 rfl (Nat.le_of_ble_eq_true rfl) dX11_judge_2 ⟨Nat.le_of_ble_eq_true rfl, Nat.le_of_ble_eq_true rfl⟩ (fun v1526021 f1526022 H locs q1526023 hW => ?_)
  obtain ⟨⟨x1526025, rfl, p1526026⟩, g1526024⟩ := q1526023
  have hF := FM.tr hF g1526024 rfl
  refine q_if_eq (tgt := 24) hx hb dX11_judge_5 (by decide) rfl (fun c1526027 => ?_) (fun c1526027 => ?_)
  · refine lv_iconst (v := (-1)) hx hb dX11_judge_24 (by decide) ?_
    exact e_I E hW rfl ⟨⟨_, rfl, (by have hk : ((-1) : Int32).toInt = -1 := rfl; first | decide | omega)⟩, hF⟩ dX11_judge_25
  · refine lv_iload_n hx hb dX11_judge_8 rfl (lv_at hl 1 rfl) ?_
    refine lv_iconst (v := 0) hx hb dX11_judge_9 (by decide) ?_
    refine lv_iconst (v := 1) hx hb dX11_judge_10 (by decide) ?_
    refine lv_aload_n hx hb dX11_judge_11 rfl (lv_at hl 0 rfl) ?_
    refine fg_RX11_309 E hW rh0 dX11_judge_12 (fun y1526028 m1526029 b1526030 => ?_)
    refine u_ishl hx hb dX11_judge_15 (fun x1526031 => ?_)
    refine lv_iconst (v := 1) hx hb dX11_judge_16 (by decide) ?_
    refine u_isub hx hb dX11_judge_17 (fun x1526032 => ?_)
    refine t_callS (As := [.int u1, .int 0, .int x1526032]) (rest := []) E hW (c_X11_within l G cI cJ cZ cD cR cT kp L f1526022 hW.2.2.2 _ u1 0 x1526032 (by decide)) wk_X11_within tw_599 rfl ⟨Nat.le_of_ble_eq_true rfl, Nat.le_of_ble_eq_true rfl⟩ ⟨rfl, rfl⟩ hl.1 rfl (Nat.le_of_ble_eq_true rfl) dX11_judge_18 ⟨Nat.le_of_ble_eq_true rfl, Nat.le_of_ble_eq_true rfl⟩ (fun v1526033 f1526034 H locs q1526035 hW => ?_)
    obtain ⟨⟨x1526037, rfl, p1526038⟩, g1526036⟩ := q1526035
    have p1526038 : (x1526037.toInt = 1 ∧ 0 ≤ u1.toInt ∧ u1.toInt ≤ x1526032.toInt) ∨ (x1526037.toInt = 0 ∧ (u1.toInt < 0 ∨ x1526032.toInt < u1.toInt)) := p1526038
    have hF := FM.tr hF g1526036 rfl
    refine q_if_ne (tgt := 26) hx hb dX11_judge_21 (by decide) rfl (fun c1526039 => ?_) (fun c1526039 => ?_)
    · have q1526040 : 0 ≤ u1.toInt ∧ u1.toInt ≤ x1526032.toInt := by omega
      clear p1526038
      refine lv_aload_n hx hb dX11_judge_26 rfl (lv_at hl 0 rfl) ?_
      refine lv_iload_n hx hb dX11_judge_27 rfl (lv_at hl 1 rfl) ?_
      refine lv_iload_n hx hb dX11_judge_28 rfl (lv_at hl 2 rfl) ?_
      refine lv_bipush (v := 41) hx hb dX11_judge_29 (by decide) ?_
      refine t_callV (As := [.int u1, .int u2, .int 41]) (rest := []) E hW (c_X11_worstOf l G cI cJ cZ cD cR cT kp L f1526034 hW.2.2.2 _ h0 u1 u2 41 rh0 (by decide)) rh0 (by decide) rfl wk_X11_worstOf tw_1281 rfl ⟨Nat.le_of_ble_eq_true rfl, Nat.le_of_ble_eq_true rfl⟩ ⟨rfl, rfl⟩ hl.1 rfl (Nat.le_of_ble_eq_true rfl) dX11_judge_31 ⟨Nat.le_of_ble_eq_true rfl, Nat.le_of_ble_eq_true rfl⟩ (fun v1526041 f1526042 H locs q1526043 hW => ?_)
      obtain ⟨⟨x1526045, rfl, p1526046⟩, g1526044⟩ := q1526043
      have p1526046 : (0 : Int) ≤ x1526045.toInt := p1526046
      have hF := FM.tr hF g1526044 rfl
      exact e_I E hW rfl ⟨⟨_, rfl, (by first | omega | trivial)⟩, hF⟩ dX11_judge_34
    · have q1526047 : (u1.toInt < 0 ∨ x1526032.toInt < u1.toInt) := by omega
      clear p1526038
      refine lv_iconst (v := (-1)) hx hb dX11_judge_24 (by decide) ?_
      exact e_I E hW rfl ⟨⟨_, rfl, (by have hk : ((-1) : Int32).toInt = -1 := rfl; first | decide | omega)⟩, hF⟩ dX11_judge_25
def ms_X11_keeps : List (Nat × Nat) := []
def po_X11_keeps (kp : Nat → Nat) (L : List Nat) (f0 : Nat → va_E) (h0 : Nat) (u1 : Int32) (u2 : Int32) : Option Value → (Nat → va_E) → Prop := fun v f => (∃ r : Int32, v = some (.int r) ∧ ((-1 : Int) ≤ r.toInt ∧ r.toInt ≤ 1)) ∧ FM kp L ms_X11_keeps f0 f
set_option maxHeartbeats 4000000 in
set_option maxRecDepth 100000 in
theorem c_X11_keeps (l : Launch) (G : va_G) (cI cJ cZ cD cR cT : ClassId) (kp : Nat → Nat) (L : List Nat) (f0 : Nat → va_E) (hTH : TH cI cJ cZ cD cR cT kp L f0) (sz : Nat) (h0 : Nat) (u1 : Int32) (u2 : Int32) (rh0 : RK kp L h0 11) : Met l yX11_keeps (Cond.code yX11_keeps cX11_keeps 4 (some .int) :: wTab) ({ frames := 3, cells := 0, slots := 0, locals := 86 }) (va_Pc [.ref h0, .int u1, .int u2] (PreW G (tys6 cI cJ cZ cD cR cT) (va_pl L f0) sz)) (QT (po_X11_keeps kp L f0 h0 u1 u2) G cI cJ cZ cD cR cT (va_A (va_pl L f0) sz) kp L) 0 0 (va_A (va_pl L f0) sz) := by
  refine metT (by decide) (Nat.le_of_ble_eq_true rfl) hTH ?_
  intro p e s m below meth c A ls E hW hl
  obtain ⟨hx, hb, -, hml, hown, hts, -, -, -⟩ := id E
  have hF : FM kp L ms_X11_keeps f0 f0 := FM.rf
  have hl : lv_has ls 4 [(0, .ref h0), (1, .int u1), (2, .int u2)] := hl
  refine lv_aload_n hx hb dX11_keeps_0 rfl (lv_at hl 0 rfl) ?_
  refine fg_RX11_12 E hW rh0 dX11_keeps_1 (fun a1526048 m1526049 r1526050 => ?_)
  refine fg_RX11_63 E hW r1526050 dX11_keeps_4 (fun a1526051 m1526052 r1526053 => ?_)
  refine lv_astore_n (lv' := [(3, .ref a1526051), (0, .ref h0), (1, .int u1), (2, .int u2)]) hx hb dX11_keeps_7 rfl hl (by decide) rfl (fun ls hl => ?_)
  refine lv_aload_n hx hb dX11_keeps_8 rfl (lv_at hl 0 rfl) ?_
  refine lv_iload_n hx hb dX11_keeps_9 rfl (lv_at hl 2 rfl) ?_
  refine t_callV (As := [.int u1]) (rest := []) E hW (c_X4_has l G cI cJ cZ cD cR cT kp L f0 hW.2.2.2 _ a1526051 u1 r1526053) r1526053 (by decide) rfl wk_X4_has tw_619 rfl ⟨Nat.le_of_ble_eq_true rfl, Nat.le_of_ble_eq_true rfl⟩ ⟨rfl, rfl⟩ hl.1 rfl (Nat.le_of_ble_eq_true rfl) dX11_keeps_10 ⟨Nat.le_of_ble_eq_true rfl, Nat.le_of_ble_eq_true rfl⟩ (fun v1526054 f1526055 H locs q1526056 hW => ?_)
  obtain ⟨⟨x1526058, rfl, p1526059⟩, g1526057⟩ := q1526056
  have hF := FM.tr hF g1526057 rfl
  refine q_if_eq (tgt := 29) hx hb dX11_keeps_13 (by decide) rfl (fun c1526060 => ?_) (fun c1526060 => ?_)
  · clear p1526059
    refine lv_iconst (v := (-1)) hx hb dX11_keeps_29 (by decide) ?_
    exact e_I E hW rfl ⟨⟨_, rfl, (by have hk : ((-1) : Int32).toInt = -1 := rfl; first | decide | omega)⟩, hF⟩ dX11_keeps_30
  · have q1526061 : 0 ≤ u1.toInt ∧ u1.toInt ≤ 39 := by omega
    clear p1526059
    refine lv_aload_n hx hb dX11_keeps_16 rfl (lv_at hl 0 rfl) ?_
    refine lv_iload_n hx hb dX11_keeps_17 rfl (lv_at hl 3 rfl) ?_
    refine t_callV (As := [.int u2]) (rest := []) E hW (c_X4_has l G cI cJ cZ cD cR cT kp L f1526055 hW.2.2.2 _ a1526051 u2 r1526053) r1526053 (by decide) rfl wk_X4_has tw_619 rfl ⟨Nat.le_of_ble_eq_true rfl, Nat.le_of_ble_eq_true rfl⟩ ⟨rfl, rfl⟩ hl.1 rfl (Nat.le_of_ble_eq_true rfl) dX11_keeps_18 ⟨Nat.le_of_ble_eq_true rfl, Nat.le_of_ble_eq_true rfl⟩ (fun v1526062 f1526063 H locs q1526064 hW => ?_)
    obtain ⟨⟨x1526066, rfl, p1526067⟩, g1526065⟩ := q1526064
    have hF := FM.tr hF g1526065 rfl
    refine q_if_eq (tgt := 29) hx hb dX11_keeps_21 (by decide) rfl (fun c1526068 => ?_) (fun c1526068 => ?_)
    · clear p1526067
      refine lv_iconst (v := (-1)) hx hb dX11_keeps_29 (by decide) ?_
      exact e_I E hW rfl ⟨⟨_, rfl, (by have hk : ((-1) : Int32).toInt = -1 := rfl; first | decide | omega)⟩, hF⟩ dX11_keeps_30
    · have q1526069 : 0 ≤ u2.toInt ∧ u2.toInt ≤ 39 := by omega
      clear p1526067
      refine lv_iload_n hx hb dX11_keeps_24 rfl (lv_at hl 2 rfl) ?_
      refine lv_iload_n hx hb dX11_keeps_25 rfl (lv_at hl 3 rfl) ?_
      refine q_icmp_ne (tgt := 31) hx hb dX11_keeps_26 (by decide) rfl rfl (fun c1526070 => ?_) (fun c1526070 => ?_)
      · refine lv_aload_n hx hb dX11_keeps_31 rfl (lv_at hl 0 rfl) ?_
        refine lv_iload_n hx hb dX11_keeps_32 rfl (lv_at hl 2 rfl) ?_
        refine lv_iload_n hx hb dX11_keeps_33 rfl (lv_at hl 3 rfl) ?_
        refine lv_aload_n hx hb dX11_keeps_34 rfl (lv_at hl 1 rfl) ?_
        refine fg_RX11_12 E hW rh0 dX11_keeps_35 (fun a1526071 m1526072 r1526073 => ?_)
        obtain rfl : a1526048 = a1526071 := (((fm_R g1526065 rh0 rfl).trans ((fm_R g1526057 rh0 rfl).trans m1526049))).symm.trans m1526072
        refine fg_RX11_98 E hW r1526050 dX11_keeps_38 (fun a1526074 m1526075 r1526076 => ?_)
        refine fg_RX11_282 E hW r1526076 dX11_keeps_41 (fun y1526077 m1526078 => ?_)
        refine t_callV (As := [.int u1, .int u2, .int y1526077]) (rest := []) E hW (c_X4_keepsBan l G cI cJ cZ cD cR cT kp L f1526063 hW.2.2.2 _ a1526051 u1 u2 y1526077 r1526053 (by omega) (by omega)) r1526053 (by decide) rfl wk_X4_keepsBan tw_1184 rfl ⟨Nat.le_of_ble_eq_true rfl, Nat.le_of_ble_eq_true rfl⟩ ⟨rfl, rfl⟩ hl.1 rfl (Nat.le_of_ble_eq_true rfl) dX11_keeps_44 ⟨Nat.le_of_ble_eq_true rfl, Nat.le_of_ble_eq_true rfl⟩ (fun v1526080 f1526081 H locs q1526082 hW => ?_)
        obtain ⟨⟨x1526084, rfl, p1526085⟩, g1526083⟩ := q1526082
        have hF := FM.tr hF g1526083 rfl
        have J1526088 : ∀ (y1526086 : Int32) (b1526087 : (0 : Int) ≤ y1526086.toInt ∧ y1526086.toInt ≤ 1) (H : Heap) (locs : List Loc) (ls : Array Slot), WS G cI cJ cZ cD cR cT A kp L f1526081 s H locs → FM kp L ms_X11_keeps f0 f1526081 → lv_has ls 4 [(3, .ref a1526051), (0, .ref h0), (1, .int u1), (2, .int u2)] → W p l e ({ frames := 3, cells := 0, slots := 0, locals := 86 }) s m ([.ref h0, .int u1, .int u2] : List Value).toArray below meth c H locs 0 0 (MQ below (QT (po_X11_keeps kp L f0 h0 u1 u2) G cI cJ cZ cD cR cT A kp L) ([.ref h0, .int u1, .int u2] : List Value).toArray s 0 0 A) (F0 m 55 ls [.int y1526086]) := by
          intro y1526086 b1526087 H locs ls hW hF hl
          clear c1526060 c1526068 p1526085
          exact e_I E hW rfl ⟨⟨_, rfl, (by first | omega | trivial)⟩, hF⟩ dX11_keeps_55
        refine q_if_eq (tgt := 54) hx hb dX11_keeps_47 (by decide) rfl (fun c1526089 => ?_) (fun c1526089 => ?_)
        · refine lv_iconst (v := 0) hx hb dX11_keeps_54 (by decide) ?_
          exact J1526088 0 (by decide) _ _ _ hW hF (lv_sub hl [0, 1, 2, 3] rfl)
        · refine lv_iconst (v := 1) hx hb dX11_keeps_50 (by decide) ?_
          refine lv_goto (tgt := 55) hx hb dX11_keeps_51 (by decide) ?_
          exact J1526088 1 (by decide) _ _ _ hW hF (lv_sub hl [0, 1, 2, 3] rfl)
      · refine lv_iconst (v := (-1)) hx hb dX11_keeps_29 (by decide) ?_
        exact e_I E hW rfl ⟨⟨_, rfl, (by have hk : ((-1) : Int32).toInt = -1 := rfl; first | decide | omega)⟩, hF⟩ dX11_keeps_30
def ms_X11_last : List (Nat × Nat) := []
def po_X11_last (kp : Nat → Nat) (L : List Nat) (f0 : Nat → va_E) (h0 : Nat) (u1 : Int32) (u2 : Int32) (u3 : Int32) : Option Value → (Nat → va_E) → Prop := fun v f => (∃ r : Int32, v = some (.int r) ∧ ((-1 : Int) ≤ r.toInt ∧ r.toInt ≤ 400)) ∧ FM kp L ms_X11_last f0 f
set_option maxHeartbeats 4000000 in
set_option maxRecDepth 100000 in
theorem c_X11_last (l : Launch) (G : va_G) (cI cJ cZ cD cR cT : ClassId) (kp : Nat → Nat) (L : List Nat) (f0 : Nat → va_E) (hTH : TH cI cJ cZ cD cR cT kp L f0) (sz : Nat) (h0 : Nat) (u1 : Int32) (u2 : Int32) (u3 : Int32) (rh0 : RK kp L h0 11) : Met l yX11_last (Cond.code yX11_last cX11_last 9 (some .int) :: wTab) ({ frames := 2, cells := 0, slots := 0, locals := 62 }) (va_Pc [.ref h0, .int u1, .int u2, .int u3] (PreW G (tys6 cI cJ cZ cD cR cT) (va_pl L f0) sz)) (QT (po_X11_last kp L f0 h0 u1 u2 u3) G cI cJ cZ cD cR cT (va_A (va_pl L f0) sz) kp L) 0 0 (va_A (va_pl L f0) sz) := by
  refine metT (by decide) (Nat.le_of_ble_eq_true rfl) hTH ?_
  intro p e s m below meth c A ls E hW hl
  obtain ⟨hx, hb, -, hml, hown, hts, -, -, -⟩ := id E
  have hF : FM kp L ms_X11_last f0 f0 := FM.rf
  have hl : lv_has ls 9 [(0, .ref h0), (1, .int u1), (2, .int u2), (3, .int u3)] := hl
  refine lv_iload_n hx hb dX11_last_0 rfl (lv_at hl 1 rfl) ?_
  refine lv_iconst (v := 1) hx hb dX11_last_1 (by decide) ?_
  refine lv_sipush (v := 10000) hx hb dX11_last_2 (by decide) ?_
  refine t_callS (As := [.int u1, .int 1, .int 10000]) (rest := []) E hW (c_X11_within l G cI cJ cZ cD cR cT kp L f0 hW.2.2.2 _ u1 1 10000 (by decide)) wk_X11_within tw_599 rfl ⟨Nat.le_of_ble_eq_true rfl, Nat.le_of_ble_eq_true rfl⟩ ⟨rfl, rfl⟩ hl.1 rfl (Nat.le_of_ble_eq_true rfl) dX11_last_5 ⟨Nat.le_of_ble_eq_true rfl, Nat.le_of_ble_eq_true rfl⟩ (fun v1526090 f1526091 H locs q1526092 hW => ?_)
  obtain ⟨⟨x1526094, rfl, p1526095⟩, g1526093⟩ := q1526092
  have p1526095 : (x1526094.toInt = 1 ∧ 1 ≤ u1.toInt ∧ u1.toInt ≤ 10000) ∨ (x1526094.toInt = 0 ∧ (u1.toInt < 1 ∨ 10000 < u1.toInt)) := p1526095
  have hF := FM.tr hF g1526093 rfl
  refine q_if_eq (tgt := 33) hx hb dX11_last_8 (by decide) rfl (fun c1526096 => ?_) (fun c1526096 => ?_)
  · have q1526097 : (u1.toInt < 1 ∨ 10000 < u1.toInt) := by omega
    clear p1526095
    refine lv_iconst (v := (-1)) hx hb dX11_last_33 (by decide) ?_
    exact e_I E hW rfl ⟨⟨_, rfl, (by have hk : ((-1) : Int32).toInt = -1 := rfl; first | decide | omega)⟩, hF⟩ dX11_last_34
  · have q1526098 : 1 ≤ u1.toInt ∧ u1.toInt ≤ 10000 := by omega
    clear p1526095
    refine lv_iload_n hx hb dX11_last_11 rfl (lv_at hl 2 rfl) ?_
    refine lv_iconst (v := 0) hx hb dX11_last_12 (by decide) ?_
    refine lv_sipush (v := 1000) hx hb dX11_last_13 (by decide) ?_
    refine t_callS (As := [.int u2, .int 0, .int 1000]) (rest := []) E hW (c_X11_within l G cI cJ cZ cD cR cT kp L f1526091 hW.2.2.2 _ u2 0 1000 (by decide)) wk_X11_within tw_599 rfl ⟨Nat.le_of_ble_eq_true rfl, Nat.le_of_ble_eq_true rfl⟩ ⟨rfl, rfl⟩ hl.1 rfl (Nat.le_of_ble_eq_true rfl) dX11_last_16 ⟨Nat.le_of_ble_eq_true rfl, Nat.le_of_ble_eq_true rfl⟩ (fun v1526099 f1526100 H locs q1526101 hW => ?_)
    obtain ⟨⟨x1526103, rfl, p1526104⟩, g1526102⟩ := q1526101
    have p1526104 : (x1526103.toInt = 1 ∧ 0 ≤ u2.toInt ∧ u2.toInt ≤ 1000) ∨ (x1526103.toInt = 0 ∧ (u2.toInt < 0 ∨ 1000 < u2.toInt)) := p1526104
    have hF := FM.tr hF g1526102 rfl
    refine q_if_eq (tgt := 33) hx hb dX11_last_19 (by decide) rfl (fun c1526105 => ?_) (fun c1526105 => ?_)
    · have q1526106 : (u2.toInt < 0 ∨ 1000 < u2.toInt) := by omega
      clear p1526104
      refine lv_iconst (v := (-1)) hx hb dX11_last_33 (by decide) ?_
      exact e_I E hW rfl ⟨⟨_, rfl, (by have hk : ((-1) : Int32).toInt = -1 := rfl; first | decide | omega)⟩, hF⟩ dX11_last_34
    · have q1526107 : 0 ≤ u2.toInt ∧ u2.toInt ≤ 1000 := by omega
      clear p1526104
      refine lv_iload_n hx hb dX11_last_22 rfl (lv_at hl 3 rfl) ?_
      refine lv_iconst (v := 0) hx hb dX11_last_23 (by decide) ?_
      refine lv_sipush (v := 1000) hx hb dX11_last_24 (by decide) ?_
      refine t_callS (As := [.int u3, .int 0, .int 1000]) (rest := []) E hW (c_X11_within l G cI cJ cZ cD cR cT kp L f1526100 hW.2.2.2 _ u3 0 1000 (by decide)) wk_X11_within tw_599 rfl ⟨Nat.le_of_ble_eq_true rfl, Nat.le_of_ble_eq_true rfl⟩ ⟨rfl, rfl⟩ hl.1 rfl (Nat.le_of_ble_eq_true rfl) dX11_last_27 ⟨Nat.le_of_ble_eq_true rfl, Nat.le_of_ble_eq_true rfl⟩ (fun v1526108 f1526109 H locs q1526110 hW => ?_)
      obtain ⟨⟨x1526112, rfl, p1526113⟩, g1526111⟩ := q1526110
      have p1526113 : (x1526112.toInt = 1 ∧ 0 ≤ u3.toInt ∧ u3.toInt ≤ 1000) ∨ (x1526112.toInt = 0 ∧ (u3.toInt < 0 ∨ 1000 < u3.toInt)) := p1526113
      have hF := FM.tr hF g1526111 rfl
      refine q_if_ne (tgt := 35) hx hb dX11_last_30 (by decide) rfl (fun c1526114 => ?_) (fun c1526114 => ?_)
      · have q1526115 : 0 ≤ u3.toInt ∧ u3.toInt ≤ 1000 := by omega
        clear p1526113
        refine lv_aload_n hx hb dX11_last_35 rfl (lv_at hl 0 rfl) ?_
        refine fg_RX11_12 E hW rh0 dX11_last_36 (fun a1526116 m1526117 r1526118 => ?_)
        refine fg_RX11_98 E hW r1526118 dX11_last_39 (fun a1526119 m1526120 r1526121 => ?_)
        refine fg_RX11_102 E hW r1526121 dX11_last_42 (fun y1526122 m1526123 => ?_)
        refine q_i2l hx hb dX11_last_45 rfl (fun x1526125 h1526126 => ?_)
        have hb1526127 : -2147483648 ≤ x1526125.toInt ∧ x1526125.toInt ≤ 2147483647 := by have := i32_b y1526122; omega
        refine lv_lstore (lv' := [(4, .long x1526125), (0, .ref h0), (1, .int u1), (2, .int u2), (3, .int u3)]) hx hb dX11_last_46 hl (by decide) rfl (fun ls hl => ?_)
        refine lv_iload_n hx hb dX11_last_48 rfl (lv_at hl 3 rfl) ?_
        refine q_i2l hx hb dX11_last_49 rfl (fun x1526128 h1526129 => ?_)
        refine lv_lstore (lv' := [(6, .long x1526128), (4, .long x1526125), (0, .ref h0), (1, .int u1), (2, .int u2), (3, .int u3)]) hx hb dX11_last_50 hl (by decide) rfl (fun ls hl => ?_)
        refine lv_iconst (v := 0) hx hb dX11_last_52 (by decide) ?_
        refine lv_istore (lv' := [(8, .int 0), (6, .long x1526128), (4, .long x1526125), (0, .ref h0), (1, .int u1), (2, .int u2), (3, .int u3)]) hx hb dX11_last_53 hl (by decide) rfl (fun ls hl => ?_)
        have L1526918 : ∀ (n : Nat), ∀ (y1526913 : Int32) (y1526915 : Int64) (y1526916 : Int64) (b1526914 : (0 : Int) ≤ y1526913.toInt ∧ y1526913.toInt ≤ 400) (b1526917 : (-2147483648 : Int) ≤ y1526916.toInt) (hm : (401 : Int) - y1526913.toInt ≤ n) (H : Heap) (locs : List Loc) (ls : Array Slot), WS G cI cJ cZ cD cR cT A kp L f1526109 s H locs → FM kp L ms_X11_last f0 f1526109 → lv_has ls 9 [(8, .int y1526913), (6, .long y1526915), (4, .long y1526916), (0, .ref h0), (1, .int u1), (2, .int u2), (3, .int u3)] → W p l e ({ frames := 2, cells := 0, slots := 0, locals := 62 }) s m ([.ref h0, .int u1, .int u2, .int u3] : List Value).toArray below meth c H locs 0 0 (MQ below (QT (po_X11_last kp L f0 h0 u1 u2 u3) G cI cJ cZ cD cR cT A kp L) ([.ref h0, .int u1, .int u2, .int u3] : List Value).toArray s 0 0 A) (F0 m 55 ls []) := by
          intro n
          induction n with
          | zero =>
            intro y1526913 y1526915 y1526916 b1526914 b1526917 hm H locs ls hW hF hl
            have hz := i32_b y1526913
            exfalso; omega
          | succ n ih =>
            intro y1526913 y1526915 y1526916 b1526914 b1526917 hm H locs ls hW hF hl
            clear c1526096 c1526105 c1526114 hb1526127
            have ih55 := ih
            refine lv_iload hx hb dX11_last_55 (lv_at hl 0 rfl) ?_
            refine lv_sipush (v := 400) hx hb dX11_last_57 (by decide) ?_
            refine q_icmp_ge (Y := 400) (tgt := 96) hx hb dX11_last_60 (by decide) rfl rfl (fun c1526919 => ?_) (fun c1526919 => ?_)
            · refine lv_sipush (v := 400) hx hb dX11_last_96 (by decide) ?_
              exact e_I E hW rfl ⟨⟨_, rfl, (by have hk : (400 : Int32).toInt = 400 := rfl; first | decide | omega)⟩, hF⟩ dX11_last_99
            · refine lv_lload hx hb dX11_last_63 (lv_at hl 2 rfl) ?_
              refine lv_iload_n hx hb dX11_last_65 rfl (lv_at hl 4 rfl) ?_
              refine q_i2l hx hb dX11_last_66 rfl (fun x1526920 h1526921 => ?_)
              refine lv_lload hx hb dX11_last_67 (lv_at hl 1 rfl) ?_
              refine u_lmul hx hb dX11_last_69 (fun x1526922 => ?_)
              refine u_lsub hx hb dX11_last_70 (fun x1526923 => ?_)
              refine lv_lstore (lv' := [(4, .long x1526923), (8, .int y1526913), (6, .long y1526915), (0, .ref h0), (1, .int u1), (2, .int u2), (3, .int u3)]) hx hb dX11_last_71 hl (by decide) rfl (fun ls hl => ?_)
              refine lv_lload hx hb dX11_last_73 (lv_at hl 0 rfl) ?_
              refine lv_lconst (v := 0) hx hb dX11_last_75 (by decide) ?_
              refine q_lcmp_ge (Y := 0) (tgt := 83) hx hb dX11_last_76 dX11_last_77 (by decide) rfl rfl (fun c1526924 => ?_) (fun c1526924 => ?_)
              · refine lv_lload hx hb dX11_last_83 (lv_at hl 2 rfl) ?_
                refine lv_iload_n hx hb dX11_last_85 rfl (lv_at hl 6 rfl) ?_
                refine q_i2l hx hb dX11_last_86 rfl (fun x1526925 h1526926 => ?_)
                refine u_ladd hx hb dX11_last_87 (fun x1526927 => ?_)
                refine lv_lstore (lv' := [(6, .long x1526927), (4, .long x1526923), (8, .int y1526913), (0, .ref h0), (1, .int u1), (2, .int u2), (3, .int u3)]) hx hb dX11_last_88 hl (by decide) rfl (fun ls hl => ?_)
                refine q_iinc hx hb dX11_last_90 hl (k := 2) rfl rfl rfl (by omega) (by decide) (fun i1526928 ls h1526929 hl => ?_)
                have hl : lv_has ls 9 [(8, .int i1526928), (6, .long x1526927), (4, .long x1526923), (0, .ref h0), (1, .int u1), (2, .int u2), (3, .int u3)] := hl
                refine lv_goto (tgt := 55) hx hb dX11_last_93 (by decide) ?_
                exact ih55 i1526928 x1526927 x1526923 (by omega) (by omega) (by omega) _ _ _ hW hF (lv_sub hl [0, 1, 2, 3, 4, 5, 6] rfl)
              · refine lv_iload hx hb dX11_last_80 (lv_at hl 1 rfl) ?_
                exact e_I E hW rfl ⟨⟨_, rfl, (by first | omega | trivial)⟩, hF⟩ dX11_last_82
        have hk1526930 : (0 : Int32).toInt = 0 := rfl
        exact L1526918 401 0 x1526128 x1526125 (by decide) (by omega) (by omega) _ _ _ hW hF (lv_sub hl [0, 1, 2, 3, 4, 5, 6] rfl)
      · have q1526931 : (u3.toInt < 0 ∨ 1000 < u3.toInt) := by omega
        clear p1526113
        refine lv_iconst (v := (-1)) hx hb dX11_last_33 (by decide) ?_
        exact e_I E hW rfl ⟨⟨_, rfl, (by have hk : ((-1) : Int32).toInt = -1 := rfl; first | decide | omega)⟩, hF⟩ dX11_last_34
def ms_X11_least : List (Nat × Nat) := [(0, 14), (115, 0), (116, 0), (222, 0), (223, 0)]
def po_X11_least (kp : Nat → Nat) (L : List Nat) (f0 : Nat → va_E) (h0 : Nat) (u1 : Int32) (u2 : Int32) : Option Value → (Nat → va_E) → Prop := fun v f => (∃ r : Int32, v = some (.int r) ∧ ((-1 : Int) ≤ r.toInt ∧ r.toInt ≤ 40)) ∧ FM kp L ms_X11_least f0 f
set_option maxHeartbeats 4000000 in
set_option maxRecDepth 100000 in
theorem c_X11_least (l : Launch) (G : va_G) (cI cJ cZ cD cR cT : ClassId) (kp : Nat → Nat) (L : List Nat) (f0 : Nat → va_E) (hTH : TH cI cJ cZ cD cR cT kp L f0) (sz : Nat) (h0 : Nat) (u1 : Int32) (u2 : Int32) (rh0 : RK kp L h0 11) : Met l yX11_least (Cond.code yX11_least cX11_least 4 (some .int) :: wTab) ({ frames := 6, cells := 0, slots := 0, locals := 170 }) (va_Pc [.ref h0, .int u1, .int u2] (PreW G (tys6 cI cJ cZ cD cR cT) (va_pl L f0) sz)) (QT (po_X11_least kp L f0 h0 u1 u2) G cI cJ cZ cD cR cT (va_A (va_pl L f0) sz) kp L) 0 0 (va_A (va_pl L f0) sz) := by
  refine metT (by decide) (Nat.le_of_ble_eq_true rfl) hTH ?_
  intro p e s m below meth c A ls E hW hl
  obtain ⟨hx, hb, -, hml, hown, hts, -, -, -⟩ := id E
  have hF : FM kp L ms_X11_least f0 f0 := FM.rf
  have hl : lv_has ls 4 [(0, .ref h0), (1, .int u1), (2, .int u2)] := hl
  refine lv_aload_n hx hb dX11_least_0 rfl (lv_at hl 0 rfl) ?_
  refine fg_RX11_12 E hW rh0 dX11_least_1 (fun a1526932 m1526933 r1526934 => ?_)
  refine fg_RX11_255 E hW r1526934 dX11_least_4 (fun y1526935 m1526936 b1526937 => ?_)
  refine lv_bipush (v := 13) hx hb dX11_least_7 (by decide) ?_
  refine q_idiv (Y := 13) hx hb dX11_least_9 rfl rfl (by omega) (by omega) (fun x1526938 h1526939 => ?_)
  refine lv_istore_n (lv' := [(3, .int x1526938), (0, .ref h0), (1, .int u1), (2, .int u2)]) hx hb dX11_least_10 rfl hl (by decide) rfl (fun ls hl => ?_)
  refine lv_iload_n hx hb dX11_least_11 rfl (lv_at hl 3 rfl) ?_
  refine lv_iload_n hx hb dX11_least_12 rfl (lv_at hl 0 rfl) ?_
  refine lv_iconst (v := 1) hx hb dX11_least_13 (by decide) ?_
  refine q_iadd (Y := 1) hx hb dX11_least_14 rfl rfl (by omega) (fun x1526940 h1526941 => ?_)
  refine lv_iload_n hx hb dX11_least_15 rfl (lv_at hl 0 rfl) ?_
  refine lv_bipush (v := 8) hx hb dX11_least_16 (by decide) ?_
  refine q_iadd (Y := 8) hx hb dX11_least_18 rfl rfl (by omega) (fun x1526942 h1526943 => ?_)
  refine t_callS (As := [.int u2, .int x1526940, .int x1526942]) (rest := []) E hW (c_X11_within l G cI cJ cZ cD cR cT kp L f0 hW.2.2.2 _ u2 x1526940 x1526942 (by omega)) wk_X11_within tw_599 rfl ⟨Nat.le_of_ble_eq_true rfl, Nat.le_of_ble_eq_true rfl⟩ ⟨rfl, rfl⟩ hl.1 rfl (Nat.le_of_ble_eq_true rfl) dX11_least_19 ⟨Nat.le_of_ble_eq_true rfl, Nat.le_of_ble_eq_true rfl⟩ (fun v1526944 f1526945 H locs q1526946 hW => ?_)
  obtain ⟨⟨x1526948, rfl, p1526949⟩, g1526947⟩ := q1526946
  have hF := FM.tr hF g1526947 rfl
  refine q_if_eq (tgt := 55) hx hb dX11_least_22 (by decide) rfl (fun c1526950 => ?_) (fun c1526950 => ?_)
  · have q1526951 : (u2.toInt < x1526940.toInt ∨ x1526942.toInt < u2.toInt) := by omega
    clear p1526949
    refine lv_iconst (v := (-1)) hx hb dX11_least_55 (by decide) ?_
    exact e_I E hW rfl ⟨⟨_, rfl, (by have hk : ((-1) : Int32).toInt = -1 := rfl; first | decide | omega)⟩, hF⟩ dX11_least_56
  · have q1526952 : x1526940.toInt ≤ u2.toInt ∧ u2.toInt ≤ x1526942.toInt := by omega
    clear p1526949
    refine lv_aload_n hx hb dX11_least_25 rfl (lv_at hl 1 rfl) ?_
    refine fg_RX11_12 E hW rh0 dX11_least_26 (fun a1526953 m1526954 r1526955 => ?_)
    obtain rfl : a1526932 = a1526953 := (((fm_R g1526947 rh0 rfl).trans m1526933)).symm.trans m1526954
    refine fg_RX11_114 E hW r1526934 dX11_least_29 (fun a1526956 m1526957 r1526958 => ?_)
    refine lv_iload_n hx hb dX11_least_32 rfl (lv_at hl 2 rfl) ?_
    refine t_callV (As := [.int u1]) (rest := []) E hW (c_X1_hasEstate l G cI cJ cZ cD cR cT kp L f1526945 hW.2.2.2 _ a1526956 u1 r1526958) r1526958 (by decide) rfl wk_X1_hasEstate tw_659 rfl ⟨Nat.le_of_ble_eq_true rfl, Nat.le_of_ble_eq_true rfl⟩ ⟨rfl, rfl⟩ hl.1 rfl (Nat.le_of_ble_eq_true rfl) dX11_least_33 ⟨Nat.le_of_ble_eq_true rfl, Nat.le_of_ble_eq_true rfl⟩ (fun v1526959 f1526960 H locs q1526961 hW => ?_)
    obtain ⟨⟨x1526963, rfl, p1526964⟩, g1526962⟩ := q1526961
    have hF := FM.tr hF g1526962 rfl
    refine q_if_eq (tgt := 55) hx hb dX11_least_36 (by decide) rfl (fun c1526965 => ?_) (fun c1526965 => ?_)
    · clear p1526964
      refine lv_iconst (v := (-1)) hx hb dX11_least_55 (by decide) ?_
      exact e_I E hW rfl ⟨⟨_, rfl, (by have hk : ((-1) : Int32).toInt = -1 := rfl; first | decide | omega)⟩, hF⟩ dX11_least_56
    · have q1526966 : 0 ≤ u1.toInt ∧ u1.toInt ≤ 7 := by omega
      clear p1526964
      refine lv_aload_n hx hb dX11_least_39 rfl (lv_at hl 1 rfl) ?_
      refine fg_RX11_12 E hW rh0 dX11_least_40 (fun a1526967 m1526968 r1526969 => ?_)
      obtain rfl : a1526932 = a1526967 := (((fm_R g1526962 rh0 rfl).trans m1526954)).symm.trans m1526968
      refine fg_RX11_114 E hW r1526934 dX11_least_43 (fun a1526970 m1526971 r1526972 => ?_)
      obtain rfl : a1526956 = a1526970 := (((fm_R g1526962 r1526934 rfl).trans m1526957)).symm.trans m1526971
      refine fg_RX11_188 E hW r1526958 dX11_least_46 (fun a1526973 m1526974 r1526975 => ?_)
      refine lv_iload_n hx hb dX11_least_49 rfl (lv_at hl 2 rfl) ?_
      refine gl_171 E hW r1526975 ⟨by omega, by omega⟩ dX11_least_50 (fun y1526976 m1526977 => ?_)
      refine lv_iconst (v := (-1)) hx hb dX11_least_51 (by decide) ?_
      refine q_icmp_eq (Y := -1) (tgt := 57) hx hb dX11_least_52 (by decide) rfl rfl (fun c1526979 => ?_) (fun c1526979 => ?_)
      · refine lv_aload_n hx hb dX11_least_57 rfl (lv_at hl 1 rfl) ?_
        refine fg_RX11_12 E hW rh0 dX11_least_58 (fun a1526980 m1526981 r1526982 => ?_)
        obtain rfl : a1526932 = a1526980 := (m1526968).symm.trans m1526981
        refine t_callV (As := []) (rest := []) E hW (c_X0_lookAtNow l G cI cJ cZ cD cR cT kp L f1526960 hW.2.2.2 _ a1526932 r1526934) r1526934 (by decide) rfl wk_X0_lookAtNow tw_687 rfl ⟨Nat.le_of_ble_eq_true rfl, Nat.le_of_ble_eq_true rfl⟩ ⟨rfl, rfl⟩ hl.1 rfl (Nat.le_of_ble_eq_true rfl) dX11_least_61 ⟨Nat.le_of_ble_eq_true rfl, Nat.le_of_ble_eq_true rfl⟩ (fun v1526983 f1526984 H locs q1526985 hW => ?_)
        obtain ⟨rfl, g1526986⟩ := q1526985
        have hF := FM.tr hF g1526986 rfl
        refine lv_aload_n hx hb dX11_least_64 rfl (lv_at hl 1 rfl) ?_
        refine fg_RX11_12 E hW rh0 dX11_least_65 (fun a1526987 m1526988 r1526989 => ?_)
        obtain rfl : a1526932 = a1526987 := (((fm_R g1526986 rh0 rfl).trans m1526981)).symm.trans m1526988
        refine lv_iload_n hx hb dX11_least_68 rfl (lv_at hl 2 rfl) ?_
        refine lv_iload_n hx hb dX11_least_69 rfl (lv_at hl 3 rfl) ?_
        refine lv_iload_n hx hb dX11_least_70 rfl (lv_at hl 0 rfl) ?_
        refine q_isub hx hb dX11_least_71 rfl rfl (by omega) (fun x1526990 h1526991 => ?_)
        refine t_callV (As := [.int u1, .int x1526990]) (rest := []) E hW (c_X0_fewestKept l G cI cJ cZ cD cR cT kp L f1526984 hW.2.2.2 _ a1526932 u1 x1526990 r1526934 (by omega) (by omega)) r1526934 (by decide) rfl wk_X0_fewestKept tw_1215 rfl ⟨Nat.le_of_ble_eq_true rfl, Nat.le_of_ble_eq_true rfl⟩ ⟨rfl, rfl⟩ hl.1 rfl (Nat.le_of_ble_eq_true rfl) dX11_least_72 ⟨Nat.le_of_ble_eq_true rfl, Nat.le_of_ble_eq_true rfl⟩ (fun v1526992 f1526993 H locs q1526994 hW => ?_)
        obtain ⟨⟨x1526996, rfl, p1526997⟩, g1526995⟩ := q1526994
        have hF := FM.tr hF g1526995 rfl
        exact e_I E hW rfl ⟨⟨_, rfl, (by first | omega | trivial)⟩, hF⟩ dX11_least_75
      · refine lv_iconst (v := (-1)) hx hb dX11_least_55 (by decide) ?_
        exact e_I E hW rfl ⟨⟨_, rfl, (by have hk : ((-1) : Int32).toInt = -1 := rfl; first | decide | omega)⟩, hF⟩ dX11_least_56
def ms_X11_of : List (Nat × Nat) := []
def po_X11_of (kp : Nat → Nat) (L : List Nat) (f0 : Nat → va_E) (h0 : Nat) (u1 : Int32) (u2 : Int32) : Option Value → (Nat → va_E) → Prop := fun v f => (∃ r : Int32, v = some (.int r) ∧ (True)) ∧ FM kp L ms_X11_of f0 f
set_option maxHeartbeats 4000000 in
set_option maxRecDepth 100000 in
theorem c_X11_of (l : Launch) (G : va_G) (cI cJ cZ cD cR cT : ClassId) (kp : Nat → Nat) (L : List Nat) (f0 : Nat → va_E) (hTH : TH cI cJ cZ cD cR cT kp L f0) (sz : Nat) (h0 : Nat) (u1 : Int32) (u2 : Int32) (rh0 : RK kp L h0 11) : Met l yX11_of (Cond.code yX11_of cX11_of 4 (some .int) :: wTab) ({ frames := 2, cells := 0, slots := 0, locals := 63 }) (va_Pc [.ref h0, .int u1, .int u2] (PreW G (tys6 cI cJ cZ cD cR cT) (va_pl L f0) sz)) (QT (po_X11_of kp L f0 h0 u1 u2) G cI cJ cZ cD cR cT (va_A (va_pl L f0) sz) kp L) 0 0 (va_A (va_pl L f0) sz) := by
  refine metT (by decide) (Nat.le_of_ble_eq_true rfl) hTH ?_
  intro p e s m below meth c A ls E hW hl
  obtain ⟨hx, hb, -, hml, hown, hts, -, -, -⟩ := id E
  have hF : FM kp L ms_X11_of f0 f0 := FM.rf
  have hl : lv_has ls 4 [(0, .ref h0), (1, .int u1), (2, .int u2)] := hl
  refine lv_aload_n hx hb dX11_of_0 rfl (lv_at hl 0 rfl) ?_
  refine fg_RX11_12 E hW rh0 dX11_of_1 (fun a1526998 m1526999 r1527000 => ?_)
  refine fg_RX11_63 E hW r1527000 dX11_of_4 (fun a1527001 m1527002 r1527003 => ?_)
  refine lv_astore_n (lv' := [(3, .ref a1527001), (0, .ref h0), (1, .int u1), (2, .int u2)]) hx hb dX11_of_7 rfl hl (by decide) rfl (fun ls hl => ?_)
  refine lv_aload_n hx hb dX11_of_8 rfl (lv_at hl 0 rfl) ?_
  refine lv_iload_n hx hb dX11_of_9 rfl (lv_at hl 2 rfl) ?_
  refine t_callV (As := [.int u1]) (rest := []) E hW (c_X4_has l G cI cJ cZ cD cR cT kp L f0 hW.2.2.2 _ a1527001 u1 r1527003) r1527003 (by decide) rfl wk_X4_has tw_619 rfl ⟨Nat.le_of_ble_eq_true rfl, Nat.le_of_ble_eq_true rfl⟩ ⟨rfl, rfl⟩ hl.1 rfl (Nat.le_of_ble_eq_true rfl) dX11_of_10 ⟨Nat.le_of_ble_eq_true rfl, Nat.le_of_ble_eq_true rfl⟩ (fun v1527004 f1527005 H locs q1527006 hW => ?_)
  obtain ⟨⟨x1527008, rfl, p1527009⟩, g1527007⟩ := q1527006
  have hF := FM.tr hF g1527007 rfl
  refine q_if_ne (tgt := 18) hx hb dX11_of_13 (by decide) rfl (fun c1527010 => ?_) (fun c1527010 => ?_)
  · have q1527011 : 0 ≤ u1.toInt ∧ u1.toInt ≤ 39 := by omega
    clear p1527009
    refine lv_iload_n hx hb dX11_of_18 rfl (lv_at hl 3 rfl) ?_
    by_cases c1527012 : u2.toInt = 0
    · refine lv_tableIn (tgt := 56) hx hb dX11_of_19 (by omega) (by omega) (by rw [c1527012]; rfl) (by decide) ?_
      refine lv_aload_n hx hb dX11_of_56 rfl (lv_at hl 0 rfl) ?_
      refine fg_RX11_87 E hW r1527003 dX11_of_57 (fun a1527013 m1527014 r1527015 => ?_)
      refine lv_iload_n hx hb dX11_of_60 rfl (lv_at hl 2 rfl) ?_
      refine gl_346 E hW r1527015 ⟨by omega, by omega⟩ dX11_of_61 (fun y1527016 m1527017 => ?_)
      exact e_I E hW rfl ⟨⟨_, rfl, trivial⟩, hF⟩ dX11_of_62
    by_cases c1527019 : u2.toInt = 1
    · refine lv_tableIn (tgt := 63) hx hb dX11_of_19 (by omega) (by omega) (by rw [c1527019]; rfl) (by decide) ?_
      refine lv_aload_n hx hb dX11_of_63 rfl (lv_at hl 0 rfl) ?_
      refine fg_RX11_94 E hW r1527003 dX11_of_64 (fun a1527020 m1527021 r1527022 => ?_)
      refine lv_iload_n hx hb dX11_of_67 rfl (lv_at hl 2 rfl) ?_
      refine gl_342 E hW r1527022 ⟨by omega, by omega⟩ dX11_of_68 (fun y1527023 m1527024 => ?_)
      exact e_I E hW rfl ⟨⟨_, rfl, trivial⟩, hF⟩ dX11_of_69
    by_cases c1527026 : u2.toInt = 2
    · refine lv_tableIn (tgt := 70) hx hb dX11_of_19 (by omega) (by omega) (by rw [c1527026]; rfl) (by decide) ?_
      refine lv_aload_n hx hb dX11_of_70 rfl (lv_at hl 0 rfl) ?_
      refine fg_RX11_138 E hW r1527003 dX11_of_71 (fun a1527027 m1527028 r1527029 => ?_)
      refine lv_iload_n hx hb dX11_of_74 rfl (lv_at hl 2 rfl) ?_
      refine gl_345 E hW r1527029 ⟨by omega, by omega⟩ dX11_of_75 (fun y1527030 m1527031 => ?_)
      exact e_I E hW rfl ⟨⟨_, rfl, trivial⟩, hF⟩ dX11_of_76
    by_cases c1527033 : u2.toInt = 3
    · refine lv_tableIn (tgt := 77) hx hb dX11_of_19 (by omega) (by omega) (by rw [c1527033]; rfl) (by decide) ?_
      refine lv_aload_n hx hb dX11_of_77 rfl (lv_at hl 0 rfl) ?_
      refine fg_RX11_141 E hW r1527003 dX11_of_78 (fun a1527034 m1527035 r1527036 => ?_)
      refine lv_iload_n hx hb dX11_of_81 rfl (lv_at hl 2 rfl) ?_
      refine gl_348 E hW r1527036 ⟨by omega, by omega⟩ dX11_of_82 (fun y1527037 m1527038 => ?_)
      exact e_I E hW rfl ⟨⟨_, rfl, trivial⟩, hF⟩ dX11_of_83
    by_cases c1527040 : u2.toInt = 4
    · refine lv_tableIn (tgt := 84) hx hb dX11_of_19 (by omega) (by omega) (by rw [c1527040]; rfl) (by decide) ?_
      refine lv_aload_n hx hb dX11_of_84 rfl (lv_at hl 0 rfl) ?_
      refine fg_RX11_144 E hW r1527003 dX11_of_85 (fun a1527041 m1527042 r1527043 => ?_)
      refine lv_iload_n hx hb dX11_of_88 rfl (lv_at hl 2 rfl) ?_
      refine gl_347 E hW r1527043 ⟨by omega, by omega⟩ dX11_of_89 (fun y1527044 m1527045 => ?_)
      exact e_I E hW rfl ⟨⟨_, rfl, trivial⟩, hF⟩ dX11_of_90
    by_cases c1527047 : u2.toInt = 5
    · refine lv_tableIn (tgt := 91) hx hb dX11_of_19 (by omega) (by omega) (by rw [c1527047]; rfl) (by decide) ?_
      refine lv_aload_n hx hb dX11_of_91 rfl (lv_at hl 0 rfl) ?_
      refine lv_iload_n hx hb dX11_of_92 rfl (lv_at hl 2 rfl) ?_
      refine t_callV (As := [.int u1]) (rest := []) E hW (c_X4_kinOf l G cI cJ cZ cD cR cT kp L f1527005 hW.2.2.2 _ a1527001 u1 r1527003 (by omega)) r1527003 (by decide) rfl wk_X4_kinOf tw_675 rfl ⟨Nat.le_of_ble_eq_true rfl, Nat.le_of_ble_eq_true rfl⟩ ⟨rfl, rfl⟩ hl.1 rfl (Nat.le_of_ble_eq_true rfl) dX11_of_93 ⟨Nat.le_of_ble_eq_true rfl, Nat.le_of_ble_eq_true rfl⟩ (fun v1527048 f1527049 H locs q1527050 hW => ?_)
      obtain ⟨⟨x1527052, rfl, p1527053⟩, g1527051⟩ := q1527050
      clear p1527053
      have hF := FM.tr hF g1527051 rfl
      exact e_I E hW rfl ⟨⟨_, rfl, trivial⟩, hF⟩ dX11_of_96
    refine lv_tableOut (tgt := 97) hx hb dX11_of_19 (by omega) (by decide) ?_
    refine lv_iconst (v := (-1)) hx hb dX11_of_97 (by decide) ?_
    exact e_I E hW rfl ⟨⟨_, rfl, trivial⟩, hF⟩ dX11_of_98
  · clear p1527009
    refine lv_iconst (v := (-1)) hx hb dX11_of_16 (by decide) ?_
    exact e_I E hW rfl ⟨⟨_, rfl, trivial⟩, hF⟩ dX11_of_17
def ms_X11_offer : List (Nat × Nat) := [(3, 3), (11, 15), (284, 0), (285, 0)]
def po_X11_offer (kp : Nat → Nat) (L : List Nat) (f0 : Nat → va_E) (h0 : Nat) (u1 : Int32) (u2 : Int32) : Option Value → (Nat → va_E) → Prop := fun v f => (∃ r : Int32, v = some (.int r) ∧ (True)) ∧ FM kp L ms_X11_offer f0 f
set_option maxHeartbeats 4000000 in
set_option maxRecDepth 100000 in
theorem c_X11_offer (l : Launch) (G : va_G) (cI cJ cZ cD cR cT : ClassId) (kp : Nat → Nat) (L : List Nat) (f0 : Nat → va_E) (hTH : TH cI cJ cZ cD cR cT kp L f0) (sz : Nat) (h0 : Nat) (u1 : Int32) (u2 : Int32) (rh0 : RK kp L h0 11) : Met l yX11_offer (Cond.code yX11_offer cX11_offer 3 (some .int) :: wTab) ({ frames := 2, cells := 0, slots := 0, locals := 62 }) (va_Pc [.ref h0, .int u1, .int u2] (PreW G (tys6 cI cJ cZ cD cR cT) (va_pl L f0) sz)) (QT (po_X11_offer kp L f0 h0 u1 u2) G cI cJ cZ cD cR cT (va_A (va_pl L f0) sz) kp L) 0 0 (va_A (va_pl L f0) sz) := by
  refine metT (by decide) (Nat.le_of_ble_eq_true rfl) hTH ?_
  intro p e s m below meth c A ls E hW hl
  obtain ⟨hx, hb, -, hml, hown, hts, -, -, -⟩ := id E
  have hF : FM kp L ms_X11_offer f0 f0 := FM.rf
  have hl : lv_has ls 3 [(0, .ref h0), (1, .int u1), (2, .int u2)] := hl
  refine lv_iload_n hx hb dX11_offer_0 rfl (lv_at hl 1 rfl) ?_
  refine lv_sipush (v := (-1000)) hx hb dX11_offer_1 (by decide) ?_
  refine lv_sipush (v := 1000) hx hb dX11_offer_4 (by decide) ?_
  refine t_callS (As := [.int u1, .int (-1000), .int 1000]) (rest := []) E hW (c_X11_within l G cI cJ cZ cD cR cT kp L f0 hW.2.2.2 _ u1 (-1000) 1000 (by decide)) wk_X11_within tw_599 rfl ⟨Nat.le_of_ble_eq_true rfl, Nat.le_of_ble_eq_true rfl⟩ ⟨rfl, rfl⟩ hl.1 rfl (Nat.le_of_ble_eq_true rfl) dX11_offer_7 ⟨Nat.le_of_ble_eq_true rfl, Nat.le_of_ble_eq_true rfl⟩ (fun v1527054 f1527055 H locs q1527056 hW => ?_)
  obtain ⟨⟨x1527058, rfl, p1527059⟩, g1527057⟩ := q1527056
  have p1527059 : (x1527058.toInt = 1 ∧ (-1000) ≤ u1.toInt ∧ u1.toInt ≤ 1000) ∨ (x1527058.toInt = 0 ∧ (u1.toInt < (-1000) ∨ 1000 < u1.toInt)) := p1527059
  have hF := FM.tr hF g1527057 rfl
  refine q_if_eq (tgt := 26) hx hb dX11_offer_10 (by decide) rfl (fun c1527060 => ?_) (fun c1527060 => ?_)
  · have q1527061 : (u1.toInt < (-1000) ∨ 1000 < u1.toInt) := by omega
    clear p1527059
    refine lv_aload_n hx hb dX11_offer_26 rfl (lv_at hl 0 rfl) ?_
    refine lv_iconst (v := (-1)) hx hb dX11_offer_27 (by decide) ?_
    refine t_callV (As := [.int (-1)]) (rest := []) E hW (c_X11_refuse l G cI cJ cZ cD cR cT kp L f1527055 hW.2.2.2 _ h0 (-1) rh0 (by decide)) rh0 (by decide) rfl wk_X11_refuse tw_603 rfl ⟨Nat.le_of_ble_eq_true rfl, Nat.le_of_ble_eq_true rfl⟩ ⟨rfl, rfl⟩ hl.1 rfl (Nat.le_of_ble_eq_true rfl) dX11_offer_28 ⟨Nat.le_of_ble_eq_true rfl, Nat.le_of_ble_eq_true rfl⟩ (fun v1527062 f1527063 H locs q1527064 hW => ?_)
    obtain ⟨⟨x1527066, rfl, p1527067⟩, g1527065⟩ := q1527064
    have p1527067 : (-6 : Int) ≤ x1527066.toInt ∧ x1527066.toInt ≤ -1 := p1527067
    have hF := FM.tr hF g1527065 rfl
    exact e_I E hW rfl ⟨⟨_, rfl, trivial⟩, hF⟩ dX11_offer_31
  · have q1527068 : (-1000) ≤ u1.toInt ∧ u1.toInt ≤ 1000 := by omega
    clear p1527059
    refine lv_iload_n hx hb dX11_offer_13 rfl (lv_at hl 2 rfl) ?_
    refine lv_sipush (v := (-1000)) hx hb dX11_offer_14 (by decide) ?_
    refine lv_sipush (v := 1000) hx hb dX11_offer_17 (by decide) ?_
    refine t_callS (As := [.int u2, .int (-1000), .int 1000]) (rest := []) E hW (c_X11_within l G cI cJ cZ cD cR cT kp L f1527055 hW.2.2.2 _ u2 (-1000) 1000 (by decide)) wk_X11_within tw_599 rfl ⟨Nat.le_of_ble_eq_true rfl, Nat.le_of_ble_eq_true rfl⟩ ⟨rfl, rfl⟩ hl.1 rfl (Nat.le_of_ble_eq_true rfl) dX11_offer_20 ⟨Nat.le_of_ble_eq_true rfl, Nat.le_of_ble_eq_true rfl⟩ (fun v1527069 f1527070 H locs q1527071 hW => ?_)
    obtain ⟨⟨x1527073, rfl, p1527074⟩, g1527072⟩ := q1527071
    have p1527074 : (x1527073.toInt = 1 ∧ (-1000) ≤ u2.toInt ∧ u2.toInt ≤ 1000) ∨ (x1527073.toInt = 0 ∧ (u2.toInt < (-1000) ∨ 1000 < u2.toInt)) := p1527074
    have hF := FM.tr hF g1527072 rfl
    refine q_if_ne (tgt := 32) hx hb dX11_offer_23 (by decide) rfl (fun c1527075 => ?_) (fun c1527075 => ?_)
    · have q1527076 : (-1000) ≤ u2.toInt ∧ u2.toInt ≤ 1000 := by omega
      clear p1527074
      refine lv_aload_n hx hb dX11_offer_32 rfl (lv_at hl 0 rfl) ?_
      refine fg_RX11_12 E hW rh0 dX11_offer_33 (fun a1527077 m1527078 r1527079 => ?_)
      refine fg_RX11_98 E hW r1527079 dX11_offer_36 (fun a1527080 m1527081 r1527082 => ?_)
      refine fg_RX11_297 E hW r1527082 dX11_offer_39 (fun y1527083 m1527084 b1527085 => ?_)
      refine lv_bipush (v := 9) hx hb dX11_offer_42 (by decide) ?_
      refine q_icmp_lt (Y := 9) (tgt := 54) hx hb dX11_offer_44 (by decide) rfl rfl (fun c1527086 => ?_) (fun c1527086 => ?_)
      · refine lv_aload_n hx hb dX11_offer_54 rfl (lv_at hl 0 rfl) ?_
        refine lv_aload_n hx hb dX11_offer_55 rfl (lv_at hl 0 rfl) ?_
        refine fg_RX11_12 E hW rh0 dX11_offer_56 (fun a1527087 m1527088 r1527089 => ?_)
        obtain rfl : a1527077 = a1527087 := (m1527078).symm.trans m1527088
        refine fg_RX11_98 E hW r1527079 dX11_offer_59 (fun a1527090 m1527091 r1527092 => ?_)
        obtain rfl : a1527080 = a1527090 := (m1527081).symm.trans m1527091
        refine lv_iload_n hx hb dX11_offer_62 rfl (lv_at hl 1 rfl) ?_
        refine lv_iload_n hx hb dX11_offer_63 rfl (lv_at hl 2 rfl) ?_
        refine t_callV (As := [.int u1, .int u2]) (rest := [.ref h0]) E hW (c_X3_addOffer l G cI cJ cZ cD cR cT kp L f1527070 hW.2.2.2 _ a1527080 u1 u2 r1527082 (by omega) (by omega)) r1527082 (by decide) rfl wk_X3_addOffer tw_1230 rfl ⟨Nat.le_of_ble_eq_true rfl, Nat.le_of_ble_eq_true rfl⟩ ⟨rfl, rfl⟩ hl.1 rfl (Nat.le_of_ble_eq_true rfl) dX11_offer_64 ⟨Nat.le_of_ble_eq_true rfl, Nat.le_of_ble_eq_true rfl⟩ (fun v1527093 f1527094 H locs q1527095 hW => ?_)
        obtain ⟨⟨x1527097, rfl, p1527098⟩, g1527096⟩ := q1527095
        have hF := FM.tr hF g1527096 rfl
        refine t_callV (As := [.int x1527097]) (rest := []) E hW (c_X11_accept l G cI cJ cZ cD cR cT kp L f1527094 hW.2.2.2 _ h0 x1527097 rh0) rh0 (by decide) rfl wk_X11_accept tw_611 rfl ⟨Nat.le_of_ble_eq_true rfl, Nat.le_of_ble_eq_true rfl⟩ ⟨rfl, rfl⟩ hl.1 rfl (Nat.le_of_ble_eq_true rfl) dX11_offer_67 ⟨Nat.le_of_ble_eq_true rfl, Nat.le_of_ble_eq_true rfl⟩ (fun v1527099 f1527100 H locs q1527101 hW => ?_)
        obtain ⟨⟨x1527103, rfl, p1527104⟩, g1527102⟩ := q1527101
        clear p1527104
        have hF := FM.tr hF g1527102 rfl
        exact e_I E hW rfl ⟨⟨_, rfl, trivial⟩, hF⟩ dX11_offer_70
      · refine lv_aload_n hx hb dX11_offer_47 rfl (lv_at hl 0 rfl) ?_
        refine lv_bipush (v := (-5)) hx hb dX11_offer_48 (by decide) ?_
        refine t_callV (As := [.int (-5)]) (rest := []) E hW (c_X11_refuse l G cI cJ cZ cD cR cT kp L f1527070 hW.2.2.2 _ h0 (-5) rh0 (by decide)) rh0 (by decide) rfl wk_X11_refuse tw_603 rfl ⟨Nat.le_of_ble_eq_true rfl, Nat.le_of_ble_eq_true rfl⟩ ⟨rfl, rfl⟩ hl.1 rfl (Nat.le_of_ble_eq_true rfl) dX11_offer_50 ⟨Nat.le_of_ble_eq_true rfl, Nat.le_of_ble_eq_true rfl⟩ (fun v1527105 f1527106 H locs q1527107 hW => ?_)
        obtain ⟨⟨x1527109, rfl, p1527110⟩, g1527108⟩ := q1527107
        have p1527110 : (-6 : Int) ≤ x1527109.toInt ∧ x1527109.toInt ≤ -1 := p1527110
        have hF := FM.tr hF g1527108 rfl
        exact e_I E hW rfl ⟨⟨_, rfl, trivial⟩, hF⟩ dX11_offer_53
    · have q1527111 : (u2.toInt < (-1000) ∨ 1000 < u2.toInt) := by omega
      clear p1527074
      refine lv_aload_n hx hb dX11_offer_26 rfl (lv_at hl 0 rfl) ?_
      refine lv_iconst (v := (-1)) hx hb dX11_offer_27 (by decide) ?_
      refine t_callV (As := [.int (-1)]) (rest := []) E hW (c_X11_refuse l G cI cJ cZ cD cR cT kp L f1527070 hW.2.2.2 _ h0 (-1) rh0 (by decide)) rh0 (by decide) rfl wk_X11_refuse tw_603 rfl ⟨Nat.le_of_ble_eq_true rfl, Nat.le_of_ble_eq_true rfl⟩ ⟨rfl, rfl⟩ hl.1 rfl (Nat.le_of_ble_eq_true rfl) dX11_offer_28 ⟨Nat.le_of_ble_eq_true rfl, Nat.le_of_ble_eq_true rfl⟩ (fun v1527112 f1527113 H locs q1527114 hW => ?_)
      obtain ⟨⟨x1527116, rfl, p1527117⟩, g1527115⟩ := q1527114
      have p1527117 : (-6 : Int) ≤ x1527116.toInt ∧ x1527116.toInt ≤ -1 := p1527117
      have hF := FM.tr hF g1527115 rfl
      exact e_I E hW rfl ⟨⟨_, rfl, trivial⟩, hF⟩ dX11_offer_31
def ms_X11_owner : List (Nat × Nat) := []
def po_X11_owner (kp : Nat → Nat) (L : List Nat) (f0 : Nat → va_E) (h0 : Nat) (u1 : Int32) (u2 : Int32) : Option Value → (Nat → va_E) → Prop := fun v f => (∃ r : Int32, v = some (.int r) ∧ (True)) ∧ FM kp L ms_X11_owner f0 f
set_option maxHeartbeats 4000000 in
set_option maxRecDepth 100000 in
theorem c_X11_owner (l : Launch) (G : va_G) (cI cJ cZ cD cR cT : ClassId) (kp : Nat → Nat) (L : List Nat) (f0 : Nat → va_E) (hTH : TH cI cJ cZ cD cR cT kp L f0) (sz : Nat) (h0 : Nat) (u1 : Int32) (u2 : Int32) (rh0 : RK kp L h0 11) : Met l yX11_owner (Cond.code yX11_owner cX11_owner 4 (some .int) :: wTab) ({ frames := 2, cells := 0, slots := 0, locals := 61 }) (va_Pc [.ref h0, .int u1, .int u2] (PreW G (tys6 cI cJ cZ cD cR cT) (va_pl L f0) sz)) (QT (po_X11_owner kp L f0 h0 u1 u2) G cI cJ cZ cD cR cT (va_A (va_pl L f0) sz) kp L) 0 0 (va_A (va_pl L f0) sz) := by
  refine metT (by decide) (Nat.le_of_ble_eq_true rfl) hTH ?_
  intro p e s m below meth c A ls E hW hl
  obtain ⟨hx, hb, -, hml, hown, hts, -, -, -⟩ := id E
  have hF : FM kp L ms_X11_owner f0 f0 := FM.rf
  have hl : lv_has ls 4 [(0, .ref h0), (1, .int u1), (2, .int u2)] := hl
  refine lv_aload_n hx hb dX11_owner_0 rfl (lv_at hl 0 rfl) ?_
  refine fg_RX11_12 E hW rh0 dX11_owner_1 (fun a1527118 m1527119 r1527120 => ?_)
  refine fg_RX11_114 E hW r1527120 dX11_owner_4 (fun a1527121 m1527122 r1527123 => ?_)
  refine lv_astore_n (lv' := [(3, .ref a1527121), (0, .ref h0), (1, .int u1), (2, .int u2)]) hx hb dX11_owner_7 rfl hl (by decide) rfl (fun ls hl => ?_)
  refine lv_aload_n hx hb dX11_owner_8 rfl (lv_at hl 0 rfl) ?_
  refine lv_iload_n hx hb dX11_owner_9 rfl (lv_at hl 2 rfl) ?_
  refine t_callV (As := [.int u1]) (rest := []) E hW (c_X1_hasEstate l G cI cJ cZ cD cR cT kp L f0 hW.2.2.2 _ a1527121 u1 r1527123) r1527123 (by decide) rfl wk_X1_hasEstate tw_659 rfl ⟨Nat.le_of_ble_eq_true rfl, Nat.le_of_ble_eq_true rfl⟩ ⟨rfl, rfl⟩ hl.1 rfl (Nat.le_of_ble_eq_true rfl) dX11_owner_10 ⟨Nat.le_of_ble_eq_true rfl, Nat.le_of_ble_eq_true rfl⟩ (fun v1527124 f1527125 H locs q1527126 hW => ?_)
  obtain ⟨⟨x1527128, rfl, p1527129⟩, g1527127⟩ := q1527126
  have hF := FM.tr hF g1527127 rfl
  refine q_if_ne (tgt := 18) hx hb dX11_owner_13 (by decide) rfl (fun c1527130 => ?_) (fun c1527130 => ?_)
  · have q1527131 : 0 ≤ u1.toInt ∧ u1.toInt ≤ 7 := by omega
    clear p1527129
    refine lv_iload_n hx hb dX11_owner_18 rfl (lv_at hl 3 rfl) ?_
    by_cases c1527132 : u2.toInt = 0
    · refine lv_lookup (off := 25) (tgt := 44) hx hb dX11_owner_19 (by decide) (by rw [c1527132]; decide) (by decide) ?_
      refine lv_aload_n hx hb dX11_owner_44 rfl (lv_at hl 0 rfl) ?_
      refine fg_RX11_185 E hW r1527123 dX11_owner_45 (fun a1527133 m1527134 r1527135 => ?_)
      refine lv_iload_n hx hb dX11_owner_48 rfl (lv_at hl 2 rfl) ?_
      refine gl_169 E hW r1527135 ⟨by omega, by omega⟩ dX11_owner_49 (fun y1527136 m1527137 => ?_)
      exact e_I E hW rfl ⟨⟨_, rfl, trivial⟩, hF⟩ dX11_owner_50
    by_cases c1527139 : u2.toInt = 1
    · refine lv_lookup (off := 32) (tgt := 51) hx hb dX11_owner_19 (by decide) (by rw [c1527139]; decide) (by decide) ?_
      refine lv_aload_n hx hb dX11_owner_51 rfl (lv_at hl 0 rfl) ?_
      refine fg_RX11_188 E hW r1527123 dX11_owner_52 (fun a1527140 m1527141 r1527142 => ?_)
      refine lv_iload_n hx hb dX11_owner_55 rfl (lv_at hl 2 rfl) ?_
      refine gl_171 E hW r1527142 ⟨by omega, by omega⟩ dX11_owner_56 (fun y1527143 m1527144 => ?_)
      exact e_I E hW rfl ⟨⟨_, rfl, trivial⟩, hF⟩ dX11_owner_57
    refine lv_lookup (off := 39) (tgt := 58) hx hb dX11_owner_19 (by decide) (by simp [Op.lookupswitch.offset, List.find?, Ne.symm c1527132, Ne.symm c1527139, c1527132, c1527139]) (by decide) ?_
    refine lv_iconst (v := (-1)) hx hb dX11_owner_58 (by decide) ?_
    exact e_I E hW rfl ⟨⟨_, rfl, trivial⟩, hF⟩ dX11_owner_59
  · clear p1527129
    refine lv_iconst (v := (-1)) hx hb dX11_owner_16 (by decide) ?_
    exact e_I E hW rfl ⟨⟨_, rfl, trivial⟩, hF⟩ dX11_owner_17
def ms_X11_person : List (Nat × Nat) := [(4, 0), (11, 15), (341, 0), (342, 0), (343, 0), (344, 0), (345, 0), (346, 0), (347, 0), (348, 0)]
def po_X11_person (kp : Nat → Nat) (L : List Nat) (f0 : Nat → va_E) (h0 : Nat) (u1 : Int32) (u2 : Int32) (u3 : Int32) : Option Value → (Nat → va_E) → Prop := fun v f => (∃ r : Int32, v = some (.int r) ∧ (True)) ∧ FM kp L ms_X11_person f0 f
set_option maxHeartbeats 4000000 in
set_option maxRecDepth 100000 in
theorem c_X11_person (l : Launch) (G : va_G) (cI cJ cZ cD cR cT : ClassId) (kp : Nat → Nat) (L : List Nat) (f0 : Nat → va_E) (hTH : TH cI cJ cZ cD cR cT kp L f0) (sz : Nat) (h0 : Nat) (u1 : Int32) (u2 : Int32) (u3 : Int32) (rh0 : RK kp L h0 11) : Met l yX11_person (Cond.code yX11_person cX11_person 4 (some .int) :: wTab) ({ frames := 2, cells := 0, slots := 0, locals := 64 }) (va_Pc [.ref h0, .int u1, .int u2, .int u3] (PreW G (tys6 cI cJ cZ cD cR cT) (va_pl L f0) sz)) (QT (po_X11_person kp L f0 h0 u1 u2 u3) G cI cJ cZ cD cR cT (va_A (va_pl L f0) sz) kp L) 0 0 (va_A (va_pl L f0) sz) := by
  refine metT (by decide) (Nat.le_of_ble_eq_true rfl) hTH ?_
  intro p e s m below meth c A ls E hW hl
  obtain ⟨hx, hb, -, hml, hown, hts, -, -, -⟩ := id E
  have hF : FM kp L ms_X11_person f0 f0 := FM.rf
  have hl : lv_has ls 4 [(0, .ref h0), (1, .int u1), (2, .int u2), (3, .int u3)] := hl
  refine lv_iload_n hx hb dX11_person_0 rfl (lv_at hl 1 rfl) ?_
  refine lv_iconst (v := 0) hx hb dX11_person_1 (by decide) ?_
  refine lv_bipush (v := 19) hx hb dX11_person_2 (by decide) ?_
  refine t_callS (As := [.int u1, .int 0, .int 19]) (rest := []) E hW (c_X11_within l G cI cJ cZ cD cR cT kp L f0 hW.2.2.2 _ u1 0 19 (by decide)) wk_X11_within tw_599 rfl ⟨Nat.le_of_ble_eq_true rfl, Nat.le_of_ble_eq_true rfl⟩ ⟨rfl, rfl⟩ hl.1 rfl (Nat.le_of_ble_eq_true rfl) dX11_person_4 ⟨Nat.le_of_ble_eq_true rfl, Nat.le_of_ble_eq_true rfl⟩ (fun v1527146 f1527147 H locs q1527148 hW => ?_)
  obtain ⟨⟨x1527150, rfl, p1527151⟩, g1527149⟩ := q1527148
  have p1527151 : (x1527150.toInt = 1 ∧ 0 ≤ u1.toInt ∧ u1.toInt ≤ 19) ∨ (x1527150.toInt = 0 ∧ (u1.toInt < 0 ∨ 19 < u1.toInt)) := p1527151
  have hF := FM.tr hF g1527149 rfl
  refine q_if_eq (tgt := 30) hx hb dX11_person_7 (by decide) rfl (fun c1527152 => ?_) (fun c1527152 => ?_)
  · have q1527153 : (u1.toInt < 0 ∨ 19 < u1.toInt) := by omega
    clear p1527151
    refine lv_aload_n hx hb dX11_person_30 rfl (lv_at hl 0 rfl) ?_
    refine lv_iconst (v := (-1)) hx hb dX11_person_31 (by decide) ?_
    refine t_callV (As := [.int (-1)]) (rest := []) E hW (c_X11_refuse l G cI cJ cZ cD cR cT kp L f1527147 hW.2.2.2 _ h0 (-1) rh0 (by decide)) rh0 (by decide) rfl wk_X11_refuse tw_603 rfl ⟨Nat.le_of_ble_eq_true rfl, Nat.le_of_ble_eq_true rfl⟩ ⟨rfl, rfl⟩ hl.1 rfl (Nat.le_of_ble_eq_true rfl) dX11_person_32 ⟨Nat.le_of_ble_eq_true rfl, Nat.le_of_ble_eq_true rfl⟩ (fun v1527154 f1527155 H locs q1527156 hW => ?_)
    obtain ⟨⟨x1527158, rfl, p1527159⟩, g1527157⟩ := q1527156
    have p1527159 : (-6 : Int) ≤ x1527158.toInt ∧ x1527158.toInt ≤ -1 := p1527159
    have hF := FM.tr hF g1527157 rfl
    exact e_I E hW rfl ⟨⟨_, rfl, trivial⟩, hF⟩ dX11_person_35
  · have q1527160 : 0 ≤ u1.toInt ∧ u1.toInt ≤ 19 := by omega
    clear p1527151
    refine lv_iload_n hx hb dX11_person_10 rfl (lv_at hl 2 rfl) ?_
    refine lv_iconst (v := 0) hx hb dX11_person_11 (by decide) ?_
    refine lv_ldc (v := 1000000) hx hb hown (hts _ tw_602) dX11_person_12 ?_
    refine t_callS (As := [.int u2, .int 0, .int 1000000]) (rest := []) E hW (c_X11_within l G cI cJ cZ cD cR cT kp L f1527147 hW.2.2.2 _ u2 0 1000000 (by decide)) wk_X11_within tw_599 rfl ⟨Nat.le_of_ble_eq_true rfl, Nat.le_of_ble_eq_true rfl⟩ ⟨rfl, rfl⟩ hl.1 rfl (Nat.le_of_ble_eq_true rfl) dX11_person_14 ⟨Nat.le_of_ble_eq_true rfl, Nat.le_of_ble_eq_true rfl⟩ (fun v1527161 f1527162 H locs q1527163 hW => ?_)
    obtain ⟨⟨x1527165, rfl, p1527166⟩, g1527164⟩ := q1527163
    have p1527166 : (x1527165.toInt = 1 ∧ 0 ≤ u2.toInt ∧ u2.toInt ≤ 1000000) ∨ (x1527165.toInt = 0 ∧ (u2.toInt < 0 ∨ 1000000 < u2.toInt)) := p1527166
    have hF := FM.tr hF g1527164 rfl
    refine q_if_eq (tgt := 30) hx hb dX11_person_17 (by decide) rfl (fun c1527167 => ?_) (fun c1527167 => ?_)
    · have q1527168 : (u2.toInt < 0 ∨ 1000000 < u2.toInt) := by omega
      clear p1527166
      refine lv_aload_n hx hb dX11_person_30 rfl (lv_at hl 0 rfl) ?_
      refine lv_iconst (v := (-1)) hx hb dX11_person_31 (by decide) ?_
      refine t_callV (As := [.int (-1)]) (rest := []) E hW (c_X11_refuse l G cI cJ cZ cD cR cT kp L f1527162 hW.2.2.2 _ h0 (-1) rh0 (by decide)) rh0 (by decide) rfl wk_X11_refuse tw_603 rfl ⟨Nat.le_of_ble_eq_true rfl, Nat.le_of_ble_eq_true rfl⟩ ⟨rfl, rfl⟩ hl.1 rfl (Nat.le_of_ble_eq_true rfl) dX11_person_32 ⟨Nat.le_of_ble_eq_true rfl, Nat.le_of_ble_eq_true rfl⟩ (fun v1527169 f1527170 H locs q1527171 hW => ?_)
      obtain ⟨⟨x1527173, rfl, p1527174⟩, g1527172⟩ := q1527171
      have p1527174 : (-6 : Int) ≤ x1527173.toInt ∧ x1527173.toInt ≤ -1 := p1527174
      have hF := FM.tr hF g1527172 rfl
      exact e_I E hW rfl ⟨⟨_, rfl, trivial⟩, hF⟩ dX11_person_35
    · have q1527175 : 0 ≤ u2.toInt ∧ u2.toInt ≤ 1000000 := by omega
      clear p1527166
      refine lv_iload_n hx hb dX11_person_20 rfl (lv_at hl 3 rfl) ?_
      refine lv_iconst (v := 0) hx hb dX11_person_21 (by decide) ?_
      refine lv_bipush (v := 100) hx hb dX11_person_22 (by decide) ?_
      refine t_callS (As := [.int u3, .int 0, .int 100]) (rest := []) E hW (c_X11_within l G cI cJ cZ cD cR cT kp L f1527162 hW.2.2.2 _ u3 0 100 (by decide)) wk_X11_within tw_599 rfl ⟨Nat.le_of_ble_eq_true rfl, Nat.le_of_ble_eq_true rfl⟩ ⟨rfl, rfl⟩ hl.1 rfl (Nat.le_of_ble_eq_true rfl) dX11_person_24 ⟨Nat.le_of_ble_eq_true rfl, Nat.le_of_ble_eq_true rfl⟩ (fun v1527176 f1527177 H locs q1527178 hW => ?_)
      obtain ⟨⟨x1527180, rfl, p1527181⟩, g1527179⟩ := q1527178
      have p1527181 : (x1527180.toInt = 1 ∧ 0 ≤ u3.toInt ∧ u3.toInt ≤ 100) ∨ (x1527180.toInt = 0 ∧ (u3.toInt < 0 ∨ 100 < u3.toInt)) := p1527181
      have hF := FM.tr hF g1527179 rfl
      refine q_if_ne (tgt := 36) hx hb dX11_person_27 (by decide) rfl (fun c1527182 => ?_) (fun c1527182 => ?_)
      · have q1527183 : 0 ≤ u3.toInt ∧ u3.toInt ≤ 100 := by omega
        clear p1527181
        refine lv_aload_n hx hb dX11_person_36 rfl (lv_at hl 0 rfl) ?_
        refine fg_RX11_12 E hW rh0 dX11_person_37 (fun a1527184 m1527185 r1527186 => ?_)
        refine fg_RX11_63 E hW r1527186 dX11_person_40 (fun a1527187 m1527188 r1527189 => ?_)
        refine fg_RX11_67 E hW r1527189 dX11_person_43 (fun y1527190 m1527191 b1527192 => ?_)
        refine lv_bipush (v := 40) hx hb dX11_person_46 (by decide) ?_
        refine q_icmp_lt (Y := 40) (tgt := 58) hx hb dX11_person_48 (by decide) rfl rfl (fun c1527193 => ?_) (fun c1527193 => ?_)
        · refine lv_aload_n hx hb dX11_person_58 rfl (lv_at hl 0 rfl) ?_
          refine lv_aload_n hx hb dX11_person_59 rfl (lv_at hl 0 rfl) ?_
          refine fg_RX11_12 E hW rh0 dX11_person_60 (fun a1527194 m1527195 r1527196 => ?_)
          obtain rfl : a1527184 = a1527194 := (m1527185).symm.trans m1527195
          refine fg_RX11_63 E hW r1527186 dX11_person_63 (fun a1527197 m1527198 r1527199 => ?_)
          obtain rfl : a1527187 = a1527197 := (m1527188).symm.trans m1527198
          refine lv_iload_n hx hb dX11_person_66 rfl (lv_at hl 1 rfl) ?_
          refine lv_iload_n hx hb dX11_person_67 rfl (lv_at hl 2 rfl) ?_
          refine lv_iload_n hx hb dX11_person_68 rfl (lv_at hl 3 rfl) ?_
          refine t_callV (As := [.int u1, .int u2, .int u3]) (rest := [.ref h0]) E hW (c_X4_add l G cI cJ cZ cD cR cT kp L f1527177 hW.2.2.2 _ a1527187 u1 u2 u3 r1527189 (by omega) (by omega) (by omega)) r1527189 (by decide) rfl wk_X4_add tw_607 rfl ⟨Nat.le_of_ble_eq_true rfl, Nat.le_of_ble_eq_true rfl⟩ ⟨rfl, rfl⟩ hl.1 rfl (Nat.le_of_ble_eq_true rfl) dX11_person_69 ⟨Nat.le_of_ble_eq_true rfl, Nat.le_of_ble_eq_true rfl⟩ (fun v1527200 f1527201 H locs q1527202 hW => ?_)
          obtain ⟨⟨x1527204, rfl, p1527205⟩, g1527203⟩ := q1527202
          have hF := FM.tr hF g1527203 rfl
          refine t_callV (As := [.int x1527204]) (rest := []) E hW (c_X11_accept l G cI cJ cZ cD cR cT kp L f1527201 hW.2.2.2 _ h0 x1527204 rh0) rh0 (by decide) rfl wk_X11_accept tw_611 rfl ⟨Nat.le_of_ble_eq_true rfl, Nat.le_of_ble_eq_true rfl⟩ ⟨rfl, rfl⟩ hl.1 rfl (Nat.le_of_ble_eq_true rfl) dX11_person_72 ⟨Nat.le_of_ble_eq_true rfl, Nat.le_of_ble_eq_true rfl⟩ (fun v1527206 f1527207 H locs q1527208 hW => ?_)
          obtain ⟨⟨x1527210, rfl, p1527211⟩, g1527209⟩ := q1527208
          clear p1527211
          have hF := FM.tr hF g1527209 rfl
          exact e_I E hW rfl ⟨⟨_, rfl, trivial⟩, hF⟩ dX11_person_75
        · refine lv_aload_n hx hb dX11_person_51 rfl (lv_at hl 0 rfl) ?_
          refine lv_bipush (v := (-5)) hx hb dX11_person_52 (by decide) ?_
          refine t_callV (As := [.int (-5)]) (rest := []) E hW (c_X11_refuse l G cI cJ cZ cD cR cT kp L f1527177 hW.2.2.2 _ h0 (-5) rh0 (by decide)) rh0 (by decide) rfl wk_X11_refuse tw_603 rfl ⟨Nat.le_of_ble_eq_true rfl, Nat.le_of_ble_eq_true rfl⟩ ⟨rfl, rfl⟩ hl.1 rfl (Nat.le_of_ble_eq_true rfl) dX11_person_54 ⟨Nat.le_of_ble_eq_true rfl, Nat.le_of_ble_eq_true rfl⟩ (fun v1527212 f1527213 H locs q1527214 hW => ?_)
          obtain ⟨⟨x1527216, rfl, p1527217⟩, g1527215⟩ := q1527214
          have p1527217 : (-6 : Int) ≤ x1527216.toInt ∧ x1527216.toInt ≤ -1 := p1527217
          have hF := FM.tr hF g1527215 rfl
          exact e_I E hW rfl ⟨⟨_, rfl, trivial⟩, hF⟩ dX11_person_57
      · have q1527218 : (u3.toInt < 0 ∨ 100 < u3.toInt) := by omega
        clear p1527181
        refine lv_aload_n hx hb dX11_person_30 rfl (lv_at hl 0 rfl) ?_
        refine lv_iconst (v := (-1)) hx hb dX11_person_31 (by decide) ?_
        refine t_callV (As := [.int (-1)]) (rest := []) E hW (c_X11_refuse l G cI cJ cZ cD cR cT kp L f1527177 hW.2.2.2 _ h0 (-1) rh0 (by decide)) rh0 (by decide) rfl wk_X11_refuse tw_603 rfl ⟨Nat.le_of_ble_eq_true rfl, Nat.le_of_ble_eq_true rfl⟩ ⟨rfl, rfl⟩ hl.1 rfl (Nat.le_of_ble_eq_true rfl) dX11_person_32 ⟨Nat.le_of_ble_eq_true rfl, Nat.le_of_ble_eq_true rfl⟩ (fun v1527219 f1527220 H locs q1527221 hW => ?_)
        obtain ⟨⟨x1527223, rfl, p1527224⟩, g1527222⟩ := q1527221
        have p1527224 : (-6 : Int) ≤ x1527223.toInt ∧ x1527223.toInt ≤ -1 := p1527224
        have hF := FM.tr hF g1527222 rfl
        exact e_I E hW rfl ⟨⟨_, rfl, trivial⟩, hF⟩ dX11_person_35
def ms_X11_price : List (Nat × Nat) := [(11, 15), (520, 0)]
def po_X11_price (kp : Nat → Nat) (L : List Nat) (f0 : Nat → va_E) (h0 : Nat) (u1 : Int32) (u2 : Int32) : Option Value → (Nat → va_E) → Prop := fun v f => (∃ r : Int32, v = some (.int r) ∧ (True)) ∧ FM kp L ms_X11_price f0 f
set_option maxHeartbeats 4000000 in
set_option maxRecDepth 100000 in
theorem c_X11_price (l : Launch) (G : va_G) (cI cJ cZ cD cR cT : ClassId) (kp : Nat → Nat) (L : List Nat) (f0 : Nat → va_E) (hTH : TH cI cJ cZ cD cR cT kp L f0) (sz : Nat) (h0 : Nat) (u1 : Int32) (u2 : Int32) (rh0 : RK kp L h0 11) : Met l yX11_price (Cond.code yX11_price cX11_price 3 (some .int) :: wTab) ({ frames := 2, cells := 0, slots := 0, locals := 62 }) (va_Pc [.ref h0, .int u1, .int u2] (PreW G (tys6 cI cJ cZ cD cR cT) (va_pl L f0) sz)) (QT (po_X11_price kp L f0 h0 u1 u2) G cI cJ cZ cD cR cT (va_A (va_pl L f0) sz) kp L) 0 0 (va_A (va_pl L f0) sz) := by
  refine metT (by decide) (Nat.le_of_ble_eq_true rfl) hTH ?_
  intro p e s m below meth c A ls E hW hl
  obtain ⟨hx, hb, -, hml, hown, hts, -, -, -⟩ := id E
  have hF : FM kp L ms_X11_price f0 f0 := FM.rf
  have hl : lv_has ls 3 [(0, .ref h0), (1, .int u1), (2, .int u2)] := hl
  refine lv_iload_n hx hb dX11_price_0 rfl (lv_at hl 1 rfl) ?_
  refine t_callS (As := [.int u1]) (rest := []) E hW (c_X11_isWeek l G cI cJ cZ cD cR cT kp L f0 hW.2.2.2 _ u1) wk_X11_isWeek tw_780 rfl ⟨Nat.le_of_ble_eq_true rfl, Nat.le_of_ble_eq_true rfl⟩ ⟨rfl, rfl⟩ hl.1 rfl (Nat.le_of_ble_eq_true rfl) dX11_price_1 ⟨Nat.le_of_ble_eq_true rfl, Nat.le_of_ble_eq_true rfl⟩ (fun v1527225 f1527226 H locs q1527227 hW => ?_)
  obtain ⟨⟨x1527229, rfl, p1527230⟩, g1527228⟩ := q1527227
  have hF := FM.tr hF g1527228 rfl
  refine q_if_eq (tgt := 18) hx hb dX11_price_4 (by decide) rfl (fun c1527231 => ?_) (fun c1527231 => ?_)
  · have q1527232 : (u1.toInt < 0 ∨ 399 < u1.toInt) := by omega
    clear p1527230
    refine lv_aload_n hx hb dX11_price_18 rfl (lv_at hl 0 rfl) ?_
    refine lv_iconst (v := (-1)) hx hb dX11_price_19 (by decide) ?_
    refine t_callV (As := [.int (-1)]) (rest := []) E hW (c_X11_refuse l G cI cJ cZ cD cR cT kp L f1527226 hW.2.2.2 _ h0 (-1) rh0 (by decide)) rh0 (by decide) rfl wk_X11_refuse tw_603 rfl ⟨Nat.le_of_ble_eq_true rfl, Nat.le_of_ble_eq_true rfl⟩ ⟨rfl, rfl⟩ hl.1 rfl (Nat.le_of_ble_eq_true rfl) dX11_price_20 ⟨Nat.le_of_ble_eq_true rfl, Nat.le_of_ble_eq_true rfl⟩ (fun v1527233 f1527234 H locs q1527235 hW => ?_)
    obtain ⟨⟨x1527237, rfl, p1527238⟩, g1527236⟩ := q1527235
    have p1527238 : (-6 : Int) ≤ x1527237.toInt ∧ x1527237.toInt ≤ -1 := p1527238
    have hF := FM.tr hF g1527236 rfl
    exact e_I E hW rfl ⟨⟨_, rfl, trivial⟩, hF⟩ dX11_price_23
  · have q1527239 : 0 ≤ u1.toInt ∧ u1.toInt ≤ 399 := by omega
    clear p1527230
    refine lv_iload_n hx hb dX11_price_7 rfl (lv_at hl 2 rfl) ?_
    refine lv_iconst (v := 0) hx hb dX11_price_8 (by decide) ?_
    refine lv_sipush (v := 10000) hx hb dX11_price_9 (by decide) ?_
    refine t_callS (As := [.int u2, .int 0, .int 10000]) (rest := []) E hW (c_X11_within l G cI cJ cZ cD cR cT kp L f1527226 hW.2.2.2 _ u2 0 10000 (by decide)) wk_X11_within tw_599 rfl ⟨Nat.le_of_ble_eq_true rfl, Nat.le_of_ble_eq_true rfl⟩ ⟨rfl, rfl⟩ hl.1 rfl (Nat.le_of_ble_eq_true rfl) dX11_price_12 ⟨Nat.le_of_ble_eq_true rfl, Nat.le_of_ble_eq_true rfl⟩ (fun v1527240 f1527241 H locs q1527242 hW => ?_)
    obtain ⟨⟨x1527244, rfl, p1527245⟩, g1527243⟩ := q1527242
    have p1527245 : (x1527244.toInt = 1 ∧ 0 ≤ u2.toInt ∧ u2.toInt ≤ 10000) ∨ (x1527244.toInt = 0 ∧ (u2.toInt < 0 ∨ 10000 < u2.toInt)) := p1527245
    have hF := FM.tr hF g1527243 rfl
    refine q_if_ne (tgt := 24) hx hb dX11_price_15 (by decide) rfl (fun c1527246 => ?_) (fun c1527246 => ?_)
    · have q1527247 : 0 ≤ u2.toInt ∧ u2.toInt ≤ 10000 := by omega
      clear p1527245
      refine lv_aload_n hx hb dX11_price_24 rfl (lv_at hl 0 rfl) ?_
      refine fg_RX11_12 E hW rh0 dX11_price_25 (fun a1527248 m1527249 r1527250 => ?_)
      refine fg_RX11_194 E hW r1527250 dX11_price_28 (fun a1527251 m1527252 r1527253 => ?_)
      refine fg_RX11_198 E hW r1527253 dX11_price_31 (fun a1527254 m1527255 r1527256 => ?_)
      refine lv_iload_n hx hb dX11_price_34 rfl (lv_at hl 1 rfl) ?_
      refine lv_iload_n hx hb dX11_price_35 rfl (lv_at hl 2 rfl) ?_
      refine gs_520 E hW r1527256 ⟨by omega, by omega⟩ dX11_price_36 (fun f1527257 H locs e1527258 n1527259 g1527260 hW => ?_)
      have hF := FM.tr hF g1527260 rfl
      refine lv_aload_n hx hb dX11_price_37 rfl (lv_at hl 0 rfl) ?_
      refine lv_iconst (v := 0) hx hb dX11_price_38 (by decide) ?_
      refine t_callV (As := [.int 0]) (rest := []) E hW (c_X11_accept l G cI cJ cZ cD cR cT kp L f1527257 hW.2.2.2 _ h0 0 rh0) rh0 (by decide) rfl wk_X11_accept tw_611 rfl ⟨Nat.le_of_ble_eq_true rfl, Nat.le_of_ble_eq_true rfl⟩ ⟨rfl, rfl⟩ hl.1 rfl (Nat.le_of_ble_eq_true rfl) dX11_price_39 ⟨Nat.le_of_ble_eq_true rfl, Nat.le_of_ble_eq_true rfl⟩ (fun v1527261 f1527262 H locs q1527263 hW => ?_)
      obtain ⟨⟨x1527265, rfl, p1527266⟩, g1527264⟩ := q1527263
      clear p1527266
      have hF := FM.tr hF g1527264 rfl
      exact e_I E hW rfl ⟨⟨_, rfl, trivial⟩, hF⟩ dX11_price_42
    · have q1527267 : (u2.toInt < 0 ∨ 10000 < u2.toInt) := by omega
      clear p1527245
      refine lv_aload_n hx hb dX11_price_18 rfl (lv_at hl 0 rfl) ?_
      refine lv_iconst (v := (-1)) hx hb dX11_price_19 (by decide) ?_
      refine t_callV (As := [.int (-1)]) (rest := []) E hW (c_X11_refuse l G cI cJ cZ cD cR cT kp L f1527241 hW.2.2.2 _ h0 (-1) rh0 (by decide)) rh0 (by decide) rfl wk_X11_refuse tw_603 rfl ⟨Nat.le_of_ble_eq_true rfl, Nat.le_of_ble_eq_true rfl⟩ ⟨rfl, rfl⟩ hl.1 rfl (Nat.le_of_ble_eq_true rfl) dX11_price_20 ⟨Nat.le_of_ble_eq_true rfl, Nat.le_of_ble_eq_true rfl⟩ (fun v1527268 f1527269 H locs q1527270 hW => ?_)
      obtain ⟨⟨x1527272, rfl, p1527273⟩, g1527271⟩ := q1527270
      have p1527273 : (-6 : Int) ≤ x1527272.toInt ∧ x1527272.toInt ≤ -1 := p1527273
      have hF := FM.tr hF g1527271 rfl
      exact e_I E hW rfl ⟨⟨_, rfl, trivial⟩, hF⟩ dX11_price_23
def ms_X8_floats : List (Nat × Nat) := []
def po_X8_floats (kp : Nat → Nat) (L : List Nat) (f0 : Nat → va_E) (h0 : Nat) : Option Value → (Nat → va_E) → Prop := fun v f => (∃ r : Int32, v = some (.int r) ∧ ((0 : Int) ≤ r.toInt ∧ r.toInt ≤ 100)) ∧ FM kp L ms_X8_floats f0 f
set_option maxHeartbeats 4000000 in
set_option maxRecDepth 100000 in
theorem c_X8_floats (l : Launch) (G : va_G) (cI cJ cZ cD cR cT : ClassId) (kp : Nat → Nat) (L : List Nat) (f0 : Nat → va_E) (hTH : TH cI cJ cZ cD cR cT kp L f0) (sz : Nat) (h0 : Nat) (rh0 : RK kp L h0 8) : Met l yX8_floats (Cond.code yX8_floats cX8_floats 1 (some .int) :: wTab) ({ frames := 1, cells := 0, slots := 0, locals := 40 }) (va_Pc [.ref h0] (PreW G (tys6 cI cJ cZ cD cR cT) (va_pl L f0) sz)) (QT (po_X8_floats kp L f0 h0) G cI cJ cZ cD cR cT (va_A (va_pl L f0) sz) kp L) 0 0 (va_A (va_pl L f0) sz) := by
  refine metT (by decide) (Nat.le_of_ble_eq_true rfl) hTH ?_
  intro p e s m below meth c A ls E hW hl
  obtain ⟨hx, hb, -, hml, hown, hts, -, -, -⟩ := id E
  have hF : FM kp L ms_X8_floats f0 f0 := FM.rf
  have hl : lv_has ls 1 [(0, .ref h0)] := hl
  refine lv_aload_n hx hb dX8_floats_0 rfl (lv_at hl 0 rfl) ?_
  refine fg_RX8_19 E hW rh0 dX8_floats_1 (fun y1527274 m1527275 b1527276 => ?_)
  refine lv_iconst (v := 3) hx hb dX8_floats_4 (by decide) ?_
  refine q_iadd (Y := 3) hx hb dX8_floats_5 rfl rfl (by omega) (fun x1527277 h1527278 => ?_)
  refine lv_iconst (v := 4) hx hb dX8_floats_6 (by decide) ?_
  refine q_idiv (Y := 4) hx hb dX8_floats_7 rfl rfl (by omega) (by omega) (fun x1527279 h1527280 => ?_)
  exact e_I E hW rfl ⟨⟨_, rfl, (by first | omega | trivial)⟩, hF⟩ dX8_floats_8
def ms_X11_whyNoRow : List (Nat × Nat) := []
def po_X11_whyNoRow (kp : Nat → Nat) (L : List Nat) (f0 : Nat → va_E) (h0 : Nat) (u1 : Int32) (u2 : Int32) : Option Value → (Nat → va_E) → Prop := fun v f => (∃ r : Int32, v = some (.int r) ∧ ((-6 : Int) ≤ r.toInt ∧ r.toInt ≤ 0)) ∧ FM kp L ms_X11_whyNoRow f0 f
set_option maxHeartbeats 4000000 in
set_option maxRecDepth 100000 in
theorem c_X11_whyNoRow (l : Launch) (G : va_G) (cI cJ cZ cD cR cT : ClassId) (kp : Nat → Nat) (L : List Nat) (f0 : Nat → va_E) (hTH : TH cI cJ cZ cD cR cT kp L f0) (sz : Nat) (h0 : Nat) (u1 : Int32) (u2 : Int32) (rh0 : RK kp L h0 11) : Met l yX11_whyNoRow (Cond.code yX11_whyNoRow cX11_whyNoRow 4 (some .int) :: wTab) ({ frames := 2, cells := 0, slots := 0, locals := 61 }) (va_Pc [.ref h0, .int u1, .int u2] (PreW G (tys6 cI cJ cZ cD cR cT) (va_pl L f0) sz)) (QT (po_X11_whyNoRow kp L f0 h0 u1 u2) G cI cJ cZ cD cR cT (va_A (va_pl L f0) sz) kp L) 0 0 (va_A (va_pl L f0) sz) := by
  refine metT (by decide) (Nat.le_of_ble_eq_true rfl) hTH ?_
  intro p e s m below meth c A ls E hW hl
  obtain ⟨hx, hb, -, hml, hown, hts, -, -, -⟩ := id E
  have hF : FM kp L ms_X11_whyNoRow f0 f0 := FM.rf
  have hl : lv_has ls 4 [(0, .ref h0), (1, .int u1), (2, .int u2)] := hl
  refine lv_iload_n hx hb dX11_whyNoRow_0 rfl (lv_at hl 1 rfl) ?_
  refine t_callS (As := [.int u1]) (rest := []) E hW (c_X11_isWeek l G cI cJ cZ cD cR cT kp L f0 hW.2.2.2 _ u1) wk_X11_isWeek tw_780 rfl ⟨Nat.le_of_ble_eq_true rfl, Nat.le_of_ble_eq_true rfl⟩ ⟨rfl, rfl⟩ hl.1 rfl (Nat.le_of_ble_eq_true rfl) dX11_whyNoRow_1 ⟨Nat.le_of_ble_eq_true rfl, Nat.le_of_ble_eq_true rfl⟩ (fun v1527281 f1527282 H locs q1527283 hW => ?_)
  obtain ⟨⟨x1527285, rfl, p1527286⟩, g1527284⟩ := q1527283
  have hF := FM.tr hF g1527284 rfl
  refine q_if_ne (tgt := 9) hx hb dX11_whyNoRow_4 (by decide) rfl (fun c1527287 => ?_) (fun c1527287 => ?_)
  · have q1527288 : 0 ≤ u1.toInt ∧ u1.toInt ≤ 399 := by omega
    clear p1527286
    refine lv_aload_n hx hb dX11_whyNoRow_9 rfl (lv_at hl 0 rfl) ?_
    refine fg_RX11_12 E hW rh0 dX11_whyNoRow_10 (fun a1527289 m1527290 r1527291 => ?_)
    refine fg_RX11_114 E hW r1527291 dX11_whyNoRow_13 (fun a1527292 m1527293 r1527294 => ?_)
    refine lv_iload_n hx hb dX11_whyNoRow_16 rfl (lv_at hl 2 rfl) ?_
    refine t_callV (As := [.int u2]) (rest := []) E hW (c_X1_has l G cI cJ cZ cD cR cT kp L f1527282 hW.2.2.2 _ a1527292 u2 r1527294) r1527294 (by decide) rfl wk_X1_has tw_683 rfl ⟨Nat.le_of_ble_eq_true rfl, Nat.le_of_ble_eq_true rfl⟩ ⟨rfl, rfl⟩ hl.1 rfl (Nat.le_of_ble_eq_true rfl) dX11_whyNoRow_17 ⟨Nat.le_of_ble_eq_true rfl, Nat.le_of_ble_eq_true rfl⟩ (fun v1527295 f1527296 H locs q1527297 hW => ?_)
    obtain ⟨⟨x1527299, rfl, p1527300⟩, g1527298⟩ := q1527297
    have hF := FM.tr hF g1527298 rfl
    refine q_if_ne (tgt := 26) hx hb dX11_whyNoRow_20 (by decide) rfl (fun c1527301 => ?_) (fun c1527301 => ?_)
    · have q1527302 : 0 ≤ u2.toInt ∧ u2.toInt ≤ 39 := by omega
      clear p1527300
      refine lv_iload_n hx hb dX11_whyNoRow_26 rfl (lv_at hl 1 rfl) ?_
      refine lv_aload_n hx hb dX11_whyNoRow_27 rfl (lv_at hl 0 rfl) ?_
      refine fg_RX11_12 E hW rh0 dX11_whyNoRow_28 (fun a1527303 m1527304 r1527305 => ?_)
      obtain rfl : a1527289 = a1527303 := (((fm_R g1527298 rh0 rfl).trans m1527290)).symm.trans m1527304
      refine fg_RX11_255 E hW r1527291 dX11_whyNoRow_31 (fun y1527306 m1527307 b1527308 => ?_)
      refine q_icmp_ge (tgt := 40) hx hb dX11_whyNoRow_34 (by decide) rfl rfl (fun c1527309 => ?_) (fun c1527309 => ?_)
      · refine lv_aload_n hx hb dX11_whyNoRow_40 rfl (lv_at hl 0 rfl) ?_
        refine fg_RX11_12 E hW rh0 dX11_whyNoRow_41 (fun a1527310 m1527311 r1527312 => ?_)
        obtain rfl : a1527289 = a1527310 := (m1527304).symm.trans m1527311
        refine fg_RX11_194 E hW r1527291 dX11_whyNoRow_44 (fun a1527313 m1527314 r1527315 => ?_)
        refine fg_RX11_359 E hW r1527315 dX11_whyNoRow_47 (fun a1527316 m1527317 r1527318 => ?_)
        refine lv_iload_n hx hb dX11_whyNoRow_50 rfl (lv_at hl 1 rfl) ?_
        refine gl_521 E hW r1527318 ⟨by omega, by omega⟩ dX11_whyNoRow_51 (fun o1527319 m1527321 k1527320 => ?_)
        rcases o1527319 with _ | a1527322
        · have hl : lv_has ls 4 [(0, .ref h0), (1, .int u1), (2, .int u2)] := hl
          show W p l e ({ frames := 2, cells := 0, slots := 0, locals := 61 }) s m ([.ref h0, .int u1, .int u2] : List Value).toArray below meth c _ _ 0 0 (MQ below (QT (po_X11_whyNoRow kp L f0 h0 u1 u2) G cI cJ cZ cD cR cT A kp L) ([.ref h0, .int u1, .int u2] : List Value).toArray s 0 0 A) (F0 m 52 ls [.null])
          refine lv_ifnullN (tgt := 58) hx hb dX11_whyNoRow_52 (by decide) ?_
          refine lv_aload_n hx hb dX11_whyNoRow_58 rfl (lv_at hl 0 rfl) ?_
          refine fg_RX11_30 E hW rh0 dX11_whyNoRow_59 (fun a1527324 m1527325 r1527326 => ?_)
          refine t_callV (As := []) (rest := []) E hW (c_X8_floats l G cI cJ cZ cD cR cT kp L f1527296 hW.2.2.2 _ a1527324 r1527326) r1527326 (by decide) rfl wk_X8_floats tw_791 rfl ⟨Nat.le_of_ble_eq_true rfl, Nat.le_of_ble_eq_true rfl⟩ ⟨rfl, rfl⟩ hl.1 rfl (Nat.le_of_ble_eq_true rfl) dX11_whyNoRow_62 ⟨Nat.le_of_ble_eq_true rfl, Nat.le_of_ble_eq_true rfl⟩ (fun v1527327 f1527328 H locs q1527329 hW => ?_)
          obtain ⟨⟨x1527331, rfl, p1527332⟩, g1527330⟩ := q1527329
          have hF := FM.tr hF g1527330 rfl
          refine lv_istore_n (lv' := [(3, .int x1527331), (0, .ref h0), (1, .int u1), (2, .int u2)]) hx hb dX11_whyNoRow_65 rfl hl (by decide) rfl (fun ls hl => ?_)
          refine lv_iload_n hx hb dX11_whyNoRow_66 rfl (lv_at hl 0 rfl) ?_
          have J1527347 : ∀ (y1527345 : Int32) (b1527346 : (-6 : Int) ≤ y1527345.toInt ∧ y1527345.toInt ≤ 0) (H : Heap) (locs : List Loc) (ls : Array Slot), WS G cI cJ cZ cD cR cT A kp L f1527328 s H locs → FM kp L ms_X11_whyNoRow f0 f1527328 → lv_has ls 4 [(3, .int x1527331), (0, .ref h0), (1, .int u1), (2, .int u2)] → W p l e ({ frames := 2, cells := 0, slots := 0, locals := 61 }) s m ([.ref h0, .int u1, .int u2] : List Value).toArray below meth c H locs 0 0 (MQ below (QT (po_X11_whyNoRow kp L f0 h0 u1 u2) G cI cJ cZ cD cR cT A kp L) ([.ref h0, .int u1, .int u2] : List Value).toArray s 0 0 A) (F0 m 92 ls [.int y1527345]) := by
            intro y1527345 b1527346 H locs ls hW hF hl
            clear c1527287 c1527301
            exact e_I E hW rfl ⟨⟨_, rfl, (by first | omega | trivial)⟩, hF⟩ dX11_whyNoRow_92
          refine q_if_eq (tgt := 86) hx hb dX11_whyNoRow_67 (by decide) rfl (fun c1527348 => ?_) (fun c1527348 => ?_)
          · refine lv_bipush (v := (-6)) hx hb dX11_whyNoRow_86 (by decide) ?_
            refine lv_goto (tgt := 92) hx hb dX11_whyNoRow_88 (by decide) ?_
            exact J1527347 (-6) (by decide) _ _ _ hW hF (lv_sub hl [0, 1, 2, 3] rfl)
          · refine lv_iload_n hx hb dX11_whyNoRow_70 rfl (lv_at hl 0 rfl) ?_
            refine lv_aload_n hx hb dX11_whyNoRow_71 rfl (lv_at hl 1 rfl) ?_
            refine fg_RX11_12 E hW rh0 dX11_whyNoRow_72 (fun a1527349 m1527350 r1527351 => ?_)
            obtain rfl : a1527289 = a1527349 := (((fm_R g1527330 rh0 rfl).trans m1527311)).symm.trans m1527350
            refine fg_RX11_114 E hW r1527291 dX11_whyNoRow_75 (fun a1527352 m1527353 r1527354 => ?_)
            obtain rfl : a1527292 = a1527352 := (((fm_R g1527330 r1527291 rfl).trans ((fm_R g1527298 r1527291 rfl).trans m1527293))).symm.trans m1527353
            refine fg_RX11_130 E hW r1527294 dX11_whyNoRow_78 (fun y1527355 m1527356 b1527357 => ?_)
            refine lv_iload_n hx hb dX11_whyNoRow_81 rfl (lv_at hl 3 rfl) ?_
            refine q_isub hx hb dX11_whyNoRow_82 rfl rfl (by omega) (fun x1527358 h1527359 => ?_)
            refine q_icmp_le (tgt := 91) hx hb dX11_whyNoRow_83 (by decide) rfl rfl (fun c1527360 => ?_) (fun c1527360 => ?_)
            · refine lv_iconst (v := 0) hx hb dX11_whyNoRow_91 (by decide) ?_
              exact J1527347 0 (by decide) _ _ _ hW hF (lv_sub hl [0, 1, 2, 3] rfl)
            · refine lv_bipush (v := (-6)) hx hb dX11_whyNoRow_86 (by decide) ?_
              refine lv_goto (tgt := 92) hx hb dX11_whyNoRow_88 (by decide) ?_
              exact J1527347 (-6) (by decide) _ _ _ hW hF (lv_sub hl [0, 1, 2, 3] rfl)
        · have r1527323 : RK kp L a1527322 6 := k1527320 _ rfl
          have hl : lv_has ls 4 [(0, .ref h0), (1, .int u1), (2, .int u2)] := hl
          show W p l e ({ frames := 2, cells := 0, slots := 0, locals := 61 }) s m ([.ref h0, .int u1, .int u2] : List Value).toArray below meth c _ _ 0 0 (MQ below (QT (po_X11_whyNoRow kp L f0 h0 u1 u2) G cI cJ cZ cD cR cT A kp L) ([.ref h0, .int u1, .int u2] : List Value).toArray s 0 0 A) (F0 m 52 ls [.ref a1527322])
          refine lv_ifnull hx hb dX11_whyNoRow_52 ?_
          refine lv_bipush (v := (-4)) hx hb dX11_whyNoRow_55 (by decide) ?_
          exact e_I E hW rfl ⟨⟨_, rfl, (by have hk : ((-4) : Int32).toInt = -4 := rfl; first | decide | omega)⟩, hF⟩ dX11_whyNoRow_57
      · refine lv_bipush (v := (-3)) hx hb dX11_whyNoRow_37 (by decide) ?_
        exact e_I E hW rfl ⟨⟨_, rfl, (by have hk : ((-3) : Int32).toInt = -3 := rfl; first | decide | omega)⟩, hF⟩ dX11_whyNoRow_39
    · clear p1527300
      refine lv_bipush (v := (-2)) hx hb dX11_whyNoRow_23 (by decide) ?_
      exact e_I E hW rfl ⟨⟨_, rfl, (by have hk : ((-2) : Int32).toInt = -2 := rfl; first | decide | omega)⟩, hF⟩ dX11_whyNoRow_25
  · have q1527361 : (u1.toInt < 0 ∨ 399 < u1.toInt) := by omega
    clear p1527286
    refine lv_iconst (v := (-1)) hx hb dX11_whyNoRow_7 (by decide) ?_
    exact e_I E hW rfl ⟨⟨_, rfl, (by have hk : ((-1) : Int32).toInt = -1 := rfl; first | decide | omega)⟩, hF⟩ dX11_whyNoRow_8
def ms_X11_seal : List (Nat × Nat) := [(1, 12), (1, 13), (1, 14)]
def po_X11_seal (kp : Nat → Nat) (L : List Nat) (f0 : Nat → va_E) (h0 : Nat) : Option Value → (Nat → va_E) → Prop := fun v f => (∃ r : Int32, v = some (.int r) ∧ ((0 : Int) ≤ r.toInt ∧ r.toInt ≤ 40)) ∧ FM kp L ms_X11_seal f0 f
set_option maxHeartbeats 4000000 in
set_option maxRecDepth 100000 in
theorem c_X11_seal (l : Launch) (G : va_G) (cI cJ cZ cD cR cT : ClassId) (kp : Nat → Nat) (L : List Nat) (f0 : Nat → va_E) (hTH : TH cI cJ cZ cD cR cT kp L f0) (sz : Nat) (h0 : Nat) (rh0 : RK kp L h0 11) : Met l yX11_seal (Cond.code yX11_seal cX11_seal 1 (some .int) :: wTab) ({ frames := 3, cells := 0, slots := 0, locals := 83 }) (va_Pc [.ref h0] (PreW G (tys6 cI cJ cZ cD cR cT) (va_pl L f0) sz)) (QT (po_X11_seal kp L f0 h0) G cI cJ cZ cD cR cT (va_A (va_pl L f0) sz) kp L) 0 0 (va_A (va_pl L f0) sz) := by
  refine metT (by decide) (Nat.le_of_ble_eq_true rfl) hTH ?_
  intro p e s m below meth c A ls E hW hl
  obtain ⟨hx, hb, -, hml, hown, hts, -, -, -⟩ := id E
  have hF : FM kp L ms_X11_seal f0 f0 := FM.rf
  have hl : lv_has ls 1 [(0, .ref h0)] := hl
  refine lv_aload_n hx hb dX11_seal_0 rfl (lv_at hl 0 rfl) ?_
  refine fg_RX11_12 E hW rh0 dX11_seal_1 (fun a1527362 m1527363 r1527364 => ?_)
  refine fg_RX11_114 E hW r1527364 dX11_seal_4 (fun a1527365 m1527366 r1527367 => ?_)
  refine t_callV (As := []) (rest := []) E hW (c_X1_keepSums l G cI cJ cZ cD cR cT kp L f0 hW.2.2.2 _ a1527365 r1527367) r1527367 (by decide) rfl wk_X1_keepSums tw_1344 rfl ⟨Nat.le_of_ble_eq_true rfl, Nat.le_of_ble_eq_true rfl⟩ ⟨rfl, rfl⟩ hl.1 rfl (Nat.le_of_ble_eq_true rfl) dX11_seal_7 ⟨Nat.le_of_ble_eq_true rfl, Nat.le_of_ble_eq_true rfl⟩ (fun v1527368 f1527369 H locs q1527370 hW => ?_)
  obtain ⟨rfl, g1527371⟩ := q1527370
  have hF := FM.tr hF g1527371 rfl
  refine lv_aload_n hx hb dX11_seal_10 rfl (lv_at hl 0 rfl) ?_
  refine fg_RX11_12 E hW rh0 dX11_seal_11 (fun a1527372 m1527373 r1527374 => ?_)
  obtain rfl : a1527362 = a1527372 := (((fm_R g1527371 rh0 rfl).trans m1527363)).symm.trans m1527373
  refine fg_RX11_114 E hW r1527364 dX11_seal_14 (fun a1527375 m1527376 r1527377 => ?_)
  obtain rfl : a1527365 = a1527375 := (((fm_R g1527371 r1527364 rfl).trans m1527366)).symm.trans m1527376
  refine fg_RX11_130 E hW r1527367 dX11_seal_17 (fun y1527378 m1527379 b1527380 => ?_)
  exact e_I E hW rfl ⟨⟨_, rfl, (by first | omega | trivial)⟩, hF⟩ dX11_seal_20
def ms_X11_status : List (Nat × Nat) := []
def po_X11_status (kp : Nat → Nat) (L : List Nat) (f0 : Nat → va_E) (h0 : Nat) : Option Value → (Nat → va_E) → Prop := fun v f => (∃ r : Int32, v = some (.int r) ∧ (True)) ∧ FM kp L ms_X11_status f0 f
set_option maxHeartbeats 4000000 in
set_option maxRecDepth 100000 in
theorem c_X11_status (l : Launch) (G : va_G) (cI cJ cZ cD cR cT : ClassId) (kp : Nat → Nat) (L : List Nat) (f0 : Nat → va_E) (hTH : TH cI cJ cZ cD cR cT kp L f0) (sz : Nat) (h0 : Nat) (rh0 : RK kp L h0 11) : Met l yX11_status (Cond.code yX11_status cX11_status 1 (some .int) :: wTab) ({ frames := 1, cells := 0, slots := 0, locals := 40 }) (va_Pc [.ref h0] (PreW G (tys6 cI cJ cZ cD cR cT) (va_pl L f0) sz)) (QT (po_X11_status kp L f0 h0) G cI cJ cZ cD cR cT (va_A (va_pl L f0) sz) kp L) 0 0 (va_A (va_pl L f0) sz) := by
  refine metT (by decide) (Nat.le_of_ble_eq_true rfl) hTH ?_
  intro p e s m below meth c A ls E hW hl
  obtain ⟨hx, hb, -, hml, hown, hts, -, -, -⟩ := id E
  have hF : FM kp L ms_X11_status f0 f0 := FM.rf
  have hl : lv_has ls 1 [(0, .ref h0)] := hl
  refine lv_aload_n hx hb dX11_status_0 rfl (lv_at hl 0 rfl) ?_
  refine fg_RX11_356 E hW rh0 dX11_status_1 (fun y1527381 m1527382 => ?_)
  exact e_I E hW rfl ⟨⟨_, rfl, trivial⟩, hF⟩ dX11_status_4
def ms_X11_take : List (Nat × Nat) := [(0, 14), (11, 15), (115, 0), (164, 0), (166, 0), (222, 0), (223, 0), (347, 0)]
def po_X11_take (kp : Nat → Nat) (L : List Nat) (f0 : Nat → va_E) (h0 : Nat) (u1 : Int32) (u2 : Int32) (u3 : Int32) : Option Value → (Nat → va_E) → Prop := fun v f => (∃ r : Int32, v = some (.int r) ∧ (True)) ∧ FM kp L ms_X11_take f0 f
set_option maxHeartbeats 4000000 in
set_option maxRecDepth 100000 in
theorem c_X11_take (l : Launch) (G : va_G) (cI cJ cZ cD cR cT : ClassId) (kp : Nat → Nat) (L : List Nat) (f0 : Nat → va_E) (hTH : TH cI cJ cZ cD cR cT kp L f0) (sz : Nat) (h0 : Nat) (u1 : Int32) (u2 : Int32) (u3 : Int32) (rh0 : RK kp L h0 11) : Met l yX11_take (Cond.code yX11_take cX11_take 7 (some .int) :: wTab) ({ frames := 5, cells := 0, slots := 0, locals := 143 }) (va_Pc [.ref h0, .int u1, .int u2, .int u3] (PreW G (tys6 cI cJ cZ cD cR cT) (va_pl L f0) sz)) (QT (po_X11_take kp L f0 h0 u1 u2 u3) G cI cJ cZ cD cR cT (va_A (va_pl L f0) sz) kp L) 0 0 (va_A (va_pl L f0) sz) := by
  refine metT (by decide) (Nat.le_of_ble_eq_true rfl) hTH ?_
  intro p e s m below meth c A ls E hW hl
  obtain ⟨hx, hb, -, hml, hown, hts, -, -, -⟩ := id E
  have hF : FM kp L ms_X11_take f0 f0 := FM.rf
  have hl : lv_has ls 7 [(0, .ref h0), (1, .int u1), (2, .int u2), (3, .int u3)] := hl
  refine lv_aload_n hx hb dX11_take_0 rfl (lv_at hl 0 rfl) ?_
  refine fg_RX11_12 E hW rh0 dX11_take_1 (fun a1527384 m1527385 r1527386 => ?_)
  refine fg_RX11_114 E hW r1527386 dX11_take_4 (fun a1527387 m1527388 r1527389 => ?_)
  refine lv_astore (lv' := [(4, .ref a1527387), (0, .ref h0), (1, .int u1), (2, .int u2), (3, .int u3)]) hx hb dX11_take_7 hl (by decide) rfl (fun ls hl => ?_)
  refine lv_iload_n hx hb dX11_take_9 rfl (lv_at hl 4 rfl) ?_
  refine lv_iconst (v := 0) hx hb dX11_take_10 (by decide) ?_
  refine lv_iconst (v := 1) hx hb dX11_take_11 (by decide) ?_
  refine t_callS (As := [.int u3, .int 0, .int 1]) (rest := []) E hW (c_X11_within l G cI cJ cZ cD cR cT kp L f0 hW.2.2.2 _ u3 0 1 (by decide)) wk_X11_within tw_599 rfl ⟨Nat.le_of_ble_eq_true rfl, Nat.le_of_ble_eq_true rfl⟩ ⟨rfl, rfl⟩ hl.1 rfl (Nat.le_of_ble_eq_true rfl) dX11_take_12 ⟨Nat.le_of_ble_eq_true rfl, Nat.le_of_ble_eq_true rfl⟩ (fun v1527390 f1527391 H locs q1527392 hW => ?_)
  obtain ⟨⟨x1527394, rfl, p1527395⟩, g1527393⟩ := q1527392
  have p1527395 : (x1527394.toInt = 1 ∧ 0 ≤ u3.toInt ∧ u3.toInt ≤ 1) ∨ (x1527394.toInt = 0 ∧ (u3.toInt < 0 ∨ 1 < u3.toInt)) := p1527395
  have hF := FM.tr hF g1527393 rfl
  refine q_if_ne (tgt := 24) hx hb dX11_take_15 (by decide) rfl (fun c1527396 => ?_) (fun c1527396 => ?_)
  · have q1527397 : 0 ≤ u3.toInt ∧ u3.toInt ≤ 1 := by omega
    clear p1527395
    refine lv_aload_n hx hb dX11_take_24 rfl (lv_at hl 1 rfl) ?_
    refine fg_RX11_12 E hW rh0 dX11_take_25 (fun a1527398 m1527399 r1527400 => ?_)
    obtain rfl : a1527384 = a1527398 := (((fm_R g1527393 rh0 rfl).trans m1527385)).symm.trans m1527399
    refine fg_RX11_63 E hW r1527386 dX11_take_28 (fun a1527401 m1527402 r1527403 => ?_)
    refine lv_iload_n hx hb dX11_take_31 rfl (lv_at hl 2 rfl) ?_
    refine t_callV (As := [.int u1]) (rest := []) E hW (c_X4_has l G cI cJ cZ cD cR cT kp L f1527391 hW.2.2.2 _ a1527401 u1 r1527403) r1527403 (by decide) rfl wk_X4_has tw_619 rfl ⟨Nat.le_of_ble_eq_true rfl, Nat.le_of_ble_eq_true rfl⟩ ⟨rfl, rfl⟩ hl.1 rfl (Nat.le_of_ble_eq_true rfl) dX11_take_32 ⟨Nat.le_of_ble_eq_true rfl, Nat.le_of_ble_eq_true rfl⟩ (fun v1527404 f1527405 H locs q1527406 hW => ?_)
    obtain ⟨⟨x1527408, rfl, p1527409⟩, g1527407⟩ := q1527406
    have hF := FM.tr hF g1527407 rfl
    refine q_if_eq (tgt := 47) hx hb dX11_take_35 (by decide) rfl (fun c1527410 => ?_) (fun c1527410 => ?_)
    · clear p1527409
      refine lv_aload_n hx hb dX11_take_47 rfl (lv_at hl 1 rfl) ?_
      refine lv_bipush (v := (-2)) hx hb dX11_take_48 (by decide) ?_
      refine t_callV (As := [.int (-2)]) (rest := []) E hW (c_X11_refuse l G cI cJ cZ cD cR cT kp L f1527405 hW.2.2.2 _ h0 (-2) rh0 (by decide)) rh0 (by decide) rfl wk_X11_refuse tw_603 rfl ⟨Nat.le_of_ble_eq_true rfl, Nat.le_of_ble_eq_true rfl⟩ ⟨rfl, rfl⟩ hl.1 rfl (Nat.le_of_ble_eq_true rfl) dX11_take_50 ⟨Nat.le_of_ble_eq_true rfl, Nat.le_of_ble_eq_true rfl⟩ (fun v1527411 f1527412 H locs q1527413 hW => ?_)
      obtain ⟨⟨x1527415, rfl, p1527416⟩, g1527414⟩ := q1527413
      have p1527416 : (-6 : Int) ≤ x1527415.toInt ∧ x1527415.toInt ≤ -1 := p1527416
      have hF := FM.tr hF g1527414 rfl
      exact e_I E hW rfl ⟨⟨_, rfl, trivial⟩, hF⟩ dX11_take_53
    · have q1527417 : 0 ≤ u1.toInt ∧ u1.toInt ≤ 39 := by omega
      clear p1527409
      refine lv_aload hx hb dX11_take_38 (lv_at hl 0 rfl) ?_
      refine lv_iload_n hx hb dX11_take_40 rfl (lv_at hl 3 rfl) ?_
      refine t_callV (As := [.int u2]) (rest := []) E hW (c_X1_has l G cI cJ cZ cD cR cT kp L f1527405 hW.2.2.2 _ a1527387 u2 r1527389) r1527389 (by decide) rfl wk_X1_has tw_683 rfl ⟨Nat.le_of_ble_eq_true rfl, Nat.le_of_ble_eq_true rfl⟩ ⟨rfl, rfl⟩ hl.1 rfl (Nat.le_of_ble_eq_true rfl) dX11_take_41 ⟨Nat.le_of_ble_eq_true rfl, Nat.le_of_ble_eq_true rfl⟩ (fun v1527418 f1527419 H locs q1527420 hW => ?_)
      obtain ⟨⟨x1527422, rfl, p1527423⟩, g1527421⟩ := q1527420
      have hF := FM.tr hF g1527421 rfl
      refine q_if_ne (tgt := 54) hx hb dX11_take_44 (by decide) rfl (fun c1527424 => ?_) (fun c1527424 => ?_)
      · have q1527425 : 0 ≤ u2.toInt ∧ u2.toInt ≤ 39 := by omega
        clear p1527423
        refine lv_iload_n hx hb dX11_take_54 rfl (lv_at hl 4 rfl) ?_
        have J1527428 : ∀ (y1527426 : Int32) (b1527427 : (0 : Int) ≤ y1527426.toInt ∧ y1527426.toInt ≤ 1) (H : Heap) (locs : List Loc) (ls : Array Slot), WS G cI cJ cZ cD cR cT A kp L f1527419 s H locs → FM kp L ms_X11_take f0 f1527419 → lv_has ls 7 [(4, .ref a1527387), (0, .ref h0), (1, .int u1), (2, .int u2), (3, .int u3)] → W p l e ({ frames := 5, cells := 0, slots := 0, locals := 143 }) s m ([.ref h0, .int u1, .int u2, .int u3] : List Value).toArray below meth c H locs 0 0 (MQ below (QT (po_X11_take kp L f0 h0 u1 u2 u3) G cI cJ cZ cD cR cT A kp L) ([.ref h0, .int u1, .int u2, .int u3] : List Value).toArray s 0 0 A) (F0 m 63 ls [.int y1527426]) := by
          intro y1527426 b1527427 H locs ls hW hF hl
          clear c1527396 c1527410 c1527424
          refine lv_istore (lv' := [(5, .int y1527426), (4, .ref a1527387), (0, .ref h0), (1, .int u1), (2, .int u2), (3, .int u3)]) hx hb dX11_take_63 hl (by decide) rfl (fun ls hl => ?_)
          refine lv_aload hx hb dX11_take_65 (lv_at hl 1 rfl) ?_
          refine fg_RX11_182 E hW r1527389 dX11_take_67 (fun a1527429 m1527430 r1527431 => ?_)
          refine lv_iload_n hx hb dX11_take_70 rfl (lv_at hl 4 rfl) ?_
          refine gl_167 E hW r1527431 ⟨by omega, by omega⟩ dX11_take_71 (fun y1527432 m1527433 => ?_)
          refine lv_iconst (v := 1) hx hb dX11_take_72 (by decide) ?_
          have J1527437 : ∀ (y1527435 : Int32) (b1527436 : (0 : Int) ≤ y1527435.toInt ∧ y1527435.toInt ≤ 1) (H : Heap) (locs : List Loc) (ls : Array Slot), WS G cI cJ cZ cD cR cT A kp L f1527419 s H locs → FM kp L ms_X11_take f0 f1527419 → lv_has ls 7 [(5, .int y1527426), (4, .ref a1527387), (0, .ref h0), (1, .int u1), (2, .int u2), (3, .int u3)] → W p l e ({ frames := 5, cells := 0, slots := 0, locals := 143 }) s m ([.ref h0, .int u1, .int u2, .int u3] : List Value).toArray below meth c H locs 0 0 (MQ below (QT (po_X11_take kp L f0 h0 u1 u2 u3) G cI cJ cZ cD cR cT A kp L) ([.ref h0, .int u1, .int u2, .int u3] : List Value).toArray s 0 0 A) (F0 m 81 ls [.int y1527435]) := by
            intro y1527435 b1527436 H locs ls hW hF hl
            refine lv_istore (lv' := [(6, .int y1527435), (5, .int y1527426), (4, .ref a1527387), (0, .ref h0), (1, .int u1), (2, .int u2), (3, .int u3)]) hx hb dX11_take_81 hl (by decide) rfl (fun ls hl => ?_)
            refine lv_aload_n hx hb dX11_take_83 rfl (lv_at hl 3 rfl) ?_
            refine fg_RX11_12 E hW rh0 dX11_take_84 (fun a1527438 m1527439 r1527440 => ?_)
            obtain rfl : a1527384 = a1527438 := (((fm_R g1527421 rh0 rfl).trans ((fm_R g1527407 rh0 rfl).trans m1527399))).symm.trans m1527439
            refine fg_RX11_63 E hW r1527386 dX11_take_87 (fun a1527441 m1527442 r1527443 => ?_)
            obtain rfl : a1527401 = a1527441 := (((fm_R g1527421 r1527386 rfl).trans ((fm_R g1527407 r1527386 rfl).trans m1527402))).symm.trans m1527442
            refine fg_RX11_87 E hW r1527403 dX11_take_90 (fun a1527444 m1527445 r1527446 => ?_)
            refine lv_iload_n hx hb dX11_take_93 rfl (lv_at hl 4 rfl) ?_
            refine gl_346 E hW r1527446 ⟨by omega, by omega⟩ dX11_take_94 (fun y1527447 m1527448 => ?_)
            refine q_if_ne (tgt := 116) hx hb dX11_take_95 (by decide) rfl (fun c1527450 => ?_) (fun c1527450 => ?_)
            · refine lv_aload_n hx hb dX11_take_116 rfl (lv_at hl 3 rfl) ?_
              refine lv_bipush (v := (-3)) hx hb dX11_take_117 (by decide) ?_
              refine t_callV (As := [.int (-3)]) (rest := []) E hW (c_X11_refuse l G cI cJ cZ cD cR cT kp L f1527419 hW.2.2.2 _ h0 (-3) rh0 (by decide)) rh0 (by decide) rfl wk_X11_refuse tw_603 rfl ⟨Nat.le_of_ble_eq_true rfl, Nat.le_of_ble_eq_true rfl⟩ ⟨rfl, rfl⟩ hl.1 rfl (Nat.le_of_ble_eq_true rfl) dX11_take_119 ⟨Nat.le_of_ble_eq_true rfl, Nat.le_of_ble_eq_true rfl⟩ (fun v1527451 f1527452 H locs q1527453 hW => ?_)
              obtain ⟨⟨x1527455, rfl, p1527456⟩, g1527454⟩ := q1527453
              have p1527456 : (-6 : Int) ≤ x1527455.toInt ∧ x1527455.toInt ≤ -1 := p1527456
              have hF := FM.tr hF g1527454 rfl
              exact e_I E hW rfl ⟨⟨_, rfl, trivial⟩, hF⟩ dX11_take_122
            · refine lv_aload hx hb dX11_take_98 (lv_at hl 2 rfl) ?_
              refine fg_RX11_154 E hW r1527389 dX11_take_100 (fun a1527457 m1527458 r1527459 => ?_)
              refine lv_iload_n hx hb dX11_take_103 rfl (lv_at hl 5 rfl) ?_
              refine gl_164 E hW r1527459 ⟨by omega, by omega⟩ dX11_take_104 (fun y1527460 m1527461 b1527462 => ?_)
              refine lv_iconst (v := (-1)) hx hb dX11_take_105 (by decide) ?_
              refine q_icmp_ne (Y := -1) (tgt := 116) hx hb dX11_take_106 (by decide) rfl rfl (fun c1527463 => ?_) (fun c1527463 => ?_)
              · refine lv_aload_n hx hb dX11_take_116 rfl (lv_at hl 3 rfl) ?_
                refine lv_bipush (v := (-3)) hx hb dX11_take_117 (by decide) ?_
                refine t_callV (As := [.int (-3)]) (rest := []) E hW (c_X11_refuse l G cI cJ cZ cD cR cT kp L f1527419 hW.2.2.2 _ h0 (-3) rh0 (by decide)) rh0 (by decide) rfl wk_X11_refuse tw_603 rfl ⟨Nat.le_of_ble_eq_true rfl, Nat.le_of_ble_eq_true rfl⟩ ⟨rfl, rfl⟩ hl.1 rfl (Nat.le_of_ble_eq_true rfl) dX11_take_119 ⟨Nat.le_of_ble_eq_true rfl, Nat.le_of_ble_eq_true rfl⟩ (fun v1527464 f1527465 H locs q1527466 hW => ?_)
                obtain ⟨⟨x1527468, rfl, p1527469⟩, g1527467⟩ := q1527466
                have p1527469 : (-6 : Int) ≤ x1527468.toInt ∧ x1527468.toInt ≤ -1 := p1527469
                have hF := FM.tr hF g1527467 rfl
                exact e_I E hW rfl ⟨⟨_, rfl, trivial⟩, hF⟩ dX11_take_122
              · refine lv_iload hx hb dX11_take_109 (lv_at hl 1 rfl) ?_
                refine lv_iload hx hb dX11_take_111 (lv_at hl 0 rfl) ?_
                refine q_icmp_eq (tgt := 123) hx hb dX11_take_113 (by decide) rfl rfl (fun c1527470 => ?_) (fun c1527470 => ?_)
                · refine lv_aload_n hx hb dX11_take_123 rfl (lv_at hl 3 rfl) ?_
                  refine fg_RX11_12 E hW rh0 dX11_take_124 (fun a1527471 m1527472 r1527473 => ?_)
                  obtain rfl : a1527384 = a1527471 := (m1527439).symm.trans m1527472
                  refine t_callV (As := []) (rest := []) E hW (c_X0_lookAtNow l G cI cJ cZ cD cR cT kp L f1527419 hW.2.2.2 _ a1527384 r1527386) r1527386 (by decide) rfl wk_X0_lookAtNow tw_687 rfl ⟨Nat.le_of_ble_eq_true rfl, Nat.le_of_ble_eq_true rfl⟩ ⟨rfl, rfl⟩ hl.1 rfl (Nat.le_of_ble_eq_true rfl) dX11_take_127 ⟨Nat.le_of_ble_eq_true rfl, Nat.le_of_ble_eq_true rfl⟩ (fun v1527474 f1527475 H locs q1527476 hW => ?_)
                  obtain ⟨rfl, g1527477⟩ := q1527476
                  have hF := FM.tr hF g1527477 rfl
                  refine lv_iload hx hb dX11_take_130 (lv_at hl 1 rfl) ?_
                  refine q_if_eq (tgt := 157) hx hb dX11_take_132 (by decide) rfl (fun c1527478 => ?_) (fun c1527478 => ?_)
                  · refine lv_aload_n hx hb dX11_take_157 rfl (lv_at hl 3 rfl) ?_
                    refine fg_RX11_12 E hW rh0 dX11_take_158 (fun a1527479 m1527480 r1527481 => ?_)
                    obtain rfl : a1527384 = a1527479 := (((fm_R g1527477 rh0 rfl).trans m1527472)).symm.trans m1527480
                    refine lv_iload_n hx hb dX11_take_161 rfl (lv_at hl 4 rfl) ?_
                    refine lv_iload_n hx hb dX11_take_162 rfl (lv_at hl 5 rfl) ?_
                    refine lv_iload hx hb dX11_take_163 (lv_at hl 1 rfl) ?_
                    refine q_if_eq (tgt := 172) hx hb dX11_take_165 (by decide) rfl (fun c1527482 => ?_) (fun c1527482 => ?_)
                    · refine lv_iconst (v := 0) hx hb dX11_take_172 (by decide) ?_
                      refine t_callV (As := [.int u1, .int u2, .int 0]) (rest := []) E hW (c_X0_settle l G cI cJ cZ cD cR cT kp L f1527475 hW.2.2.2 _ a1527384 u1 u2 0 r1527386 (by omega) (by omega) (by decide)) r1527386 (by decide) rfl wk_X0_settle tw_667 rfl ⟨Nat.le_of_ble_eq_true rfl, Nat.le_of_ble_eq_true rfl⟩ ⟨rfl, rfl⟩ hl.1 rfl (Nat.le_of_ble_eq_true rfl) dX11_take_173 ⟨Nat.le_of_ble_eq_true rfl, Nat.le_of_ble_eq_true rfl⟩ (fun v1527483 f1527484 H locs q1527485 hW => ?_)
                      obtain ⟨rfl, g1527486⟩ := q1527485
                      have hF := FM.tr hF g1527486 rfl
                      refine lv_aload_n hx hb dX11_take_176 rfl (lv_at hl 3 rfl) ?_
                      refine lv_iconst (v := 0) hx hb dX11_take_177 (by decide) ?_
                      refine t_callV (As := [.int 0]) (rest := []) E hW (c_X11_accept l G cI cJ cZ cD cR cT kp L f1527484 hW.2.2.2 _ h0 0 rh0) rh0 (by decide) rfl wk_X11_accept tw_611 rfl ⟨Nat.le_of_ble_eq_true rfl, Nat.le_of_ble_eq_true rfl⟩ ⟨rfl, rfl⟩ hl.1 rfl (Nat.le_of_ble_eq_true rfl) dX11_take_178 ⟨Nat.le_of_ble_eq_true rfl, Nat.le_of_ble_eq_true rfl⟩ (fun v1527487 f1527488 H locs q1527489 hW => ?_)
                      obtain ⟨⟨x1527491, rfl, p1527492⟩, g1527490⟩ := q1527489
                      clear p1527492
                      have hF := FM.tr hF g1527490 rfl
                      exact e_I E hW rfl ⟨⟨_, rfl, trivial⟩, hF⟩ dX11_take_181
                    · exfalso; omega
                  · refine lv_aload_n hx hb dX11_take_135 rfl (lv_at hl 3 rfl) ?_
                    refine fg_RX11_12 E hW rh0 dX11_take_136 (fun a1527493 m1527494 r1527495 => ?_)
                    obtain rfl : a1527384 = a1527493 := (((fm_R g1527477 rh0 rfl).trans m1527472)).symm.trans m1527494
                    refine lv_sipush (v := 264) hx hb dX11_take_139 (by decide) ?_
                    refine lv_iload_n hx hb dX11_take_142 rfl (lv_at hl 4 rfl) ?_
                    refine lv_iload_n hx hb dX11_take_143 rfl (lv_at hl 5 rfl) ?_
                    refine t_callV (As := [.int 264, .int u1, .int u2]) (rest := []) E hW (c_X0_anyHolds l G cI cJ cZ cD cR cT kp L f1527475 hW.2.2.2 _ a1527384 264 u1 u2 r1527386 (by decide) (by omega) (by omega)) r1527386 (by decide) rfl wk_X0_anyHolds tw_1105 rfl ⟨Nat.le_of_ble_eq_true rfl, Nat.le_of_ble_eq_true rfl⟩ ⟨rfl, rfl⟩ hl.1 rfl (Nat.le_of_ble_eq_true rfl) dX11_take_144 ⟨Nat.le_of_ble_eq_true rfl, Nat.le_of_ble_eq_true rfl⟩ (fun v1527496 f1527497 H locs q1527498 hW => ?_)
                    obtain ⟨⟨x1527500, rfl, p1527501⟩, g1527499⟩ := q1527498
                    have p1527501 : (0 : Int) ≤ x1527500.toInt ∧ x1527500.toInt ≤ 1 := p1527501
                    have hF := FM.tr hF g1527499 rfl
                    refine q_if_ne (tgt := 157) hx hb dX11_take_147 (by decide) rfl (fun c1527502 => ?_) (fun c1527502 => ?_)
                    · refine lv_aload_n hx hb dX11_take_157 rfl (lv_at hl 3 rfl) ?_
                      refine fg_RX11_12 E hW rh0 dX11_take_158 (fun a1527503 m1527504 r1527505 => ?_)
                      obtain rfl : a1527384 = a1527503 := (((fm_R g1527499 rh0 rfl).trans m1527494)).symm.trans m1527504
                      refine lv_iload_n hx hb dX11_take_161 rfl (lv_at hl 4 rfl) ?_
                      refine lv_iload_n hx hb dX11_take_162 rfl (lv_at hl 5 rfl) ?_
                      refine lv_iload hx hb dX11_take_163 (lv_at hl 1 rfl) ?_
                      refine q_if_eq (tgt := 172) hx hb dX11_take_165 (by decide) rfl (fun c1527506 => ?_) (fun c1527506 => ?_)
                      · exfalso; omega
                      · refine lv_iconst (v := 1) hx hb dX11_take_168 (by decide) ?_
                        refine lv_goto (tgt := 173) hx hb dX11_take_169 (by decide) ?_
                        refine t_callV (As := [.int u1, .int u2, .int 1]) (rest := []) E hW (c_X0_settle l G cI cJ cZ cD cR cT kp L f1527497 hW.2.2.2 _ a1527384 u1 u2 1 r1527386 (by omega) (by omega) (by decide)) r1527386 (by decide) rfl wk_X0_settle tw_667 rfl ⟨Nat.le_of_ble_eq_true rfl, Nat.le_of_ble_eq_true rfl⟩ ⟨rfl, rfl⟩ hl.1 rfl (Nat.le_of_ble_eq_true rfl) dX11_take_173 ⟨Nat.le_of_ble_eq_true rfl, Nat.le_of_ble_eq_true rfl⟩ (fun v1527507 f1527508 H locs q1527509 hW => ?_)
                        obtain ⟨rfl, g1527510⟩ := q1527509
                        have hF := FM.tr hF g1527510 rfl
                        refine lv_aload_n hx hb dX11_take_176 rfl (lv_at hl 3 rfl) ?_
                        refine lv_iconst (v := 0) hx hb dX11_take_177 (by decide) ?_
                        refine t_callV (As := [.int 0]) (rest := []) E hW (c_X11_accept l G cI cJ cZ cD cR cT kp L f1527508 hW.2.2.2 _ h0 0 rh0) rh0 (by decide) rfl wk_X11_accept tw_611 rfl ⟨Nat.le_of_ble_eq_true rfl, Nat.le_of_ble_eq_true rfl⟩ ⟨rfl, rfl⟩ hl.1 rfl (Nat.le_of_ble_eq_true rfl) dX11_take_178 ⟨Nat.le_of_ble_eq_true rfl, Nat.le_of_ble_eq_true rfl⟩ (fun v1527511 f1527512 H locs q1527513 hW => ?_)
                        obtain ⟨⟨x1527515, rfl, p1527516⟩, g1527514⟩ := q1527513
                        clear p1527516
                        have hF := FM.tr hF g1527514 rfl
                        exact e_I E hW rfl ⟨⟨_, rfl, trivial⟩, hF⟩ dX11_take_181
                    · refine lv_aload_n hx hb dX11_take_150 rfl (lv_at hl 3 rfl) ?_
                      refine lv_bipush (v := (-3)) hx hb dX11_take_151 (by decide) ?_
                      refine t_callV (As := [.int (-3)]) (rest := []) E hW (c_X11_refuse l G cI cJ cZ cD cR cT kp L f1527497 hW.2.2.2 _ h0 (-3) rh0 (by decide)) rh0 (by decide) rfl wk_X11_refuse tw_603 rfl ⟨Nat.le_of_ble_eq_true rfl, Nat.le_of_ble_eq_true rfl⟩ ⟨rfl, rfl⟩ hl.1 rfl (Nat.le_of_ble_eq_true rfl) dX11_take_153 ⟨Nat.le_of_ble_eq_true rfl, Nat.le_of_ble_eq_true rfl⟩ (fun v1527517 f1527518 H locs q1527519 hW => ?_)
                      obtain ⟨⟨x1527521, rfl, p1527522⟩, g1527520⟩ := q1527519
                      have p1527522 : (-6 : Int) ≤ x1527521.toInt ∧ x1527521.toInt ≤ -1 := p1527522
                      have hF := FM.tr hF g1527520 rfl
                      exact e_I E hW rfl ⟨⟨_, rfl, trivial⟩, hF⟩ dX11_take_156
                · refine lv_aload_n hx hb dX11_take_116 rfl (lv_at hl 3 rfl) ?_
                  refine lv_bipush (v := (-3)) hx hb dX11_take_117 (by decide) ?_
                  refine t_callV (As := [.int (-3)]) (rest := []) E hW (c_X11_refuse l G cI cJ cZ cD cR cT kp L f1527419 hW.2.2.2 _ h0 (-3) rh0 (by decide)) rh0 (by decide) rfl wk_X11_refuse tw_603 rfl ⟨Nat.le_of_ble_eq_true rfl, Nat.le_of_ble_eq_true rfl⟩ ⟨rfl, rfl⟩ hl.1 rfl (Nat.le_of_ble_eq_true rfl) dX11_take_119 ⟨Nat.le_of_ble_eq_true rfl, Nat.le_of_ble_eq_true rfl⟩ (fun v1527523 f1527524 H locs q1527525 hW => ?_)
                  obtain ⟨⟨x1527527, rfl, p1527528⟩, g1527526⟩ := q1527525
                  have p1527528 : (-6 : Int) ≤ x1527527.toInt ∧ x1527527.toInt ≤ -1 := p1527528
                  have hF := FM.tr hF g1527526 rfl
                  exact e_I E hW rfl ⟨⟨_, rfl, trivial⟩, hF⟩ dX11_take_122
          refine q_icmp_ne (Y := 1) (tgt := 80) hx hb dX11_take_73 (by decide) rfl rfl (fun c1527529 => ?_) (fun c1527529 => ?_)
          · refine lv_iconst (v := 0) hx hb dX11_take_80 (by decide) ?_
            exact J1527437 0 (by decide) _ _ _ hW hF (lv_sub hl [0, 1, 2, 3, 4, 5] rfl)
          · refine lv_iconst (v := 1) hx hb dX11_take_76 (by decide) ?_
            refine lv_goto (tgt := 81) hx hb dX11_take_77 (by decide) ?_
            exact J1527437 1 (by decide) _ _ _ hW hF (lv_sub hl [0, 1, 2, 3, 4, 5] rfl)
        refine q_if_ne (tgt := 62) hx hb dX11_take_55 (by decide) rfl (fun c1527530 => ?_) (fun c1527530 => ?_)
        · refine lv_iconst (v := 0) hx hb dX11_take_62 (by decide) ?_
          exact J1527428 0 (by decide) _ _ _ hW hF (lv_sub hl [0, 1, 2, 3, 4] rfl)
        · refine lv_iconst (v := 1) hx hb dX11_take_58 (by decide) ?_
          refine lv_goto (tgt := 63) hx hb dX11_take_59 (by decide) ?_
          exact J1527428 1 (by decide) _ _ _ hW hF (lv_sub hl [0, 1, 2, 3, 4] rfl)
      · clear p1527423
        refine lv_aload_n hx hb dX11_take_47 rfl (lv_at hl 1 rfl) ?_
        refine lv_bipush (v := (-2)) hx hb dX11_take_48 (by decide) ?_
        refine t_callV (As := [.int (-2)]) (rest := []) E hW (c_X11_refuse l G cI cJ cZ cD cR cT kp L f1527419 hW.2.2.2 _ h0 (-2) rh0 (by decide)) rh0 (by decide) rfl wk_X11_refuse tw_603 rfl ⟨Nat.le_of_ble_eq_true rfl, Nat.le_of_ble_eq_true rfl⟩ ⟨rfl, rfl⟩ hl.1 rfl (Nat.le_of_ble_eq_true rfl) dX11_take_50 ⟨Nat.le_of_ble_eq_true rfl, Nat.le_of_ble_eq_true rfl⟩ (fun v1527531 f1527532 H locs q1527533 hW => ?_)
        obtain ⟨⟨x1527535, rfl, p1527536⟩, g1527534⟩ := q1527533
        have p1527536 : (-6 : Int) ≤ x1527535.toInt ∧ x1527535.toInt ≤ -1 := p1527536
        have hF := FM.tr hF g1527534 rfl
        exact e_I E hW rfl ⟨⟨_, rfl, trivial⟩, hF⟩ dX11_take_53
  · have q1527537 : (u3.toInt < 0 ∨ 1 < u3.toInt) := by omega
    clear p1527395
    refine lv_aload_n hx hb dX11_take_18 rfl (lv_at hl 1 rfl) ?_
    refine lv_iconst (v := (-1)) hx hb dX11_take_19 (by decide) ?_
    refine t_callV (As := [.int (-1)]) (rest := []) E hW (c_X11_refuse l G cI cJ cZ cD cR cT kp L f1527391 hW.2.2.2 _ h0 (-1) rh0 (by decide)) rh0 (by decide) rfl wk_X11_refuse tw_603 rfl ⟨Nat.le_of_ble_eq_true rfl, Nat.le_of_ble_eq_true rfl⟩ ⟨rfl, rfl⟩ hl.1 rfl (Nat.le_of_ble_eq_true rfl) dX11_take_20 ⟨Nat.le_of_ble_eq_true rfl, Nat.le_of_ble_eq_true rfl⟩ (fun v1527538 f1527539 H locs q1527540 hW => ?_)
    obtain ⟨⟨x1527542, rfl, p1527543⟩, g1527541⟩ := q1527540
    have p1527543 : (-6 : Int) ≤ x1527542.toInt ∧ x1527542.toInt ≤ -1 := p1527543
    have hF := FM.tr hF g1527541 rfl
    exact e_I E hW rfl ⟨⟨_, rfl, trivial⟩, hF⟩ dX11_take_23
def ms_X11_tells : List (Nat × Nat) := [(0, 14), (115, 0), (222, 0), (223, 0)]
def po_X11_tells (kp : Nat → Nat) (L : List Nat) (f0 : Nat → va_E) (h0 : Nat) (u1 : Int32) (u2 : Int32) : Option Value → (Nat → va_E) → Prop := fun v f => (∃ r : Int32, v = some (.int r) ∧ (True)) ∧ FM kp L ms_X11_tells f0 f
set_option maxHeartbeats 4000000 in
set_option maxRecDepth 100000 in
theorem c_X11_tells (l : Launch) (G : va_G) (cI cJ cZ cD cR cT : ClassId) (kp : Nat → Nat) (L : List Nat) (f0 : Nat → va_E) (hTH : TH cI cJ cZ cD cR cT kp L f0) (sz : Nat) (h0 : Nat) (u1 : Int32) (u2 : Int32) (rh0 : RK kp L h0 11) : Met l yX11_tells (Cond.code yX11_tells cX11_tells 4 (some .int) :: wTab) ({ frames := 6, cells := 0, slots := 0, locals := 165 }) (va_Pc [.ref h0, .int u1, .int u2] (PreW G (tys6 cI cJ cZ cD cR cT) (va_pl L f0) sz)) (QT (po_X11_tells kp L f0 h0 u1 u2) G cI cJ cZ cD cR cT (va_A (va_pl L f0) sz) kp L) 0 0 (va_A (va_pl L f0) sz) := by
  refine metT (by decide) (Nat.le_of_ble_eq_true rfl) hTH ?_
  intro p e s m below meth c A ls E hW hl
  obtain ⟨hx, hb, -, hml, hown, hts, -, -, -⟩ := id E
  have hF : FM kp L ms_X11_tells f0 f0 := FM.rf
  have hl : lv_has ls 4 [(0, .ref h0), (1, .int u1), (2, .int u2)] := hl
  refine lv_aload_n hx hb dX11_tells_0 rfl (lv_at hl 0 rfl) ?_
  refine fg_RX11_12 E hW rh0 dX11_tells_1 (fun a1527544 m1527545 r1527546 => ?_)
  refine fg_RX11_114 E hW r1527546 dX11_tells_4 (fun a1527547 m1527548 r1527549 => ?_)
  refine lv_astore_n (lv' := [(3, .ref a1527547), (0, .ref h0), (1, .int u1), (2, .int u2)]) hx hb dX11_tells_7 rfl hl (by decide) rfl (fun ls hl => ?_)
  refine lv_aload_n hx hb dX11_tells_8 rfl (lv_at hl 0 rfl) ?_
  refine lv_iload_n hx hb dX11_tells_9 rfl (lv_at hl 2 rfl) ?_
  refine t_callV (As := [.int u1]) (rest := []) E hW (c_X1_has l G cI cJ cZ cD cR cT kp L f0 hW.2.2.2 _ a1527547 u1 r1527549) r1527549 (by decide) rfl wk_X1_has tw_683 rfl ⟨Nat.le_of_ble_eq_true rfl, Nat.le_of_ble_eq_true rfl⟩ ⟨rfl, rfl⟩ hl.1 rfl (Nat.le_of_ble_eq_true rfl) dX11_tells_10 ⟨Nat.le_of_ble_eq_true rfl, Nat.le_of_ble_eq_true rfl⟩ (fun v1527550 f1527551 H locs q1527552 hW => ?_)
  obtain ⟨⟨x1527554, rfl, p1527555⟩, g1527553⟩ := q1527552
  have hF := FM.tr hF g1527553 rfl
  refine q_if_ne (tgt := 18) hx hb dX11_tells_13 (by decide) rfl (fun c1527556 => ?_) (fun c1527556 => ?_)
  · have q1527557 : 0 ≤ u1.toInt ∧ u1.toInt ≤ 39 := by omega
    clear p1527555
    refine lv_aload_n hx hb dX11_tells_18 rfl (lv_at hl 1 rfl) ?_
    refine fg_RX11_12 E hW rh0 dX11_tells_19 (fun a1527558 m1527559 r1527560 => ?_)
    obtain rfl : a1527544 = a1527558 := (((fm_R g1527553 rh0 rfl).trans m1527545)).symm.trans m1527559
    refine t_callV (As := []) (rest := []) E hW (c_X0_lookAtNow l G cI cJ cZ cD cR cT kp L f1527551 hW.2.2.2 _ a1527544 r1527546) r1527546 (by decide) rfl wk_X0_lookAtNow tw_687 rfl ⟨Nat.le_of_ble_eq_true rfl, Nat.le_of_ble_eq_true rfl⟩ ⟨rfl, rfl⟩ hl.1 rfl (Nat.le_of_ble_eq_true rfl) dX11_tells_22 ⟨Nat.le_of_ble_eq_true rfl, Nat.le_of_ble_eq_true rfl⟩ (fun v1527561 f1527562 H locs q1527563 hW => ?_)
    obtain ⟨rfl, g1527564⟩ := q1527563
    have hF := FM.tr hF g1527564 rfl
    refine lv_iload_n hx hb dX11_tells_25 rfl (lv_at hl 3 rfl) ?_
    by_cases c1527565 : u2.toInt = 0
    · refine lv_tableIn (tgt := 72) hx hb dX11_tells_26 (by omega) (by omega) (by rw [c1527565]; rfl) (by decide) ?_
      refine lv_aload_n hx hb dX11_tells_72 rfl (lv_at hl 0 rfl) ?_
      refine fg_RX11_154 E hW r1527549 dX11_tells_73 (fun a1527566 m1527567 r1527568 => ?_)
      refine lv_iload_n hx hb dX11_tells_76 rfl (lv_at hl 2 rfl) ?_
      refine gl_164 E hW r1527568 ⟨by omega, by omega⟩ dX11_tells_77 (fun y1527569 m1527570 b1527571 => ?_)
      exact e_I E hW rfl ⟨⟨_, rfl, trivial⟩, hF⟩ dX11_tells_78
    by_cases c1527572 : u2.toInt = 1
    · refine lv_tableIn (tgt := 79) hx hb dX11_tells_26 (by omega) (by omega) (by rw [c1527572]; rfl) (by decide) ?_
      refine lv_aload_n hx hb dX11_tells_79 rfl (lv_at hl 0 rfl) ?_
      refine fg_RX11_157 E hW r1527549 dX11_tells_80 (fun a1527573 m1527574 r1527575 => ?_)
      refine lv_iload_n hx hb dX11_tells_83 rfl (lv_at hl 2 rfl) ?_
      refine gl_163 E hW r1527575 ⟨by omega, by omega⟩ dX11_tells_84 (fun y1527576 m1527577 => ?_)
      exact e_I E hW rfl ⟨⟨_, rfl, trivial⟩, hF⟩ dX11_tells_85
    by_cases c1527579 : u2.toInt = 2
    · refine lv_tableIn (tgt := 86) hx hb dX11_tells_26 (by omega) (by omega) (by rw [c1527579]; rfl) (by decide) ?_
      refine lv_aload_n hx hb dX11_tells_86 rfl (lv_at hl 0 rfl) ?_
      refine fg_RX11_160 E hW r1527549 dX11_tells_87 (fun a1527580 m1527581 r1527582 => ?_)
      refine lv_iload_n hx hb dX11_tells_90 rfl (lv_at hl 2 rfl) ?_
      refine gl_165 E hW r1527582 ⟨by omega, by omega⟩ dX11_tells_91 (fun y1527583 m1527584 => ?_)
      exact e_I E hW rfl ⟨⟨_, rfl, trivial⟩, hF⟩ dX11_tells_92
    by_cases c1527586 : u2.toInt = 3
    · refine lv_tableIn (tgt := 93) hx hb dX11_tells_26 (by omega) (by omega) (by rw [c1527586]; rfl) (by decide) ?_
      refine lv_aload_n hx hb dX11_tells_93 rfl (lv_at hl 0 rfl) ?_
      refine fg_RX11_154 E hW r1527549 dX11_tells_94 (fun a1527587 m1527588 r1527589 => ?_)
      refine lv_iload_n hx hb dX11_tells_97 rfl (lv_at hl 2 rfl) ?_
      refine gl_164 E hW r1527589 ⟨by omega, by omega⟩ dX11_tells_98 (fun y1527590 m1527591 b1527592 => ?_)
      refine lv_iconst (v := (-1)) hx hb dX11_tells_99 (by decide) ?_
      have J1527608 : ∀ (f1527602 : Nat → va_E) (y1527606 : Int32) (m1527603 : oR (f1527602 a1527544) 1 = a1527547) (m1527604 : oR (f1527602 a1527547) 4 = a1527587) (m1527605 : oR (f1527602 h0) 0 = a1527544) (b1527607 : (-1 : Int) ≤ y1527606.toInt) (H : Heap) (locs : List Loc) (ls : Array Slot), WS G cI cJ cZ cD cR cT A kp L f1527602 s H locs → FM kp L ms_X11_tells f0 f1527602 → lv_has ls 4 [(3, .ref a1527547), (0, .ref h0), (1, .int u1), (2, .int u2)] → W p l e ({ frames := 6, cells := 0, slots := 0, locals := 165 }) s m ([.ref h0, .int u1, .int u2] : List Value).toArray below meth c H locs 0 0 (MQ below (QT (po_X11_tells kp L f0 h0 u1 u2) G cI cJ cZ cD cR cT A kp L) ([.ref h0, .int u1, .int u2] : List Value).toArray s 0 0 A) (F0 m 115 ls [.int y1527606]) := by
        intro f1527602 y1527606 m1527603 m1527604 m1527605 b1527607 H locs ls hW hF hl
        clear c1527556 b1527592
        exact e_I E hW rfl ⟨⟨_, rfl, trivial⟩, hF⟩ dX11_tells_115
      refine q_icmp_ne (Y := -1) (tgt := 107) hx hb dX11_tells_100 (by decide) rfl rfl (fun c1527609 => ?_) (fun c1527609 => ?_)
      · refine lv_aload_n hx hb dX11_tells_107 rfl (lv_at hl 1 rfl) ?_
        refine fg_RX11_12 E hW rh0 dX11_tells_108 (fun a1527610 m1527611 r1527612 => ?_)
        obtain rfl : a1527544 = a1527610 := (((fm_R g1527564 rh0 rfl).trans m1527559)).symm.trans m1527611
        refine lv_iload_n hx hb dX11_tells_111 rfl (lv_at hl 2 rfl) ?_
        refine t_callV (As := [.int u1]) (rest := []) E hW (c_X0_fairOf l G cI cJ cZ cD cR cT kp L f1527562 hW.2.2.2 _ a1527544 u1 r1527546 (by omega)) r1527546 (by decide) rfl wk_X0_fairOf tw_705 rfl ⟨Nat.le_of_ble_eq_true rfl, Nat.le_of_ble_eq_true rfl⟩ ⟨rfl, rfl⟩ hl.1 rfl (Nat.le_of_ble_eq_true rfl) dX11_tells_112 ⟨Nat.le_of_ble_eq_true rfl, Nat.le_of_ble_eq_true rfl⟩ (fun v1527613 f1527614 H locs q1527615 hW => ?_)
        obtain ⟨⟨x1527617, rfl, p1527618⟩, g1527616⟩ := q1527615
        have hF := FM.tr hF g1527616 rfl
        exact J1527608 f1527614 x1527617 ((fm_R g1527616 r1527546 rfl).trans ((fm_R g1527564 r1527546 rfl).trans ((fm_R g1527553 r1527546 rfl).trans m1527548))) ((fm_R g1527616 r1527549 rfl).trans m1527588) ((fm_R g1527616 rh0 rfl).trans m1527611) (by omega) _ _ _ hW hF (lv_sub hl [0, 1, 2, 3] rfl)
      · refine lv_iconst (v := (-1)) hx hb dX11_tells_103 (by decide) ?_
        refine lv_goto (tgt := 115) hx hb dX11_tells_104 (by decide) ?_
        exact J1527608 f1527562 (-1) ((fm_R g1527564 r1527546 rfl).trans ((fm_R g1527553 r1527546 rfl).trans m1527548)) m1527588 ((fm_R g1527564 rh0 rfl).trans m1527559) (by decide) _ _ _ hW hF (lv_sub hl [0, 1, 2, 3] rfl)
    by_cases c1527619 : u2.toInt = 4
    · refine lv_tableIn (tgt := 116) hx hb dX11_tells_26 (by omega) (by omega) (by rw [c1527619]; rfl) (by decide) ?_
      refine lv_aload_n hx hb dX11_tells_116 rfl (lv_at hl 1 rfl) ?_
      refine fg_RX11_12 E hW rh0 dX11_tells_117 (fun a1527620 m1527621 r1527622 => ?_)
      obtain rfl : a1527544 = a1527620 := (((fm_R g1527564 rh0 rfl).trans m1527559)).symm.trans m1527621
      refine lv_aload_n hx hb dX11_tells_120 rfl (lv_at hl 0 rfl) ?_
      refine fg_RX11_154 E hW r1527549 dX11_tells_121 (fun a1527623 m1527624 r1527625 => ?_)
      refine lv_iload_n hx hb dX11_tells_124 rfl (lv_at hl 2 rfl) ?_
      refine gl_164 E hW r1527625 ⟨by omega, by omega⟩ dX11_tells_125 (fun y1527626 m1527627 b1527628 => ?_)
      refine lv_iload_n hx hb dX11_tells_126 rfl (lv_at hl 2 rfl) ?_
      refine t_callV (As := [.int y1527626, .int u1]) (rest := []) E hW (c_X0_keepsFor l G cI cJ cZ cD cR cT kp L f1527562 hW.2.2.2 _ a1527544 y1527626 u1 r1527546 (by omega) (by omega)) r1527546 (by decide) rfl wk_X0_keepsFor tw_748 rfl ⟨Nat.le_of_ble_eq_true rfl, Nat.le_of_ble_eq_true rfl⟩ ⟨rfl, rfl⟩ hl.1 rfl (Nat.le_of_ble_eq_true rfl) dX11_tells_127 ⟨Nat.le_of_ble_eq_true rfl, Nat.le_of_ble_eq_true rfl⟩ (fun v1527629 f1527630 H locs q1527631 hW => ?_)
      obtain ⟨⟨x1527633, rfl, p1527634⟩, g1527632⟩ := q1527631
      have hF := FM.tr hF g1527632 rfl
      have J1527637 : ∀ (y1527635 : Int32) (b1527636 : (0 : Int) ≤ y1527635.toInt ∧ y1527635.toInt ≤ 1) (H : Heap) (locs : List Loc) (ls : Array Slot), WS G cI cJ cZ cD cR cT A kp L f1527630 s H locs → FM kp L ms_X11_tells f0 f1527630 → lv_has ls 4 [(3, .ref a1527547), (0, .ref h0), (1, .int u1), (2, .int u2)] → W p l e ({ frames := 6, cells := 0, slots := 0, locals := 165 }) s m ([.ref h0, .int u1, .int u2] : List Value).toArray below meth c H locs 0 0 (MQ below (QT (po_X11_tells kp L f0 h0 u1 u2) G cI cJ cZ cD cR cT A kp L) ([.ref h0, .int u1, .int u2] : List Value).toArray s 0 0 A) (F0 m 138 ls [.int y1527635]) := by
        intro y1527635 b1527636 H locs ls hW hF hl
        clear c1527556 p1527634
        exact e_I E hW rfl ⟨⟨_, rfl, trivial⟩, hF⟩ dX11_tells_138
      refine q_if_eq (tgt := 137) hx hb dX11_tells_130 (by decide) rfl (fun c1527638 => ?_) (fun c1527638 => ?_)
      · refine lv_iconst (v := 0) hx hb dX11_tells_137 (by decide) ?_
        exact J1527637 0 (by decide) _ _ _ hW hF (lv_sub hl [0, 1, 2, 3] rfl)
      · refine lv_iconst (v := 1) hx hb dX11_tells_133 (by decide) ?_
        refine lv_goto (tgt := 138) hx hb dX11_tells_134 (by decide) ?_
        exact J1527637 1 (by decide) _ _ _ hW hF (lv_sub hl [0, 1, 2, 3] rfl)
    by_cases c1527639 : u2.toInt = 5
    · refine lv_tableIn (tgt := 139) hx hb dX11_tells_26 (by omega) (by omega) (by rw [c1527639]; rfl) (by decide) ?_
      refine lv_aload_n hx hb dX11_tells_139 rfl (lv_at hl 1 rfl) ?_
      refine fg_RX11_12 E hW rh0 dX11_tells_140 (fun a1527640 m1527641 r1527642 => ?_)
      obtain rfl : a1527544 = a1527640 := (((fm_R g1527564 rh0 rfl).trans m1527559)).symm.trans m1527641
      refine fg_RX11_170 E hW r1527546 dX11_tells_143 (fun a1527643 m1527644 r1527645 => ?_)
      refine lv_iload_n hx hb dX11_tells_146 rfl (lv_at hl 2 rfl) ?_
      refine t_callV (As := [.int u1]) (rest := []) E hW (c_X10_stepOf l G cI cJ cZ cD cR cT kp L f1527562 hW.2.2.2 _ a1527643 u1 r1527645 (by omega)) r1527645 (by decide) rfl wk_X10_stepOf tw_756 rfl ⟨Nat.le_of_ble_eq_true rfl, Nat.le_of_ble_eq_true rfl⟩ ⟨rfl, rfl⟩ hl.1 rfl (Nat.le_of_ble_eq_true rfl) dX11_tells_147 ⟨Nat.le_of_ble_eq_true rfl, Nat.le_of_ble_eq_true rfl⟩ (fun v1527646 f1527647 H locs q1527648 hW => ?_)
      obtain ⟨⟨x1527650, rfl, p1527651⟩, g1527649⟩ := q1527648
      clear p1527651
      have hF := FM.tr hF g1527649 rfl
      exact e_I E hW rfl ⟨⟨_, rfl, trivial⟩, hF⟩ dX11_tells_150
    by_cases c1527652 : u2.toInt = 6
    · refine lv_tableIn (tgt := 151) hx hb dX11_tells_26 (by omega) (by omega) (by rw [c1527652]; rfl) (by decide) ?_
      refine lv_aload_n hx hb dX11_tells_151 rfl (lv_at hl 1 rfl) ?_
      refine fg_RX11_12 E hW rh0 dX11_tells_152 (fun a1527653 m1527654 r1527655 => ?_)
      obtain rfl : a1527544 = a1527653 := (((fm_R g1527564 rh0 rfl).trans m1527559)).symm.trans m1527654
      refine fg_RX11_170 E hW r1527546 dX11_tells_155 (fun a1527656 m1527657 r1527658 => ?_)
      refine lv_iload_n hx hb dX11_tells_158 rfl (lv_at hl 2 rfl) ?_
      refine t_callV (As := [.int u1]) (rest := []) E hW (c_X10_leftOf l G cI cJ cZ cD cR cT kp L f1527562 hW.2.2.2 _ a1527656 u1 r1527658 (by omega)) r1527658 (by decide) rfl wk_X10_leftOf tw_764 rfl ⟨Nat.le_of_ble_eq_true rfl, Nat.le_of_ble_eq_true rfl⟩ ⟨rfl, rfl⟩ hl.1 rfl (Nat.le_of_ble_eq_true rfl) dX11_tells_159 ⟨Nat.le_of_ble_eq_true rfl, Nat.le_of_ble_eq_true rfl⟩ (fun v1527659 f1527660 H locs q1527661 hW => ?_)
      obtain ⟨⟨x1527663, rfl, p1527664⟩, g1527662⟩ := q1527661
      clear p1527664
      have hF := FM.tr hF g1527662 rfl
      exact e_I E hW rfl ⟨⟨_, rfl, trivial⟩, hF⟩ dX11_tells_162
    by_cases c1527665 : u2.toInt = 7
    · refine lv_tableIn (tgt := 163) hx hb dX11_tells_26 (by omega) (by omega) (by rw [c1527665]; rfl) (by decide) ?_
      refine lv_aload_n hx hb dX11_tells_163 rfl (lv_at hl 0 rfl) ?_
      refine fg_RX11_182 E hW r1527549 dX11_tells_164 (fun a1527666 m1527667 r1527668 => ?_)
      refine lv_iload_n hx hb dX11_tells_167 rfl (lv_at hl 2 rfl) ?_
      refine gl_167 E hW r1527668 ⟨by omega, by omega⟩ dX11_tells_168 (fun y1527669 m1527670 => ?_)
      exact e_I E hW rfl ⟨⟨_, rfl, trivial⟩, hF⟩ dX11_tells_169
    refine lv_tableOut (tgt := 170) hx hb dX11_tells_26 (by omega) (by decide) ?_
    refine lv_iconst (v := (-1)) hx hb dX11_tells_170 (by decide) ?_
    exact e_I E hW rfl ⟨⟨_, rfl, trivial⟩, hF⟩ dX11_tells_171
  · clear p1527555
    refine lv_iconst (v := (-1)) hx hb dX11_tells_16 (by decide) ?_
    exact e_I E hW rfl ⟨⟨_, rfl, trivial⟩, hF⟩ dX11_tells_17
def ms_X11_wish : List (Nat × Nat) := [(11, 9), (11, 15), (768, 0)]
def po_X11_wish (kp : Nat → Nat) (L : List Nat) (f0 : Nat → va_E) (h0 : Nat) (u1 : Int32) : Option Value → (Nat → va_E) → Prop := fun v f => (∃ r : Int32, v = some (.int r) ∧ (True)) ∧ FM kp L ms_X11_wish f0 f
set_option maxHeartbeats 4000000 in
set_option maxRecDepth 100000 in
theorem c_X11_wish (l : Launch) (G : va_G) (cI cJ cZ cD cR cT : ClassId) (kp : Nat → Nat) (L : List Nat) (f0 : Nat → va_E) (hTH : TH cI cJ cZ cD cR cT kp L f0) (sz : Nat) (h0 : Nat) (u1 : Int32) (rh0 : RK kp L h0 11) : Met l yX11_wish (Cond.code yX11_wish cX11_wish 2 (some .int) :: wTab) ({ frames := 2, cells := 0, slots := 0, locals := 62 }) (va_Pc [.ref h0, .int u1] (PreW G (tys6 cI cJ cZ cD cR cT) (va_pl L f0) sz)) (QT (po_X11_wish kp L f0 h0 u1) G cI cJ cZ cD cR cT (va_A (va_pl L f0) sz) kp L) 0 0 (va_A (va_pl L f0) sz) := by
  refine metT (by decide) (Nat.le_of_ble_eq_true rfl) hTH ?_
  intro p e s m below meth c A ls E hW hl
  obtain ⟨hx, hb, -, hml, hown, hts, -, -, -⟩ := id E
  have hF : FM kp L ms_X11_wish f0 f0 := FM.rf
  have hl : lv_has ls 2 [(0, .ref h0), (1, .int u1)] := hl
  refine lv_aload_n hx hb dX11_wish_0 rfl (lv_at hl 0 rfl) ?_
  refine fg_RX11_12 E hW rh0 dX11_wish_1 (fun a1527672 m1527673 r1527674 => ?_)
  refine fg_RX11_114 E hW r1527674 dX11_wish_4 (fun a1527675 m1527676 r1527677 => ?_)
  refine lv_iload_n hx hb dX11_wish_7 rfl (lv_at hl 1 rfl) ?_
  refine t_callV (As := [.int u1]) (rest := []) E hW (c_X1_has l G cI cJ cZ cD cR cT kp L f0 hW.2.2.2 _ a1527675 u1 r1527677) r1527677 (by decide) rfl wk_X1_has tw_683 rfl ⟨Nat.le_of_ble_eq_true rfl, Nat.le_of_ble_eq_true rfl⟩ ⟨rfl, rfl⟩ hl.1 rfl (Nat.le_of_ble_eq_true rfl) dX11_wish_8 ⟨Nat.le_of_ble_eq_true rfl, Nat.le_of_ble_eq_true rfl⟩ (fun v1527678 f1527679 H locs q1527680 hW => ?_)
  obtain ⟨⟨x1527682, rfl, p1527683⟩, g1527681⟩ := q1527680
  have hF := FM.tr hF g1527681 rfl
  refine q_if_ne (tgt := 21) hx hb dX11_wish_11 (by decide) rfl (fun c1527684 => ?_) (fun c1527684 => ?_)
  · have q1527685 : 0 ≤ u1.toInt ∧ u1.toInt ≤ 39 := by omega
    clear p1527683
    refine lv_aload_n hx hb dX11_wish_21 rfl (lv_at hl 0 rfl) ?_
    refine fg_RX11_12 E hW rh0 dX11_wish_22 (fun a1527686 m1527687 r1527688 => ?_)
    obtain rfl : a1527672 = a1527686 := (((fm_R g1527681 rh0 rfl).trans m1527673)).symm.trans m1527687
    refine fg_RX11_114 E hW r1527674 dX11_wish_25 (fun a1527689 m1527690 r1527691 => ?_)
    obtain rfl : a1527675 = a1527689 := (((fm_R g1527681 r1527674 rfl).trans m1527676)).symm.trans m1527690
    refine fg_RX11_154 E hW r1527677 dX11_wish_28 (fun a1527692 m1527693 r1527694 => ?_)
    refine lv_iload_n hx hb dX11_wish_31 rfl (lv_at hl 1 rfl) ?_
    refine gl_164 E hW r1527694 ⟨by omega, by omega⟩ dX11_wish_32 (fun y1527695 m1527696 b1527697 => ?_)
    refine lv_iconst (v := (-1)) hx hb dX11_wish_33 (by decide) ?_
    refine q_icmp_ne (Y := -1) (tgt := 44) hx hb dX11_wish_34 (by decide) rfl rfl (fun c1527698 => ?_) (fun c1527698 => ?_)
    · refine lv_aload_n hx hb dX11_wish_44 rfl (lv_at hl 0 rfl) ?_
      refine lv_iload_n hx hb dX11_wish_45 rfl (lv_at hl 1 rfl) ?_
      refine t_callV (As := [.int u1]) (rest := []) E hW (c_X11_isWished l G cI cJ cZ cD cR cT kp L f1527679 hW.2.2.2 _ h0 u1 rh0 (by omega)) rh0 (by decide) rfl wk_X11_isWished tw_1256 rfl ⟨Nat.le_of_ble_eq_true rfl, Nat.le_of_ble_eq_true rfl⟩ ⟨rfl, rfl⟩ hl.1 rfl (Nat.le_of_ble_eq_true rfl) dX11_wish_46 ⟨Nat.le_of_ble_eq_true rfl, Nat.le_of_ble_eq_true rfl⟩ (fun v1527699 f1527700 H locs q1527701 hW => ?_)
      obtain ⟨⟨x1527703, rfl, p1527704⟩, g1527702⟩ := q1527701
      have hF := FM.tr hF g1527702 rfl
      refine q_if_eq (tgt := 59) hx hb dX11_wish_49 (by decide) rfl (fun c1527705 => ?_) (fun c1527705 => ?_)
      · refine lv_aload_n hx hb dX11_wish_59 rfl (lv_at hl 0 rfl) ?_
        refine fg_RX11_309 E hW rh0 dX11_wish_60 (fun y1527706 m1527707 b1527708 => ?_)
        refine lv_bipush (v := 6) hx hb dX11_wish_63 (by decide) ?_
        refine q_icmp_lt (Y := 6) (tgt := 75) hx hb dX11_wish_65 (by decide) rfl rfl (fun c1527709 => ?_) (fun c1527709 => ?_)
        · refine lv_aload_n hx hb dX11_wish_75 rfl (lv_at hl 0 rfl) ?_
          refine fg_RX11_41 E hW rh0 dX11_wish_76 (fun a1527710 m1527711 r1527712 => ?_)
          refine lv_aload_n hx hb dX11_wish_79 rfl (lv_at hl 0 rfl) ?_
          refine fg_RX11_309 E hW rh0 dX11_wish_80 (fun y1527713 m1527714 b1527715 => ?_)
          obtain rfl : y1527706 = y1527713 := (m1527707).symm.trans m1527714
          refine lv_iload_n hx hb dX11_wish_83 rfl (lv_at hl 1 rfl) ?_
          refine gs_768 E hW r1527712 ⟨by omega, by omega⟩ (by omega) dX11_wish_84 (fun f1527716 H locs e1527717 n1527718 g1527719 hW => ?_)
          have hF := FM.tr hF g1527719 rfl
          refine lv_aload_n hx hb dX11_wish_85 rfl (lv_at hl 0 rfl) ?_
          refine lv_dup hx hb dX11_wish_86 rfl ?_
          refine fg_RX11_309 E hW rh0 dX11_wish_87 (fun y1527720 m1527721 b1527722 => ?_)
          obtain rfl : y1527706 = y1527720 := (((fm_I g1527719 rh0 rfl).trans m1527714)).symm.trans m1527721
          refine lv_iconst (v := 1) hx hb dX11_wish_90 (by decide) ?_
          refine q_iadd (Y := 1) hx hb dX11_wish_91 rfl rfl (by omega) (fun x1527723 h1527724 => ?_)
          refine fp_RX11_309 E hW rh0 (by omega) dX11_wish_92 (fun f1527725 H locs e1527726 n1527727 g1527728 hW => ?_)
          have hF := FM.tr hF g1527728 rfl
          refine lv_aload_n hx hb dX11_wish_95 rfl (lv_at hl 0 rfl) ?_
          refine lv_aload_n hx hb dX11_wish_96 rfl (lv_at hl 0 rfl) ?_
          refine fg_RX11_309 E hW rh0 dX11_wish_97 (fun y1527729 m1527730 b1527731 => ?_)
          obtain rfl : x1527723 = y1527729 := (e1527726).symm.trans m1527730
          refine t_callV (As := [.int x1527723]) (rest := []) E hW (c_X11_accept l G cI cJ cZ cD cR cT kp L f1527725 hW.2.2.2 _ h0 x1527723 rh0) rh0 (by decide) rfl wk_X11_accept tw_611 rfl ⟨Nat.le_of_ble_eq_true rfl, Nat.le_of_ble_eq_true rfl⟩ ⟨rfl, rfl⟩ hl.1 rfl (Nat.le_of_ble_eq_true rfl) dX11_wish_100 ⟨Nat.le_of_ble_eq_true rfl, Nat.le_of_ble_eq_true rfl⟩ (fun v1527732 f1527733 H locs q1527734 hW => ?_)
          obtain ⟨⟨x1527736, rfl, p1527737⟩, g1527735⟩ := q1527734
          clear p1527737
          have hF := FM.tr hF g1527735 rfl
          exact e_I E hW rfl ⟨⟨_, rfl, trivial⟩, hF⟩ dX11_wish_103
        · refine lv_aload_n hx hb dX11_wish_68 rfl (lv_at hl 0 rfl) ?_
          refine lv_bipush (v := (-5)) hx hb dX11_wish_69 (by decide) ?_
          refine t_callV (As := [.int (-5)]) (rest := []) E hW (c_X11_refuse l G cI cJ cZ cD cR cT kp L f1527700 hW.2.2.2 _ h0 (-5) rh0 (by decide)) rh0 (by decide) rfl wk_X11_refuse tw_603 rfl ⟨Nat.le_of_ble_eq_true rfl, Nat.le_of_ble_eq_true rfl⟩ ⟨rfl, rfl⟩ hl.1 rfl (Nat.le_of_ble_eq_true rfl) dX11_wish_71 ⟨Nat.le_of_ble_eq_true rfl, Nat.le_of_ble_eq_true rfl⟩ (fun v1527738 f1527739 H locs q1527740 hW => ?_)
          obtain ⟨⟨x1527742, rfl, p1527743⟩, g1527741⟩ := q1527740
          have p1527743 : (-6 : Int) ≤ x1527742.toInt ∧ x1527742.toInt ≤ -1 := p1527743
          have hF := FM.tr hF g1527741 rfl
          exact e_I E hW rfl ⟨⟨_, rfl, trivial⟩, hF⟩ dX11_wish_74
      · refine lv_aload_n hx hb dX11_wish_52 rfl (lv_at hl 0 rfl) ?_
        refine lv_bipush (v := (-4)) hx hb dX11_wish_53 (by decide) ?_
        refine t_callV (As := [.int (-4)]) (rest := []) E hW (c_X11_refuse l G cI cJ cZ cD cR cT kp L f1527700 hW.2.2.2 _ h0 (-4) rh0 (by decide)) rh0 (by decide) rfl wk_X11_refuse tw_603 rfl ⟨Nat.le_of_ble_eq_true rfl, Nat.le_of_ble_eq_true rfl⟩ ⟨rfl, rfl⟩ hl.1 rfl (Nat.le_of_ble_eq_true rfl) dX11_wish_55 ⟨Nat.le_of_ble_eq_true rfl, Nat.le_of_ble_eq_true rfl⟩ (fun v1527744 f1527745 H locs q1527746 hW => ?_)
        obtain ⟨⟨x1527748, rfl, p1527749⟩, g1527747⟩ := q1527746
        have p1527749 : (-6 : Int) ≤ x1527748.toInt ∧ x1527748.toInt ≤ -1 := p1527749
        have hF := FM.tr hF g1527747 rfl
        exact e_I E hW rfl ⟨⟨_, rfl, trivial⟩, hF⟩ dX11_wish_58
    · refine lv_aload_n hx hb dX11_wish_37 rfl (lv_at hl 0 rfl) ?_
      refine lv_bipush (v := (-3)) hx hb dX11_wish_38 (by decide) ?_
      refine t_callV (As := [.int (-3)]) (rest := []) E hW (c_X11_refuse l G cI cJ cZ cD cR cT kp L f1527679 hW.2.2.2 _ h0 (-3) rh0 (by decide)) rh0 (by decide) rfl wk_X11_refuse tw_603 rfl ⟨Nat.le_of_ble_eq_true rfl, Nat.le_of_ble_eq_true rfl⟩ ⟨rfl, rfl⟩ hl.1 rfl (Nat.le_of_ble_eq_true rfl) dX11_wish_40 ⟨Nat.le_of_ble_eq_true rfl, Nat.le_of_ble_eq_true rfl⟩ (fun v1527750 f1527751 H locs q1527752 hW => ?_)
      obtain ⟨⟨x1527754, rfl, p1527755⟩, g1527753⟩ := q1527752
      have p1527755 : (-6 : Int) ≤ x1527754.toInt ∧ x1527754.toInt ≤ -1 := p1527755
      have hF := FM.tr hF g1527753 rfl
      exact e_I E hW rfl ⟨⟨_, rfl, trivial⟩, hF⟩ dX11_wish_43
  · clear p1527683
    refine lv_aload_n hx hb dX11_wish_14 rfl (lv_at hl 0 rfl) ?_
    refine lv_bipush (v := (-2)) hx hb dX11_wish_15 (by decide) ?_
    refine t_callV (As := [.int (-2)]) (rest := []) E hW (c_X11_refuse l G cI cJ cZ cD cR cT kp L f1527679 hW.2.2.2 _ h0 (-2) rh0 (by decide)) rh0 (by decide) rfl wk_X11_refuse tw_603 rfl ⟨Nat.le_of_ble_eq_true rfl, Nat.le_of_ble_eq_true rfl⟩ ⟨rfl, rfl⟩ hl.1 rfl (Nat.le_of_ble_eq_true rfl) dX11_wish_17 ⟨Nat.le_of_ble_eq_true rfl, Nat.le_of_ble_eq_true rfl⟩ (fun v1527756 f1527757 H locs q1527758 hW => ?_)
    obtain ⟨⟨x1527760, rfl, p1527761⟩, g1527759⟩ := q1527758
    have p1527761 : (-6 : Int) ≤ x1527760.toInt ∧ x1527760.toInt ≤ -1 := p1527761
    have hF := FM.tr hF g1527759 rfl
    exact e_I E hW rfl ⟨⟨_, rfl, trivial⟩, hF⟩ dX11_wish_20
def ms_X11_writ : List (Nat × Nat) := [(0, 14), (10, 0), (11, 15), (222, 0), (223, 0), (701, 0), (702, 0), (703, 0), (704, 0), (705, 0), (706, 0)]
def po_X11_writ (kp : Nat → Nat) (L : List Nat) (f0 : Nat → va_E) (h0 : Nat) (u1 : Int32) : Option Value → (Nat → va_E) → Prop := fun v f => (∃ r : Int32, v = some (.int r) ∧ (True)) ∧ FM kp L ms_X11_writ f0 f
set_option maxHeartbeats 4000000 in
set_option maxRecDepth 100000 in
theorem c_X11_writ (l : Launch) (G : va_G) (cI cJ cZ cD cR cT : ClassId) (kp : Nat → Nat) (L : List Nat) (f0 : Nat → va_E) (hTH : TH cI cJ cZ cD cR cT kp L f0) (sz : Nat) (h0 : Nat) (u1 : Int32) (rh0 : RK kp L h0 11) : Met l yX11_writ (Cond.code yX11_writ cX11_writ 4 (some .int) :: wTab) ({ frames := 4, cells := 0, slots := 0, locals := 108 }) (va_Pc [.ref h0, .int u1] (PreW G (tys6 cI cJ cZ cD cR cT) (va_pl L f0) sz)) (QT (po_X11_writ kp L f0 h0 u1) G cI cJ cZ cD cR cT (va_A (va_pl L f0) sz) kp L) 0 0 (va_A (va_pl L f0) sz) := by
  refine metT (by decide) (Nat.le_of_ble_eq_true rfl) hTH ?_
  intro p e s m below meth c A ls E hW hl
  obtain ⟨hx, hb, -, hml, hown, hts, -, -, -⟩ := id E
  have hF : FM kp L ms_X11_writ f0 f0 := FM.rf
  have hl : lv_has ls 4 [(0, .ref h0), (1, .int u1)] := hl
  refine lv_aload_n hx hb dX11_writ_0 rfl (lv_at hl 0 rfl) ?_
  refine fg_RX11_12 E hW rh0 dX11_writ_1 (fun a1527762 m1527763 r1527764 => ?_)
  refine fg_RX11_114 E hW r1527764 dX11_writ_4 (fun a1527765 m1527766 r1527767 => ?_)
  refine lv_astore_n (lv' := [(2, .ref a1527765), (0, .ref h0), (1, .int u1)]) hx hb dX11_writ_7 rfl hl (by decide) rfl (fun ls hl => ?_)
  refine lv_aload_n hx hb dX11_writ_8 rfl (lv_at hl 1 rfl) ?_
  refine fg_RX11_12 E hW rh0 dX11_writ_9 (fun a1527768 m1527769 r1527770 => ?_)
  obtain rfl : a1527762 = a1527768 := (m1527763).symm.trans m1527769
  refine fg_RX11_170 E hW r1527764 dX11_writ_12 (fun a1527771 m1527772 r1527773 => ?_)
  refine lv_astore_n (lv' := [(3, .ref a1527771), (2, .ref a1527765), (0, .ref h0), (1, .int u1)]) hx hb dX11_writ_15 rfl hl (by decide) rfl (fun ls hl => ?_)
  refine lv_aload_n hx hb dX11_writ_16 rfl (lv_at hl 1 rfl) ?_
  refine lv_iload_n hx hb dX11_writ_17 rfl (lv_at hl 3 rfl) ?_
  refine t_callV (As := [.int u1]) (rest := []) E hW (c_X1_has l G cI cJ cZ cD cR cT kp L f0 hW.2.2.2 _ a1527765 u1 r1527767) r1527767 (by decide) rfl wk_X1_has tw_683 rfl ⟨Nat.le_of_ble_eq_true rfl, Nat.le_of_ble_eq_true rfl⟩ ⟨rfl, rfl⟩ hl.1 rfl (Nat.le_of_ble_eq_true rfl) dX11_writ_18 ⟨Nat.le_of_ble_eq_true rfl, Nat.le_of_ble_eq_true rfl⟩ (fun v1527774 f1527775 H locs q1527776 hW => ?_)
  obtain ⟨⟨x1527778, rfl, p1527779⟩, g1527777⟩ := q1527776
  have hF := FM.tr hF g1527777 rfl
  refine q_if_ne (tgt := 31) hx hb dX11_writ_21 (by decide) rfl (fun c1527780 => ?_) (fun c1527780 => ?_)
  · have q1527781 : 0 ≤ u1.toInt ∧ u1.toInt ≤ 39 := by omega
    clear p1527779
    refine lv_aload_n hx hb dX11_writ_31 rfl (lv_at hl 1 rfl) ?_
    refine fg_RX11_154 E hW r1527767 dX11_writ_32 (fun a1527782 m1527783 r1527784 => ?_)
    refine lv_iload_n hx hb dX11_writ_35 rfl (lv_at hl 3 rfl) ?_
    refine gl_164 E hW r1527784 ⟨by omega, by omega⟩ dX11_writ_36 (fun y1527785 m1527786 b1527787 => ?_)
    refine lv_iconst (v := (-1)) hx hb dX11_writ_37 (by decide) ?_
    refine q_icmp_eq (Y := -1) (tgt := 59) hx hb dX11_writ_38 (by decide) rfl rfl (fun c1527788 => ?_) (fun c1527788 => ?_)
    · refine lv_aload_n hx hb dX11_writ_59 rfl (lv_at hl 2 rfl) ?_
      refine lv_bipush (v := (-3)) hx hb dX11_writ_60 (by decide) ?_
      refine t_callV (As := [.int (-3)]) (rest := []) E hW (c_X11_refuse l G cI cJ cZ cD cR cT kp L f1527775 hW.2.2.2 _ h0 (-3) rh0 (by decide)) rh0 (by decide) rfl wk_X11_refuse tw_603 rfl ⟨Nat.le_of_ble_eq_true rfl, Nat.le_of_ble_eq_true rfl⟩ ⟨rfl, rfl⟩ hl.1 rfl (Nat.le_of_ble_eq_true rfl) dX11_writ_62 ⟨Nat.le_of_ble_eq_true rfl, Nat.le_of_ble_eq_true rfl⟩ (fun v1527789 f1527790 H locs q1527791 hW => ?_)
      obtain ⟨⟨x1527793, rfl, p1527794⟩, g1527792⟩ := q1527791
      have p1527794 : (-6 : Int) ≤ x1527793.toInt ∧ x1527793.toInt ≤ -1 := p1527794
      have hF := FM.tr hF g1527792 rfl
      exact e_I E hW rfl ⟨⟨_, rfl, trivial⟩, hF⟩ dX11_writ_65
    · refine lv_aload_n hx hb dX11_writ_41 rfl (lv_at hl 1 rfl) ?_
      refine fg_RX11_160 E hW r1527767 dX11_writ_42 (fun a1527795 m1527796 r1527797 => ?_)
      refine lv_iload_n hx hb dX11_writ_45 rfl (lv_at hl 3 rfl) ?_
      refine gl_165 E hW r1527797 ⟨by omega, by omega⟩ dX11_writ_46 (fun y1527798 m1527799 => ?_)
      refine q_if_eq (tgt := 59) hx hb dX11_writ_47 (by decide) rfl (fun c1527801 => ?_) (fun c1527801 => ?_)
      · refine lv_aload_n hx hb dX11_writ_59 rfl (lv_at hl 2 rfl) ?_
        refine lv_bipush (v := (-3)) hx hb dX11_writ_60 (by decide) ?_
        refine t_callV (As := [.int (-3)]) (rest := []) E hW (c_X11_refuse l G cI cJ cZ cD cR cT kp L f1527775 hW.2.2.2 _ h0 (-3) rh0 (by decide)) rh0 (by decide) rfl wk_X11_refuse tw_603 rfl ⟨Nat.le_of_ble_eq_true rfl, Nat.le_of_ble_eq_true rfl⟩ ⟨rfl, rfl⟩ hl.1 rfl (Nat.le_of_ble_eq_true rfl) dX11_writ_62 ⟨Nat.le_of_ble_eq_true rfl, Nat.le_of_ble_eq_true rfl⟩ (fun v1527802 f1527803 H locs q1527804 hW => ?_)
        obtain ⟨⟨x1527806, rfl, p1527807⟩, g1527805⟩ := q1527804
        have p1527807 : (-6 : Int) ≤ x1527806.toInt ∧ x1527806.toInt ≤ -1 := p1527807
        have hF := FM.tr hF g1527805 rfl
        exact e_I E hW rfl ⟨⟨_, rfl, trivial⟩, hF⟩ dX11_writ_65
      · refine lv_aload_n hx hb dX11_writ_50 rfl (lv_at hl 0 rfl) ?_
        refine lv_iload_n hx hb dX11_writ_51 rfl (lv_at hl 3 rfl) ?_
        refine t_callV (As := [.int u1]) (rest := []) E hW (c_X10_openOn l G cI cJ cZ cD cR cT kp L f1527775 hW.2.2.2 _ a1527771 u1 r1527773 (by omega)) r1527773 (by decide) rfl wk_X10_openOn tw_1080 rfl ⟨Nat.le_of_ble_eq_true rfl, Nat.le_of_ble_eq_true rfl⟩ ⟨rfl, rfl⟩ hl.1 rfl (Nat.le_of_ble_eq_true rfl) dX11_writ_52 ⟨Nat.le_of_ble_eq_true rfl, Nat.le_of_ble_eq_true rfl⟩ (fun v1527808 f1527809 H locs q1527810 hW => ?_)
        obtain ⟨⟨x1527812, rfl, p1527813⟩, g1527811⟩ := q1527810
        have hF := FM.tr hF g1527811 rfl
        refine lv_iconst (v := (-1)) hx hb dX11_writ_55 (by decide) ?_
        refine q_icmp_eq (Y := -1) (tgt := 66) hx hb dX11_writ_56 (by decide) rfl rfl (fun c1527814 => ?_) (fun c1527814 => ?_)
        · refine lv_aload_n hx hb dX11_writ_66 rfl (lv_at hl 0 rfl) ?_
          refine fg_RX11_251 E hW r1527773 dX11_writ_67 (fun y1527815 m1527816 b1527817 => ?_)
          refine lv_bipush (v := 60) hx hb dX11_writ_70 (by decide) ?_
          refine q_icmp_lt (Y := 60) (tgt := 82) hx hb dX11_writ_72 (by decide) rfl rfl (fun c1527818 => ?_) (fun c1527818 => ?_)
          · refine lv_aload_n hx hb dX11_writ_82 rfl (lv_at hl 2 rfl) ?_
            refine fg_RX11_12 E hW rh0 dX11_writ_83 (fun a1527819 m1527820 r1527821 => ?_)
            obtain rfl : a1527762 = a1527819 := (((fm_R g1527811 rh0 rfl).trans ((fm_R g1527777 rh0 rfl).trans m1527769))).symm.trans m1527820
            refine t_callV (As := []) (rest := []) E hW (c_X0_lookAtNow l G cI cJ cZ cD cR cT kp L f1527809 hW.2.2.2 _ a1527762 r1527764) r1527764 (by decide) rfl wk_X0_lookAtNow tw_687 rfl ⟨Nat.le_of_ble_eq_true rfl, Nat.le_of_ble_eq_true rfl⟩ ⟨rfl, rfl⟩ hl.1 rfl (Nat.le_of_ble_eq_true rfl) dX11_writ_86 ⟨Nat.le_of_ble_eq_true rfl, Nat.le_of_ble_eq_true rfl⟩ (fun v1527822 f1527823 H locs q1527824 hW => ?_)
            obtain ⟨rfl, g1527825⟩ := q1527824
            have hF := FM.tr hF g1527825 rfl
            refine lv_aload_n hx hb dX11_writ_89 rfl (lv_at hl 0 rfl) ?_
            refine lv_iload_n hx hb dX11_writ_90 rfl (lv_at hl 3 rfl) ?_
            refine lv_aload_n hx hb dX11_writ_91 rfl (lv_at hl 1 rfl) ?_
            refine fg_RX11_154 E hW r1527767 dX11_writ_92 (fun a1527826 m1527827 r1527828 => ?_)
            obtain rfl : a1527782 = a1527826 := (((fm_R g1527825 r1527767 rfl).trans ((fm_R g1527811 r1527767 rfl).trans m1527783))).symm.trans m1527827
            refine lv_iload_n hx hb dX11_writ_95 rfl (lv_at hl 3 rfl) ?_
            refine gl_164 E hW r1527784 ⟨by omega, by omega⟩ dX11_writ_96 (fun y1527829 m1527830 b1527831 => ?_)
            obtain rfl : y1527785 = y1527829 := (((congrArg (fun z => aI z (u1 : Int32).toNatClampNeg) (fm_A g1527825 r1527784 (by decide) rfl)).trans ((congrArg (fun z => aI z (u1 : Int32).toNatClampNeg) (fm_A g1527811 r1527784 (by decide) rfl)).trans m1527786))).symm.trans m1527830
            refine lv_aload_n hx hb dX11_writ_97 rfl (lv_at hl 2 rfl) ?_
            refine fg_RX11_12 E hW rh0 dX11_writ_98 (fun a1527832 m1527833 r1527834 => ?_)
            obtain rfl : a1527762 = a1527832 := (((fm_R g1527825 rh0 rfl).trans m1527820)).symm.trans m1527833
            refine fg_RX11_219 E hW r1527764 dX11_writ_101 (fun a1527835 m1527836 r1527837 => ?_)
            refine lv_iconst (v := 0) hx hb dX11_writ_104 (by decide) ?_
            refine t_callV (As := [.int 0]) (rest := [.int y1527785, .int u1, .ref a1527771]) E hW (c_X2_weeksOf l G cI cJ cZ cD cR cT kp L f1527823 hW.2.2.2 _ a1527835 0 r1527837 (by decide)) r1527837 (by decide) rfl wk_X2_weeksOf tw_1081 rfl ⟨Nat.le_of_ble_eq_true rfl, Nat.le_of_ble_eq_true rfl⟩ ⟨rfl, rfl⟩ hl.1 rfl (Nat.le_of_ble_eq_true rfl) dX11_writ_105 ⟨Nat.le_of_ble_eq_true rfl, Nat.le_of_ble_eq_true rfl⟩ (fun v1527838 f1527839 H locs q1527840 hW => ?_)
            obtain ⟨⟨x1527842, rfl, p1527843⟩, g1527841⟩ := q1527840
            clear p1527843
            have hF := FM.tr hF g1527841 rfl
            refine lv_aload_n hx hb dX11_writ_108 rfl (lv_at hl 2 rfl) ?_
            refine fg_RX11_12 E hW rh0 dX11_writ_109 (fun a1527844 m1527845 r1527846 => ?_)
            obtain rfl : a1527762 = a1527844 := (((fm_R g1527841 rh0 rfl).trans m1527833)).symm.trans m1527845
            refine fg_RX11_255 E hW r1527764 dX11_writ_112 (fun y1527847 m1527848 b1527849 => ?_)
            refine t_callV (As := [.int u1, .int y1527785, .int x1527842, .int y1527847]) (rest := []) E hW (c_X10_add l G cI cJ cZ cD cR cT kp L f1527839 hW.2.2.2 _ a1527771 u1 y1527785 x1527842 y1527847 r1527773 (by omega) (by omega) (by omega)) r1527773 (by decide) rfl wk_X10_add tw_1085 rfl ⟨Nat.le_of_ble_eq_true rfl, Nat.le_of_ble_eq_true rfl⟩ ⟨rfl, rfl⟩ hl.1 rfl (Nat.le_of_ble_eq_true rfl) dX11_writ_115 ⟨Nat.le_of_ble_eq_true rfl, Nat.le_of_ble_eq_true rfl⟩ (fun v1527850 f1527851 H locs q1527852 hW => ?_)
            obtain ⟨rfl, g1527853⟩ := q1527852
            have hF := FM.tr hF g1527853 rfl
            refine lv_aload_n hx hb dX11_writ_118 rfl (lv_at hl 2 rfl) ?_
            refine lv_aload_n hx hb dX11_writ_119 rfl (lv_at hl 0 rfl) ?_
            refine fg_RX11_251 E hW r1527773 dX11_writ_120 (fun y1527854 m1527855 b1527856 => ?_)
            refine t_callV (As := [.int y1527854]) (rest := []) E hW (c_X11_accept l G cI cJ cZ cD cR cT kp L f1527851 hW.2.2.2 _ h0 y1527854 rh0) rh0 (by decide) rfl wk_X11_accept tw_611 rfl ⟨Nat.le_of_ble_eq_true rfl, Nat.le_of_ble_eq_true rfl⟩ ⟨rfl, rfl⟩ hl.1 rfl (Nat.le_of_ble_eq_true rfl) dX11_writ_123 ⟨Nat.le_of_ble_eq_true rfl, Nat.le_of_ble_eq_true rfl⟩ (fun v1527857 f1527858 H locs q1527859 hW => ?_)
            obtain ⟨⟨x1527861, rfl, p1527862⟩, g1527860⟩ := q1527859
            clear p1527862
            have hF := FM.tr hF g1527860 rfl
            exact e_I E hW rfl ⟨⟨_, rfl, trivial⟩, hF⟩ dX11_writ_126
          · refine lv_aload_n hx hb dX11_writ_75 rfl (lv_at hl 2 rfl) ?_
            refine lv_bipush (v := (-5)) hx hb dX11_writ_76 (by decide) ?_
            refine t_callV (As := [.int (-5)]) (rest := []) E hW (c_X11_refuse l G cI cJ cZ cD cR cT kp L f1527809 hW.2.2.2 _ h0 (-5) rh0 (by decide)) rh0 (by decide) rfl wk_X11_refuse tw_603 rfl ⟨Nat.le_of_ble_eq_true rfl, Nat.le_of_ble_eq_true rfl⟩ ⟨rfl, rfl⟩ hl.1 rfl (Nat.le_of_ble_eq_true rfl) dX11_writ_78 ⟨Nat.le_of_ble_eq_true rfl, Nat.le_of_ble_eq_true rfl⟩ (fun v1527863 f1527864 H locs q1527865 hW => ?_)
            obtain ⟨⟨x1527867, rfl, p1527868⟩, g1527866⟩ := q1527865
            have p1527868 : (-6 : Int) ≤ x1527867.toInt ∧ x1527867.toInt ≤ -1 := p1527868
            have hF := FM.tr hF g1527866 rfl
            exact e_I E hW rfl ⟨⟨_, rfl, trivial⟩, hF⟩ dX11_writ_81
        · refine lv_aload_n hx hb dX11_writ_59 rfl (lv_at hl 2 rfl) ?_
          refine lv_bipush (v := (-3)) hx hb dX11_writ_60 (by decide) ?_
          refine t_callV (As := [.int (-3)]) (rest := []) E hW (c_X11_refuse l G cI cJ cZ cD cR cT kp L f1527809 hW.2.2.2 _ h0 (-3) rh0 (by decide)) rh0 (by decide) rfl wk_X11_refuse tw_603 rfl ⟨Nat.le_of_ble_eq_true rfl, Nat.le_of_ble_eq_true rfl⟩ ⟨rfl, rfl⟩ hl.1 rfl (Nat.le_of_ble_eq_true rfl) dX11_writ_62 ⟨Nat.le_of_ble_eq_true rfl, Nat.le_of_ble_eq_true rfl⟩ (fun v1527869 f1527870 H locs q1527871 hW => ?_)
          obtain ⟨⟨x1527873, rfl, p1527874⟩, g1527872⟩ := q1527871
          have p1527874 : (-6 : Int) ≤ x1527873.toInt ∧ x1527873.toInt ≤ -1 := p1527874
          have hF := FM.tr hF g1527872 rfl
          exact e_I E hW rfl ⟨⟨_, rfl, trivial⟩, hF⟩ dX11_writ_65
  · clear p1527779
    refine lv_aload_n hx hb dX11_writ_24 rfl (lv_at hl 2 rfl) ?_
    refine lv_bipush (v := (-2)) hx hb dX11_writ_25 (by decide) ?_
    refine t_callV (As := [.int (-2)]) (rest := []) E hW (c_X11_refuse l G cI cJ cZ cD cR cT kp L f1527775 hW.2.2.2 _ h0 (-2) rh0 (by decide)) rh0 (by decide) rfl wk_X11_refuse tw_603 rfl ⟨Nat.le_of_ble_eq_true rfl, Nat.le_of_ble_eq_true rfl⟩ ⟨rfl, rfl⟩ hl.1 rfl (Nat.le_of_ble_eq_true rfl) dX11_writ_27 ⟨Nat.le_of_ble_eq_true rfl, Nat.le_of_ble_eq_true rfl⟩ (fun v1527875 f1527876 H locs q1527877 hW => ?_)
    obtain ⟨⟨x1527879, rfl, p1527880⟩, g1527878⟩ := q1527877
    have p1527880 : (-6 : Int) ≤ x1527879.toInt ∧ x1527879.toInt ≤ -1 := p1527880
    have hF := FM.tr hF g1527878 rfl
    exact e_I E hW rfl ⟨⟨_, rfl, trivial⟩, hF⟩ dX11_writ_30
