
def ms_X12_told_x : List (Nat × Nat) := [(12, 1)]
def po_X12_told_x (kp : Nat → Nat) (L : List Nat) (f0 : Nat → va_E) (h0 : Nat) (u1 : Int32) : Option Value → (Nat → va_E) → Prop := fun v f => (∃ r : Int32, v = some (.int r) ∧ (r.toInt = u1.toInt)) ∧ FM kp L ms_X12_told_x f0 f
set_option maxHeartbeats 4000000 in
set_option maxRecDepth 100000 in
theorem c_X12_told_x (l : Launch) (G : va_G) (cI cJ cZ cD cR cT : ClassId) (kp : Nat → Nat) (L : List Nat) (f0 : Nat → va_E) (hTH : TH cI cJ cZ cD cR cT kp L f0) (sz : Nat) (h0 : Nat) (u1 : Int32) (rh0 : RK kp L h0 12) : Met l yX12_told (Cond.code yX12_told cX12_told 2 (some .int) :: wTab) ({ frames := 1, cells := 0, slots := 0, locals := 40 }) (va_Pc [.ref h0, .int u1] (PreW G (tys6 cI cJ cZ cD cR cT) (va_pl L f0) sz)) (QT (po_X12_told_x kp L f0 h0 u1) G cI cJ cZ cD cR cT (va_A (va_pl L f0) sz) kp L) 0 0 (va_A (va_pl L f0) sz) := by
  refine metT (by decide) (Nat.le_of_ble_eq_true rfl) hTH ?_
  intro p e s m below meth c A ls E hW hl
  obtain ⟨hx, hb, -, hml, hown, hts, -, -, -⟩ := id E
  have hF : FM kp L ms_X12_told_x f0 f0 := FM.rf
  have hl : lv_has ls 2 [(0, .ref h0), (1, .int u1)] := hl
  obtain ⟨pR, mR⟩ : ∃ x : Nat, oR (f0 h0) 2 = x := ⟨_, rfl⟩
  have rR : RK kp L pR 822 := by rw [← mR]; exact th_ref hTH rh0 (by decide) (by decide) rfl
  refine lv_aload_n hx hb dX12_told_0 rfl (lv_at hl 0 rfl) ?_
  refine lv_iload_n hx hb dX12_told_1 rfl (lv_at hl 1 rfl) ?_
  refine q_if_ge (tgt := 9) hx hb dX12_told_2 (by decide) rfl (fun c1 => ?_) (fun c1 => ?_)
  · refine lv_iconst (v := 0) hx hb dX12_told_9 (by decide) ?_
    refine fp_RX12_85 E hW rh0 dX12_told_10 (fun f2 H locs e3 n4 g5 hW => ?_)
    have hF := FM.tr hF g5 rfl
    refine lv_iload_n hx hb dX12_told_13 rfl (lv_at hl 1 rfl) ?_
    exact e_I E hW rfl ⟨⟨_, rfl, (by first | omega | trivial)⟩, hF⟩ dX12_told_14
  · refine lv_iload_n hx hb dX12_told_5 rfl (lv_at hl 1 rfl) ?_
    refine lv_goto (tgt := 10) hx hb dX12_told_6 (by decide) ?_
    refine fp_RX12_85 E hW rh0 dX12_told_10 (fun f6 H locs e7 n8 g9 hW => ?_)
    have hF := FM.tr hF g9 rfl
    refine lv_iload_n hx hb dX12_told_13 rfl (lv_at hl 1 rfl) ?_
    exact e_I E hW rfl ⟨⟨_, rfl, (by first | omega | trivial)⟩, hF⟩ dX12_told_14
def rw_X12_price_x : List (Nat × Nat) := [(1182, 1581)]
def ms_X12_price_x : List (Nat × Nat) := [(12, 0), (12, 1), (822, 0)]
def po_X12_price_x (kp : Nat → Nat) (L : List Nat) (f0 : Nat → va_E) (h0 : Nat) (u1 : Int32) (u2 : Int32) : Option Value → (Nat → va_E) → Prop := fun v f => (∃ r : Int32, v = some (.int r) ∧ ((r.toInt = 0 ∧ (0 ≤ u1.toInt ∧ u1.toInt ≤ 399) ∧ 0 ≤ u2.toInt ∧ u2.toInt ≤ 10000) ∨ (r.toInt = -1 ∧ ¬ ((0 ≤ u1.toInt ∧ u1.toInt ≤ 399) ∧ 0 ≤ u2.toInt ∧ u2.toInt ≤ 10000)))) ∧ FM kp L ms_X12_price_x f0 f ∧ (RF rw_X12_price_x f0 f h0)
set_option maxHeartbeats 4000000 in
set_option maxRecDepth 100000 in
theorem c_X12_price_x (l : Launch) (G : va_G) (cI cJ cZ cD cR cT : ClassId) (kp : Nat → Nat) (L : List Nat) (f0 : Nat → va_E) (hTH : TH cI cJ cZ cD cR cT kp L f0) (sz : Nat) (h0 : Nat) (u1 : Int32) (u2 : Int32) (rh0 : RK kp L h0 12) : Met l yX12_price (Cond.code yX12_price cX12_price 3 (some .int) :: wTab) ({ frames := 3, cells := 0, slots := 0, locals := 85 }) (va_Pc [.ref h0, .int u1, .int u2] (PreW G (tys6 cI cJ cZ cD cR cT) (va_pl L f0) sz)) (QT (po_X12_price_x kp L f0 h0 u1 u2) G cI cJ cZ cD cR cT (va_A (va_pl L f0) sz) kp L) 0 0 (va_A (va_pl L f0) sz) := by
  refine metT (by decide) (Nat.le_of_ble_eq_true rfl) hTH ?_
  intro p e s m below meth c A ls E hW hl
  obtain ⟨hx, hb, -, hml, hown, hts, -, -, -⟩ := id E
  have hF : FM kp L ms_X12_price_x f0 f0 := FM.rf
  have hl : lv_has ls 3 [(0, .ref h0), (1, .int u1), (2, .int u2)] := hl
  obtain ⟨pR, mR⟩ : ∃ x : Nat, oR (f0 h0) 2 = x := ⟨_, rfl⟩
  have rR : RK kp L pR 822 := by rw [← mR]; exact th_ref hTH rh0 (by decide) (by decide) rfl
  refine lv_aload_n hx hb dX12_price_0 rfl (lv_at hl 0 rfl) ?_
  refine lv_iconst (v := 0) hx hb dX12_price_1 (by decide) ?_
  refine fp_RX12_82 E hW rh0 dX12_price_2 (fun f1 H locs e2 n3 g4 hW => ?_)
  have z5 : RF rw_X12_price_x f0 f1 h0 := rf_fm hTH rf_rf g4 rh0 rfl
  have hF := FM.tr hF g4 rfl
  refine lv_iload_n hx hb dX12_price_5 rfl (lv_at hl 1 rfl) ?_
  refine t_callS (As := [.int u1]) (rest := []) E hW (c_X12_isWeek l G cI cJ cZ cD cR cT kp L f1 hW.2.2.2 _ u1) wk_X12_isWeek tw_1719 rfl ⟨Nat.le_of_ble_eq_true rfl, Nat.le_of_ble_eq_true rfl⟩ ⟨rfl, rfl⟩ hl.1 rfl (Nat.le_of_ble_eq_true rfl) dX12_price_6 ⟨Nat.le_of_ble_eq_true rfl, Nat.le_of_ble_eq_true rfl⟩ (fun v6 f7 H locs q8 hW => ?_)
  obtain ⟨⟨x10, rfl, p11⟩, g9⟩ := q8
  have z12 : RF rw_X12_price_x f0 f7 h0 := rf_fm hTH z5 g9 rh0 rfl
  have hF := FM.tr hF g9 rfl
  refine q_if_eq (tgt := 24) hx hb dX12_price_9 (by decide) rfl (fun c13 => ?_) (fun c13 => ?_)
  · have q14 : (u1.toInt < 0 ∨ 399 < u1.toInt) := by omega
    clear p11
    refine lv_aload_n hx hb dX12_price_24 rfl (lv_at hl 0 rfl) ?_
    refine lv_iconst (v := (-1)) hx hb dX12_price_25 (by decide) ?_
    refine t_callV (As := [.int (-1)]) (rest := []) E hW (c_X12_told_x l G cI cJ cZ cD cR cT kp L f7 hW.2.2.2 _ h0 (-1) rh0) rh0 (by decide) rfl wk_X12_told tw_1557 rfl ⟨Nat.le_of_ble_eq_true rfl, Nat.le_of_ble_eq_true rfl⟩ ⟨rfl, rfl⟩ hl.1 rfl (Nat.le_of_ble_eq_true rfl) dX12_price_26 ⟨Nat.le_of_ble_eq_true rfl, Nat.le_of_ble_eq_true rfl⟩ (fun v15 f16 H locs q17 hW => ?_)
    obtain ⟨⟨x19, rfl, p20⟩, g18⟩ := q17
    have p20 : x19.toInt = (-1) := p20
    have z21 : RF rw_X12_price_x f0 f16 h0 := rf_fm hTH z12 g18 rh0 rfl
    have hF := FM.tr hF g18 rfl
    exact e_I E hW rfl ⟨⟨_, rfl, (by first | omega | trivial)⟩, hF, z21⟩ dX12_price_29
  · have q22 : 0 ≤ u1.toInt ∧ u1.toInt ≤ 399 := by omega
    clear p11
    refine lv_iload_n hx hb dX12_price_12 rfl (lv_at hl 2 rfl) ?_
    refine q_i2l hx hb dX12_price_13 rfl (fun x23 h24 => ?_)
    have hb25 : -2147483648 ≤ x23.toInt ∧ x23.toInt ≤ 2147483647 := by have := i32_b u2; omega
    refine lv_lconst (v := 0) hx hb dX12_price_14 (by decide) ?_
    refine lv_ldc2 (v := 10000) hx hb hown (hts _ tw_1723) dX12_price_15 ?_
    refine t_callS (As := [.long x23, .long 0, .long 10000]) (rest := []) E hW (c_X12_in l G cI cJ cZ cD cR cT kp L f7 hW.2.2.2 _ x23 0 10000) wk_X12_in tw_1554 rfl ⟨Nat.le_of_ble_eq_true rfl, Nat.le_of_ble_eq_true rfl⟩ ⟨rfl, rfl⟩ hl.1 rfl (Nat.le_of_ble_eq_true rfl) dX12_price_18 ⟨Nat.le_of_ble_eq_true rfl, Nat.le_of_ble_eq_true rfl⟩ (fun v26 f27 H locs q28 hW => ?_)
    obtain ⟨⟨x30, rfl, p31⟩, g29⟩ := q28
    have p31 : (x30.toInt = 1 ∧ 0 ≤ x23.toInt ∧ x23.toInt ≤ 10000) ∨ (x30.toInt = 0 ∧ (x23.toInt < 0 ∨ 10000 < x23.toInt)) := p31
    have z32 : RF rw_X12_price_x f0 f27 h0 := rf_fm hTH z12 g29 rh0 rfl
    have hF := FM.tr hF g29 rfl
    refine q_if_ne (tgt := 30) hx hb dX12_price_21 (by decide) rfl (fun c33 => ?_) (fun c33 => ?_)
    · have q34 : 0 ≤ x23.toInt ∧ x23.toInt ≤ 10000 := by omega
      clear p31
      refine lv_aload_n hx hb dX12_price_30 rfl (lv_at hl 0 rfl) ?_
      refine fg_RX12_8 E hW rh0 dX12_price_31 (fun a35 m36 r37 => ?_)
      obtain rfl : pR = a35 := (((fm_R g29 rh0 rfl).trans ((fm_R g9 rh0 rfl).trans ((fm_R g4 rh0 rfl).trans mR)))).symm.trans m36
      refine lv_sipush (v := 1182) hx hb dX12_price_34 (by decide) ?_
      refine lv_iload_n hx hb dX12_price_37 rfl (lv_at hl 1 rfl) ?_
      refine q_iadd (X := 1182) hx hb dX12_price_38 rfl rfl (by omega) (fun x38 h39 => ?_)
      refine lv_iload_n hx hb dX12_price_39 rfl (lv_at hl 2 rfl) ?_
      refine lv_iconst (v := 1) hx hb dX12_price_40 (by decide) ?_
      refine q_iadd (Y := 1) hx hb dX12_price_41 rfl rfl (by omega) (fun x40 h41 => ?_)
      refine gs_822 E hW rR ⟨by omega, by omega⟩ (fun hc => rr_up hc (by omega) (by omega) (by unfold rbI; omega)) dX12_price_42 (fun f42 H locs e43 n44 g45 hW => ?_)
      have z46 : RF rw_X12_price_x f0 f42 h0 := rf_st (lo := 1182) (hi := 1581) z32 mR e43 (by omega) rfl
      have hF := FM.tr hF g45 rfl
      refine lv_aload_n hx hb dX12_price_43 rfl (lv_at hl 0 rfl) ?_
      refine lv_iconst (v := 0) hx hb dX12_price_44 (by decide) ?_
      refine t_callV (As := [.int 0]) (rest := []) E hW (c_X12_told_x l G cI cJ cZ cD cR cT kp L f42 hW.2.2.2 _ h0 0 rh0) rh0 (by decide) rfl wk_X12_told tw_1557 rfl ⟨Nat.le_of_ble_eq_true rfl, Nat.le_of_ble_eq_true rfl⟩ ⟨rfl, rfl⟩ hl.1 rfl (Nat.le_of_ble_eq_true rfl) dX12_price_45 ⟨Nat.le_of_ble_eq_true rfl, Nat.le_of_ble_eq_true rfl⟩ (fun v47 f48 H locs q49 hW => ?_)
      obtain ⟨⟨x51, rfl, p52⟩, g50⟩ := q49
      have p52 : x51.toInt = 0 := p52
      have z53 : RF rw_X12_price_x f0 f48 h0 := rf_fm hTH z46 g50 rh0 rfl
      have hF := FM.tr hF g50 rfl
      exact e_I E hW rfl ⟨⟨_, rfl, (by first | omega | trivial)⟩, hF, z53⟩ dX12_price_48
    · have q54 : (x23.toInt < 0 ∨ 10000 < x23.toInt) := by omega
      clear p31
      refine lv_aload_n hx hb dX12_price_24 rfl (lv_at hl 0 rfl) ?_
      refine lv_iconst (v := (-1)) hx hb dX12_price_25 (by decide) ?_
      refine t_callV (As := [.int (-1)]) (rest := []) E hW (c_X12_told_x l G cI cJ cZ cD cR cT kp L f27 hW.2.2.2 _ h0 (-1) rh0) rh0 (by decide) rfl wk_X12_told tw_1557 rfl ⟨Nat.le_of_ble_eq_true rfl, Nat.le_of_ble_eq_true rfl⟩ ⟨rfl, rfl⟩ hl.1 rfl (Nat.le_of_ble_eq_true rfl) dX12_price_26 ⟨Nat.le_of_ble_eq_true rfl, Nat.le_of_ble_eq_true rfl⟩ (fun v55 f56 H locs q57 hW => ?_)
      obtain ⟨⟨x59, rfl, p60⟩, g58⟩ := q57
      have p60 : x59.toInt = (-1) := p60
      have z61 : RF rw_X12_price_x f0 f56 h0 := rf_fm hTH z32 g58 rh0 rfl
      have hF := FM.tr hF g58 rfl
      exact e_I E hW rfl ⟨⟨_, rfl, (by first | omega | trivial)⟩, hF, z61⟩ dX12_price_29
def ms_X11_refuse_x : List (Nat × Nat) := [(11, 15)]
def po_X11_refuse_x (kp : Nat → Nat) (L : List Nat) (f0 : Nat → va_E) (h0 : Nat) (u1 : Int32) : Option Value → (Nat → va_E) → Prop := fun v f => (∃ r : Int32, v = some (.int r) ∧ (r.toInt = u1.toInt)) ∧ FM kp L ms_X11_refuse_x f0 f
set_option maxHeartbeats 4000000 in
set_option maxRecDepth 100000 in
theorem c_X11_refuse_x (l : Launch) (G : va_G) (cI cJ cZ cD cR cT : ClassId) (kp : Nat → Nat) (L : List Nat) (f0 : Nat → va_E) (hTH : TH cI cJ cZ cD cR cT kp L f0) (sz : Nat) (h0 : Nat) (u1 : Int32) (rh0 : RK kp L h0 11) (pu1 : (-6 : Int) ≤ u1.toInt ∧ u1.toInt ≤ -1) : Met l yX11_refuse (Cond.code yX11_refuse cX11_refuse 2 (some .int) :: wTab) ({ frames := 1, cells := 0, slots := 0, locals := 40 }) (va_Pc [.ref h0, .int u1] (PreW G (tys6 cI cJ cZ cD cR cT) (va_pl L f0) sz)) (QT (po_X11_refuse_x kp L f0 h0 u1) G cI cJ cZ cD cR cT (va_A (va_pl L f0) sz) kp L) 0 0 (va_A (va_pl L f0) sz) := by
  refine metT (by decide) (Nat.le_of_ble_eq_true rfl) hTH ?_
  intro p e s m below meth c A ls E hW hl
  obtain ⟨hx, hb, -, hml, hown, hts, -, -, -⟩ := id E
  have hF : FM kp L ms_X11_refuse_x f0 f0 := FM.rf
  have hl : lv_has ls 2 [(0, .ref h0), (1, .int u1)] := hl
  refine lv_aload_n hx hb dX11_refuse_0 rfl (lv_at hl 0 rfl) ?_
  refine lv_iload_n hx hb dX11_refuse_1 rfl (lv_at hl 1 rfl) ?_
  refine fp_RX11_356 E hW rh0 dX11_refuse_2 (fun f1 H locs e2 n3 g4 hW => ?_)
  have hF := FM.tr hF g4 rfl
  refine lv_iload_n hx hb dX11_refuse_5 rfl (lv_at hl 1 rfl) ?_
  exact e_I E hW rfl ⟨⟨_, rfl, (by first | omega | trivial)⟩, hF⟩ dX11_refuse_6
def ms_X11_accept_x : List (Nat × Nat) := [(11, 15)]
def po_X11_accept_x (kp : Nat → Nat) (L : List Nat) (f0 : Nat → va_E) (h0 : Nat) (u1 : Int32) : Option Value → (Nat → va_E) → Prop := fun v f => (∃ r : Int32, v = some (.int r) ∧ (r.toInt = u1.toInt)) ∧ FM kp L ms_X11_accept_x f0 f
set_option maxHeartbeats 4000000 in
set_option maxRecDepth 100000 in
theorem c_X11_accept_x (l : Launch) (G : va_G) (cI cJ cZ cD cR cT : ClassId) (kp : Nat → Nat) (L : List Nat) (f0 : Nat → va_E) (hTH : TH cI cJ cZ cD cR cT kp L f0) (sz : Nat) (h0 : Nat) (u1 : Int32) (rh0 : RK kp L h0 11) : Met l yX11_accept (Cond.code yX11_accept cX11_accept 2 (some .int) :: wTab) ({ frames := 1, cells := 0, slots := 0, locals := 40 }) (va_Pc [.ref h0, .int u1] (PreW G (tys6 cI cJ cZ cD cR cT) (va_pl L f0) sz)) (QT (po_X11_accept_x kp L f0 h0 u1) G cI cJ cZ cD cR cT (va_A (va_pl L f0) sz) kp L) 0 0 (va_A (va_pl L f0) sz) := by
  refine metT (by decide) (Nat.le_of_ble_eq_true rfl) hTH ?_
  intro p e s m below meth c A ls E hW hl
  obtain ⟨hx, hb, -, hml, hown, hts, -, -, -⟩ := id E
  have hF : FM kp L ms_X11_accept_x f0 f0 := FM.rf
  have hl : lv_has ls 2 [(0, .ref h0), (1, .int u1)] := hl
  refine lv_aload_n hx hb dX11_accept_0 rfl (lv_at hl 0 rfl) ?_
  refine lv_iconst (v := 0) hx hb dX11_accept_1 (by decide) ?_
  refine fp_RX11_356 E hW rh0 dX11_accept_2 (fun f1 H locs e2 n3 g4 hW => ?_)
  have hF := FM.tr hF g4 rfl
  refine lv_iload_n hx hb dX11_accept_5 rfl (lv_at hl 1 rfl) ?_
  exact e_I E hW rfl ⟨⟨_, rfl, (by first | omega | trivial)⟩, hF⟩ dX11_accept_6
def ms_X11_price_x : List (Nat × Nat) := [(11, 15), (520, 0)]
def po_X11_price_x (kp : Nat → Nat) (L : List Nat) (f0 : Nat → va_E) (h0 : Nat) (u1 : Int32) (u2 : Int32) : Option Value → (Nat → va_E) → Prop := fun v f => (∃ r : Int32, v = some (.int r) ∧ ((r.toInt = 0 ∧ (0 ≤ u1.toInt ∧ u1.toInt ≤ 399) ∧ 0 ≤ u2.toInt ∧ u2.toInt ≤ 10000) ∨ (r.toInt = -1 ∧ ¬ ((0 ≤ u1.toInt ∧ u1.toInt ≤ 399) ∧ 0 ≤ u2.toInt ∧ u2.toInt ≤ 10000)))) ∧ FM kp L ms_X11_price_x f0 f
set_option maxHeartbeats 4000000 in
set_option maxRecDepth 100000 in
theorem c_X11_price_x (l : Launch) (G : va_G) (cI cJ cZ cD cR cT : ClassId) (kp : Nat → Nat) (L : List Nat) (f0 : Nat → va_E) (hTH : TH cI cJ cZ cD cR cT kp L f0) (sz : Nat) (h0 : Nat) (u1 : Int32) (u2 : Int32) (rh0 : RK kp L h0 11) : Met l yX11_price (Cond.code yX11_price cX11_price 3 (some .int) :: wTab) ({ frames := 2, cells := 0, slots := 0, locals := 62 }) (va_Pc [.ref h0, .int u1, .int u2] (PreW G (tys6 cI cJ cZ cD cR cT) (va_pl L f0) sz)) (QT (po_X11_price_x kp L f0 h0 u1 u2) G cI cJ cZ cD cR cT (va_A (va_pl L f0) sz) kp L) 0 0 (va_A (va_pl L f0) sz) := by
  refine metT (by decide) (Nat.le_of_ble_eq_true rfl) hTH ?_
  intro p e s m below meth c A ls E hW hl
  obtain ⟨hx, hb, -, hml, hown, hts, -, -, -⟩ := id E
  have hF : FM kp L ms_X11_price_x f0 f0 := FM.rf
  have hl : lv_has ls 3 [(0, .ref h0), (1, .int u1), (2, .int u2)] := hl
  refine lv_iload_n hx hb dX11_price_0 rfl (lv_at hl 1 rfl) ?_
  refine t_callS (As := [.int u1]) (rest := []) E hW (c_X11_isWeek l G cI cJ cZ cD cR cT kp L f0 hW.2.2.2 _ u1) wk_X11_isWeek tw_780 rfl ⟨Nat.le_of_ble_eq_true rfl, Nat.le_of_ble_eq_true rfl⟩ ⟨rfl, rfl⟩ hl.1 rfl (Nat.le_of_ble_eq_true rfl) dX11_price_1 ⟨Nat.le_of_ble_eq_true rfl, Nat.le_of_ble_eq_true rfl⟩ (fun v1 f2 H locs q3 hW => ?_)
  obtain ⟨⟨x5, rfl, p6⟩, g4⟩ := q3
  have hF := FM.tr hF g4 rfl
  refine q_if_eq (tgt := 18) hx hb dX11_price_4 (by decide) rfl (fun c7 => ?_) (fun c7 => ?_)
  · have q8 : (u1.toInt < 0 ∨ 399 < u1.toInt) := by omega
    clear p6
    refine lv_aload_n hx hb dX11_price_18 rfl (lv_at hl 0 rfl) ?_
    refine lv_iconst (v := (-1)) hx hb dX11_price_19 (by decide) ?_
    refine t_callV (As := [.int (-1)]) (rest := []) E hW (c_X11_refuse_x l G cI cJ cZ cD cR cT kp L f2 hW.2.2.2 _ h0 (-1) rh0 (by decide)) rh0 (by decide) rfl wk_X11_refuse tw_603 rfl ⟨Nat.le_of_ble_eq_true rfl, Nat.le_of_ble_eq_true rfl⟩ ⟨rfl, rfl⟩ hl.1 rfl (Nat.le_of_ble_eq_true rfl) dX11_price_20 ⟨Nat.le_of_ble_eq_true rfl, Nat.le_of_ble_eq_true rfl⟩ (fun v9 f10 H locs q11 hW => ?_)
    obtain ⟨⟨x13, rfl, p14⟩, g12⟩ := q11
    have p14 : x13.toInt = (-1) := p14
    have hF := FM.tr hF g12 rfl
    exact e_I E hW rfl ⟨⟨_, rfl, (by first | omega | trivial)⟩, hF⟩ dX11_price_23
  · have q15 : 0 ≤ u1.toInt ∧ u1.toInt ≤ 399 := by omega
    clear p6
    refine lv_iload_n hx hb dX11_price_7 rfl (lv_at hl 2 rfl) ?_
    refine lv_iconst (v := 0) hx hb dX11_price_8 (by decide) ?_
    refine lv_sipush (v := 10000) hx hb dX11_price_9 (by decide) ?_
    refine t_callS (As := [.int u2, .int 0, .int 10000]) (rest := []) E hW (c_X11_within l G cI cJ cZ cD cR cT kp L f2 hW.2.2.2 _ u2 0 10000 (by decide)) wk_X11_within tw_599 rfl ⟨Nat.le_of_ble_eq_true rfl, Nat.le_of_ble_eq_true rfl⟩ ⟨rfl, rfl⟩ hl.1 rfl (Nat.le_of_ble_eq_true rfl) dX11_price_12 ⟨Nat.le_of_ble_eq_true rfl, Nat.le_of_ble_eq_true rfl⟩ (fun v16 f17 H locs q18 hW => ?_)
    obtain ⟨⟨x20, rfl, p21⟩, g19⟩ := q18
    have p21 : (x20.toInt = 1 ∧ 0 ≤ u2.toInt ∧ u2.toInt ≤ 10000) ∨ (x20.toInt = 0 ∧ (u2.toInt < 0 ∨ 10000 < u2.toInt)) := p21
    have hF := FM.tr hF g19 rfl
    refine q_if_ne (tgt := 24) hx hb dX11_price_15 (by decide) rfl (fun c22 => ?_) (fun c22 => ?_)
    · have q23 : 0 ≤ u2.toInt ∧ u2.toInt ≤ 10000 := by omega
      clear p21
      refine lv_aload_n hx hb dX11_price_24 rfl (lv_at hl 0 rfl) ?_
      refine fg_RX11_12 E hW rh0 dX11_price_25 (fun a24 m25 r26 => ?_)
      refine fg_RX11_194 E hW r26 dX11_price_28 (fun a27 m28 r29 => ?_)
      refine fg_RX11_198 E hW r29 dX11_price_31 (fun a30 m31 r32 => ?_)
      refine lv_iload_n hx hb dX11_price_34 rfl (lv_at hl 1 rfl) ?_
      refine lv_iload_n hx hb dX11_price_35 rfl (lv_at hl 2 rfl) ?_
      refine gs_520 E hW r32 ⟨by omega, by omega⟩ dX11_price_36 (fun f33 H locs e34 n35 g36 hW => ?_)
      have hF := FM.tr hF g36 rfl
      refine lv_aload_n hx hb dX11_price_37 rfl (lv_at hl 0 rfl) ?_
      refine lv_iconst (v := 0) hx hb dX11_price_38 (by decide) ?_
      refine t_callV (As := [.int 0]) (rest := []) E hW (c_X11_accept_x l G cI cJ cZ cD cR cT kp L f33 hW.2.2.2 _ h0 0 rh0) rh0 (by decide) rfl wk_X11_accept tw_611 rfl ⟨Nat.le_of_ble_eq_true rfl, Nat.le_of_ble_eq_true rfl⟩ ⟨rfl, rfl⟩ hl.1 rfl (Nat.le_of_ble_eq_true rfl) dX11_price_39 ⟨Nat.le_of_ble_eq_true rfl, Nat.le_of_ble_eq_true rfl⟩ (fun v37 f38 H locs q39 hW => ?_)
      obtain ⟨⟨x41, rfl, p42⟩, g40⟩ := q39
      have p42 : x41.toInt = 0 := p42
      have hF := FM.tr hF g40 rfl
      exact e_I E hW rfl ⟨⟨_, rfl, (by first | omega | trivial)⟩, hF⟩ dX11_price_42
    · have q43 : (u2.toInt < 0 ∨ 10000 < u2.toInt) := by omega
      clear p21
      refine lv_aload_n hx hb dX11_price_18 rfl (lv_at hl 0 rfl) ?_
      refine lv_iconst (v := (-1)) hx hb dX11_price_19 (by decide) ?_
      refine t_callV (As := [.int (-1)]) (rest := []) E hW (c_X11_refuse_x l G cI cJ cZ cD cR cT kp L f17 hW.2.2.2 _ h0 (-1) rh0 (by decide)) rh0 (by decide) rfl wk_X11_refuse tw_603 rfl ⟨Nat.le_of_ble_eq_true rfl, Nat.le_of_ble_eq_true rfl⟩ ⟨rfl, rfl⟩ hl.1 rfl (Nat.le_of_ble_eq_true rfl) dX11_price_20 ⟨Nat.le_of_ble_eq_true rfl, Nat.le_of_ble_eq_true rfl⟩ (fun v44 f45 H locs q46 hW => ?_)
      obtain ⟨⟨x48, rfl, p49⟩, g47⟩ := q46
      have p49 : x48.toInt = (-1) := p49
      have hF := FM.tr hF g47 rfl
      exact e_I E hW rfl ⟨⟨_, rfl, (by first | omega | trivial)⟩, hF⟩ dX11_price_23
