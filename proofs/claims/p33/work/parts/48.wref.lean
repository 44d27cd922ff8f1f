
def rw_X12_person_x : List (Nat × Nat) := [(0, 0), (20, 1041)]
def ms_X12_person_x : List (Nat × Nat) := [(12, 0), (12, 1), (822, 0)]
def po_X12_person_x (kp : Nat → Nat) (L : List Nat) (f0 : Nat → va_E) (h0 : Nat) (u1 : Int32) (u2 : Int32) (u3 : Int32) : Option Value → (Nat → va_E) → Prop := fun v f => (∃ r : Int32, v = some (.int r) ∧ ((¬ ((0 ≤ u1.toInt ∧ u1.toInt ≤ 19) ∧ (0 ≤ u2.toInt ∧ u2.toInt ≤ 1000000) ∧ 0 ≤ u3.toInt ∧ u3.toInt ≤ 100) ∧ r.toInt = -1 ∧ (aI (f (oR (f0 h0) 2)) (0 : Int32).toNatClampNeg).toInt = (aI (f0 (oR (f0 h0) 2)) (0 : Int32).toNatClampNeg).toInt) ∨ (((0 ≤ u1.toInt ∧ u1.toInt ≤ 19) ∧ (0 ≤ u2.toInt ∧ u2.toInt ≤ 1000000) ∧ 0 ≤ u3.toInt ∧ u3.toInt ≤ 100) ∧ 40 ≤ (aI (f0 (oR (f0 h0) 2)) (0 : Int32).toNatClampNeg).toInt ∧ r.toInt = -5 ∧ (aI (f (oR (f0 h0) 2)) (0 : Int32).toNatClampNeg).toInt = (aI (f0 (oR (f0 h0) 2)) (0 : Int32).toNatClampNeg).toInt) ∨ (((0 ≤ u1.toInt ∧ u1.toInt ≤ 19) ∧ (0 ≤ u2.toInt ∧ u2.toInt ≤ 1000000) ∧ 0 ≤ u3.toInt ∧ u3.toInt ≤ 100) ∧ (aI (f0 (oR (f0 h0) 2)) (0 : Int32).toNatClampNeg).toInt < 40 ∧ r.toInt = (aI (f0 (oR (f0 h0) 2)) (0 : Int32).toNatClampNeg).toInt ∧ (aI (f (oR (f0 h0) 2)) (0 : Int32).toNatClampNeg).toInt = (aI (f0 (oR (f0 h0) 2)) (0 : Int32).toNatClampNeg).toInt + 1))) ∧ FM kp L ms_X12_person_x f0 f ∧ (RF rw_X12_person_x f0 f h0)
set_option maxHeartbeats 4000000 in
set_option maxRecDepth 100000 in
theorem c_X12_person_x (l : Launch) (G : va_G) (cI cJ cZ cD cR cT : ClassId) (kp : Nat → Nat) (L : List Nat) (f0 : Nat → va_E) (hTH : TH cI cJ cZ cD cR cT kp L f0) (sz : Nat) (h0 : Nat) (u1 : Int32) (u2 : Int32) (u3 : Int32) (rh0 : RK kp L h0 12) : Met l yX12_person (Cond.code yX12_person cX12_person 5 (some .int) :: wTab) ({ frames := 2, cells := 0, slots := 0, locals := 65 }) (va_Pc [.ref h0, .int u1, .int u2, .int u3] (PreW G (tys6 cI cJ cZ cD cR cT) (va_pl L f0) sz)) (QT (po_X12_person_x kp L f0 h0 u1 u2 u3) G cI cJ cZ cD cR cT (va_A (va_pl L f0) sz) kp L) 0 0 (va_A (va_pl L f0) sz) := by
  refine metT (by decide) (Nat.le_of_ble_eq_true rfl) hTH ?_
  intro p e s m below meth c A ls E hW hl
  obtain ⟨hx, hb, -, hml, hown, hts, -, -, -⟩ := id E
  have hF : FM kp L ms_X12_person_x f0 f0 := FM.rf
  have hl : lv_has ls 5 [(0, .ref h0), (1, .int u1), (2, .int u2), (3, .int u3)] := hl
  obtain ⟨pR, mR⟩ : ∃ x : Nat, oR (f0 h0) 2 = x := ⟨_, rfl⟩
  have rR : RK kp L pR 822 := by rw [← mR]; exact th_ref hTH rh0 (by decide) (by decide) rfl
  obtain ⟨p0, mp0⟩ : ∃ x : Int32, aI (f0 pR) (0 : Int32).toNatClampNeg = x := ⟨_, rfl⟩
  have hr0 : (0 : Int) ≤ p0.toInt ∧ p0.toInt ≤ 40 := rr_0 (th_row hTH rR) mp0 rfl
  refine lv_aload_n hx hb dX12_person_0 rfl (lv_at hl 0 rfl) ?_
  refine lv_iconst (v := 0) hx hb dX12_person_1 (by decide) ?_
  refine fp_RX12_82 E hW rh0 dX12_person_2 (fun f1 H locs e2 n3 g4 hW => ?_)
  have z5 : RF rw_X12_person_x f0 f1 h0 := rf_fm hTH rf_rf g4 rh0 rfl
  have hF := FM.tr hF g4 rfl
  refine lv_iload_n hx hb dX12_person_5 rfl (lv_at hl 1 rfl) ?_
  refine q_i2l hx hb dX12_person_6 rfl (fun x6 h7 => ?_)
  have hb8 : -2147483648 ≤ x6.toInt ∧ x6.toInt ≤ 2147483647 := by have := i32_b u1; omega
  refine lv_lconst (v := 0) hx hb dX12_person_7 (by decide) ?_
  refine lv_ldc2 (v := 19) hx hb hown (hts _ tw_1569) dX12_person_8 ?_
  refine t_callS (As := [.long x6, .long 0, .long 19]) (rest := []) E hW (c_X12_in l G cI cJ cZ cD cR cT kp L f1 hW.2.2.2 _ x6 0 19) wk_X12_in tw_1554 rfl ⟨Nat.le_of_ble_eq_true rfl, Nat.le_of_ble_eq_true rfl⟩ ⟨rfl, rfl⟩ hl.1 rfl (Nat.le_of_ble_eq_true rfl) dX12_person_11 ⟨Nat.le_of_ble_eq_true rfl, Nat.le_of_ble_eq_true rfl⟩ (fun v9 f10 H locs q11 hW => ?_)
  obtain ⟨⟨x13, rfl, p14⟩, g12⟩ := q11
  have p14 : (x13.toInt = 1 ∧ (0 : Int) ≤ x6.toInt ∧ x6.toInt ≤ (19 : Int)) ∨ (x13.toInt = 0 ∧ (x6.toInt < (0 : Int) ∨ (19 : Int) < x6.toInt)) := p14
  have m15 : aI (f10 pR) (0 : Int32).toNatClampNeg = p0 := ((congrArg (fun z => aI z (0 : Int32).toNatClampNeg) (fm_A g12 rR (by decide) rfl)).trans ((congrArg (fun z => aI z (0 : Int32).toNatClampNeg) (fm_A g4 rR (by decide) rfl)).trans mp0))
  have z16 : RF rw_X12_person_x f0 f10 h0 := rf_fm hTH z5 g12 rh0 rfl
  have hF := FM.tr hF g12 rfl
  refine q_if_eq (tgt := 41) hx hb dX12_person_14 (by decide) rfl (fun c17 => ?_) (fun c17 => ?_)
  · have q18 : (x6.toInt < (0 : Int) ∨ (19 : Int) < x6.toInt) := by omega
    clear p14
    refine lv_aload_n hx hb dX12_person_41 rfl (lv_at hl 0 rfl) ?_
    refine lv_iconst (v := (-1)) hx hb dX12_person_42 (by decide) ?_
    refine t_callV (As := [.int (-1)]) (rest := []) E hW (c_X12_told_x l G cI cJ cZ cD cR cT kp L f10 hW.2.2.2 _ h0 (-1) rh0) rh0 (by decide) rfl wk_X12_told tw_1557 rfl ⟨Nat.le_of_ble_eq_true rfl, Nat.le_of_ble_eq_true rfl⟩ ⟨rfl, rfl⟩ hl.1 rfl (Nat.le_of_ble_eq_true rfl) dX12_person_43 ⟨Nat.le_of_ble_eq_true rfl, Nat.le_of_ble_eq_true rfl⟩ (fun v19 f20 H locs q21 hW => ?_)
    obtain ⟨⟨x23, rfl, p24⟩, g22⟩ := q21
    have p24 : x23.toInt = (-1 : Int) := p24
    have z25 : RF rw_X12_person_x f0 f20 h0 := rf_fm hTH z16 g22 rh0 rfl
    have hF := FM.tr hF g22 rfl
    exact e_I E hW rfl ⟨⟨_, rfl, (by rw [mR, ((congrArg (fun z => aI z (0 : Int32).toNatClampNeg) (fm_A g22 rR (by decide) rfl)).trans m15), mp0]; omega)⟩, hF, z25⟩ dX12_person_46
  · have q26 : (0 : Int) ≤ x6.toInt ∧ x6.toInt ≤ (19 : Int) := by omega
    clear p14
    refine lv_iload_n hx hb dX12_person_17 rfl (lv_at hl 2 rfl) ?_
    refine q_i2l hx hb dX12_person_18 rfl (fun x27 h28 => ?_)
    have hb29 : -2147483648 ≤ x27.toInt ∧ x27.toInt ≤ 2147483647 := by have := i32_b u2; omega
    refine lv_lconst (v := 0) hx hb dX12_person_19 (by decide) ?_
    refine lv_ldc2 (v := 1000000) hx hb hown (hts _ tw_1570) dX12_person_20 ?_
    refine t_callS (As := [.long x27, .long 0, .long 1000000]) (rest := []) E hW (c_X12_in l G cI cJ cZ cD cR cT kp L f10 hW.2.2.2 _ x27 0 1000000) wk_X12_in tw_1554 rfl ⟨Nat.le_of_ble_eq_true rfl, Nat.le_of_ble_eq_true rfl⟩ ⟨rfl, rfl⟩ hl.1 rfl (Nat.le_of_ble_eq_true rfl) dX12_person_23 ⟨Nat.le_of_ble_eq_true rfl, Nat.le_of_ble_eq_true rfl⟩ (fun v30 f31 H locs q32 hW => ?_)
    obtain ⟨⟨x34, rfl, p35⟩, g33⟩ := q32
    have p35 : (x34.toInt = 1 ∧ (0 : Int) ≤ x27.toInt ∧ x27.toInt ≤ (1000000 : Int)) ∨ (x34.toInt = 0 ∧ (x27.toInt < (0 : Int) ∨ (1000000 : Int) < x27.toInt)) := p35
    have z36 : RF rw_X12_person_x f0 f31 h0 := rf_fm hTH z16 g33 rh0 rfl
    have hF := FM.tr hF g33 rfl
    refine q_if_eq (tgt := 41) hx hb dX12_person_26 (by decide) rfl (fun c37 => ?_) (fun c37 => ?_)
    · have q38 : (x27.toInt < (0 : Int) ∨ (1000000 : Int) < x27.toInt) := by omega
      clear p35
      refine lv_aload_n hx hb dX12_person_41 rfl (lv_at hl 0 rfl) ?_
      refine lv_iconst (v := (-1)) hx hb dX12_person_42 (by decide) ?_
      refine t_callV (As := [.int (-1)]) (rest := []) E hW (c_X12_told_x l G cI cJ cZ cD cR cT kp L f31 hW.2.2.2 _ h0 (-1) rh0) rh0 (by decide) rfl wk_X12_told tw_1557 rfl ⟨Nat.le_of_ble_eq_true rfl, Nat.le_of_ble_eq_true rfl⟩ ⟨rfl, rfl⟩ hl.1 rfl (Nat.le_of_ble_eq_true rfl) dX12_person_43 ⟨Nat.le_of_ble_eq_true rfl, Nat.le_of_ble_eq_true rfl⟩ (fun v39 f40 H locs q41 hW => ?_)
      obtain ⟨⟨x43, rfl, p44⟩, g42⟩ := q41
      have p44 : x43.toInt = (-1 : Int) := p44
      have m45 : aI (f40 pR) (0 : Int32).toNatClampNeg = p0 := ((congrArg (fun z => aI z (0 : Int32).toNatClampNeg) (fm_A g42 rR (by decide) rfl)).trans ((congrArg (fun z => aI z (0 : Int32).toNatClampNeg) (fm_A g33 rR (by decide) rfl)).trans m15))
      have z46 : RF rw_X12_person_x f0 f40 h0 := rf_fm hTH z36 g42 rh0 rfl
      have hF := FM.tr hF g42 rfl
      exact e_I E hW rfl ⟨⟨_, rfl, (by rw [mR, m45, mp0]; omega)⟩, hF, z46⟩ dX12_person_46
    · have q47 : (0 : Int) ≤ x27.toInt ∧ x27.toInt ≤ (1000000 : Int) := by omega
      clear p35
      refine lv_iload_n hx hb dX12_person_29 rfl (lv_at hl 3 rfl) ?_
      refine q_i2l hx hb dX12_person_30 rfl (fun x48 h49 => ?_)
      have hb50 : -2147483648 ≤ x48.toInt ∧ x48.toInt ≤ 2147483647 := by have := i32_b u3; omega
      refine lv_lconst (v := 0) hx hb dX12_person_31 (by decide) ?_
      refine lv_ldc2 (v := 100) hx hb hown (hts _ tw_1571) dX12_person_32 ?_
      refine t_callS (As := [.long x48, .long 0, .long 100]) (rest := []) E hW (c_X12_in l G cI cJ cZ cD cR cT kp L f31 hW.2.2.2 _ x48 0 100) wk_X12_in tw_1554 rfl ⟨Nat.le_of_ble_eq_true rfl, Nat.le_of_ble_eq_true rfl⟩ ⟨rfl, rfl⟩ hl.1 rfl (Nat.le_of_ble_eq_true rfl) dX12_person_35 ⟨Nat.le_of_ble_eq_true rfl, Nat.le_of_ble_eq_true rfl⟩ (fun v51 f52 H locs q53 hW => ?_)
      obtain ⟨⟨x55, rfl, p56⟩, g54⟩ := q53
      have p56 : (x55.toInt = 1 ∧ (0 : Int) ≤ x48.toInt ∧ x48.toInt ≤ (100 : Int)) ∨ (x55.toInt = 0 ∧ (x48.toInt < (0 : Int) ∨ (100 : Int) < x48.toInt)) := p56
      have m57 : aI (f52 pR) (0 : Int32).toNatClampNeg = p0 := ((congrArg (fun z => aI z (0 : Int32).toNatClampNeg) (fm_A g54 rR (by decide) rfl)).trans ((congrArg (fun z => aI z (0 : Int32).toNatClampNeg) (fm_A g33 rR (by decide) rfl)).trans m15))
      have z58 : RF rw_X12_person_x f0 f52 h0 := rf_fm hTH z36 g54 rh0 rfl
      have hF := FM.tr hF g54 rfl
      refine q_if_ne (tgt := 47) hx hb dX12_person_38 (by decide) rfl (fun c59 => ?_) (fun c59 => ?_)
      · have q60 : (0 : Int) ≤ x48.toInt ∧ x48.toInt ≤ (100 : Int) := by omega
        clear p56
        refine lv_aload_n hx hb dX12_person_47 rfl (lv_at hl 0 rfl) ?_
        refine fg_RX12_8 E hW rh0 dX12_person_48 (fun a61 m62 r63 => ?_)
        obtain rfl : pR = a61 := (((fm_R g54 rh0 rfl).trans ((fm_R g33 rh0 rfl).trans ((fm_R g12 rh0 rfl).trans ((fm_R g4 rh0 rfl).trans mR))))).symm.trans m62
        refine lv_iconst (v := 0) hx hb dX12_person_51 (by decide) ?_
        refine gl_822 E hW rR (by decide) dX12_person_52 (fun y64 m65 b66 => ?_)
        obtain rfl : p0 = y64 := (m57).symm.trans m65
        refine lv_bipush (v := 40) hx hb dX12_person_53 (by decide) ?_
        refine q_icmp_ne (Y := 40) (tgt := 65) hx hb dX12_person_55 (by decide) rfl rfl (fun c67 => ?_) (fun c67 => ?_)
        · refine lv_aload_n hx hb dX12_person_65 rfl (lv_at hl 0 rfl) ?_
          refine fg_RX12_8 E hW rh0 dX12_person_66 (fun a68 m69 r70 => ?_)
          obtain rfl : pR = a68 := (m62).symm.trans m69
          refine lv_iconst (v := 0) hx hb dX12_person_69 (by decide) ?_
          refine gl_822 E hW rR (by decide) dX12_person_70 (fun y71 m72 b73 => ?_)
          obtain rfl : p0 = y71 := (m65).symm.trans m72
          refine t_callS (As := [.int p0]) (rest := []) E hW (c_X12_personAt l G cI cJ cZ cD cR cT kp L f52 hW.2.2.2 _ p0 (by omega)) wk_X12_personAt tw_1572 rfl ⟨Nat.le_of_ble_eq_true rfl, Nat.le_of_ble_eq_true rfl⟩ ⟨rfl, rfl⟩ hl.1 rfl (Nat.le_of_ble_eq_true rfl) dX12_person_71 ⟨Nat.le_of_ble_eq_true rfl, Nat.le_of_ble_eq_true rfl⟩ (fun v74 f75 H locs q76 hW => ?_)
          obtain ⟨⟨x78, rfl, p79⟩, g77⟩ := q76
          have z80 : RF rw_X12_person_x f0 f75 h0 := rf_fm hTH z58 g77 rh0 rfl
          have hF := FM.tr hF g77 rfl
          refine lv_istore (lv' := [(4, .int x78), (0, .ref h0), (1, .int u1), (2, .int u2), (3, .int u3)]) hx hb dX12_person_74 hl (by decide) rfl (fun ls hl => ?_)
          refine lv_aload_n hx hb dX12_person_76 rfl (lv_at hl 1 rfl) ?_
          refine lv_iload hx hb dX12_person_77 (lv_at hl 0 rfl) ?_
          refine lv_iload_n hx hb dX12_person_79 rfl (lv_at hl 2 rfl) ?_
          refine lv_iload_n hx hb dX12_person_80 rfl (lv_at hl 3 rfl) ?_
          refine lv_iload_n hx hb dX12_person_81 rfl (lv_at hl 4 rfl) ?_
          refine lv_iconst (v := (-1)) hx hb dX12_person_82 (by decide) ?_
          have hk81 : ((-1) : Int32).toInt = -1 := rfl
          refine t_callV (As := [.int x78, .int u1, .int u2, .int u3, .int (-1)]) (rest := []) E hW (c_X12_addFour l G cI cJ cZ cD cR cT kp L f75 hW.2.2.2 _ h0 x78 u1 u2 u3 (-1) rh0 (by omega) (by omega) (by omega) (by omega) ⟨by omega, by omega, by unfold rbI; omega, by unfold rbI; omega, by unfold rbI; omega, by unfold rbI; omega⟩) rh0 (by decide) rfl wk_X12_addFour tw_1575 rfl ⟨Nat.le_of_ble_eq_true rfl, Nat.le_of_ble_eq_true rfl⟩ ⟨rfl, rfl⟩ hl.1 rfl (Nat.le_of_ble_eq_true rfl) dX12_person_83 ⟨Nat.le_of_ble_eq_true rfl, Nat.le_of_ble_eq_true rfl⟩ (fun v82 f83 H locs q84 hW => ?_)
          obtain ⟨rfl, g85, h86, h87⟩ := q84
          have z88 : RF rw_X12_person_x f0 f83 h0 := rf_call z80 h87 mR ((fm_R g77 rh0 rfl).trans m69) rfl
          have hF := FM.tr hF g85 rfl
          have m89 : aI (f83 pR) (0 : Int32).toNatClampNeg = p0 := by
            have z := h86
            rw [((fm_R g77 rh0 rfl).trans m69)] at z
            have z2 := tnc (i := 0) (by first | omega | decide)
            have hk : (0 : Int32).toInt = 0 := rfl
            exact (z _ (by omega)).trans ((congrArg (fun z => aI z (0 : Int32).toNatClampNeg) (fm_A g77 rR (by decide) rfl)).trans m72)
          refine lv_aload_n hx hb dX12_person_86 rfl (lv_at hl 1 rfl) ?_
          refine lv_iload hx hb dX12_person_87 (lv_at hl 0 rfl) ?_
          refine lv_iconst (v := 4) hx hb dX12_person_89 (by decide) ?_
          refine q_iadd (Y := 4) hx hb dX12_person_90 rfl rfl (by omega) (fun x90 h91 => ?_)
          refine lv_iconst (v := 0) hx hb dX12_person_91 (by decide) ?_
          refine lv_iconst (v := 0) hx hb dX12_person_92 (by decide) ?_
          refine lv_iconst (v := 0) hx hb dX12_person_93 (by decide) ?_
          refine lv_iconst (v := (-1)) hx hb dX12_person_94 (by decide) ?_
          have hk92 : (0 : Int32).toInt = 0 := rfl
          have hk93 : (0 : Int32).toInt = 0 := rfl
          have hk94 : (0 : Int32).toInt = 0 := rfl
          have hk95 : ((-1) : Int32).toInt = -1 := rfl
          refine t_callV (As := [.int x90, .int 0, .int 0, .int 0, .int (-1)]) (rest := []) E hW (c_X12_addFour l G cI cJ cZ cD cR cT kp L f83 hW.2.2.2 _ h0 x90 0 0 0 (-1) rh0 (by omega) (by decide) (by decide) (by decide) ⟨by omega, by omega, by unfold rbI; omega, by unfold rbI; omega, by unfold rbI; omega, by unfold rbI; omega⟩) rh0 (by decide) rfl wk_X12_addFour tw_1575 rfl ⟨Nat.le_of_ble_eq_true rfl, Nat.le_of_ble_eq_true rfl⟩ ⟨rfl, rfl⟩ hl.1 rfl (Nat.le_of_ble_eq_true rfl) dX12_person_95 ⟨Nat.le_of_ble_eq_true rfl, Nat.le_of_ble_eq_true rfl⟩ (fun v96 f97 H locs q98 hW => ?_)
          obtain ⟨rfl, g99, h100, h101⟩ := q98
          have z102 : RF rw_X12_person_x f0 f97 h0 := rf_call z88 h101 mR ((fm_R g85 rh0 rfl).trans ((fm_R g77 rh0 rfl).trans m69)) rfl
          have hF := FM.tr hF g99 rfl
          have m103 : aI (f97 pR) (0 : Int32).toNatClampNeg = p0 := by
            have z := h100
            rw [((fm_R g85 rh0 rfl).trans ((fm_R g77 rh0 rfl).trans m69))] at z
            have z2 := tnc (i := 0) (by first | omega | decide)
            have hk : (0 : Int32).toInt = 0 := rfl
            exact (z _ (by omega)).trans m89
          refine lv_aload_n hx hb dX12_person_98 rfl (lv_at hl 1 rfl) ?_
          refine fg_RX12_8 E hW rh0 dX12_person_99 (fun a104 m105 r106 => ?_)
          obtain rfl : pR = a104 := (((fm_R g99 rh0 rfl).trans ((fm_R g85 rh0 rfl).trans ((fm_R g77 rh0 rfl).trans m69)))).symm.trans m105
          refine lv_iconst (v := 0) hx hb dX12_person_102 (by decide) ?_
          refine lv_dup2_11 hx hb dX12_person_103 rfl rfl ?_
          refine gl_822 E hW rR (by decide) dX12_person_104 (fun y107 m108 b109 => ?_)
          obtain rfl : p0 = y107 := (m103).symm.trans m108
          refine lv_iconst (v := 1) hx hb dX12_person_105 (by decide) ?_
          refine q_iadd (Y := 1) hx hb dX12_person_106 rfl rfl (by omega) (fun x110 h111 => ?_)
          have hk112 : (0 : Int32).toInt = 0 := rfl
          refine gs_822 E hW rR (by decide) (fun hc => rr_up hc (by omega) (by omega) (by unfold rbI; omega)) dX12_person_107 (fun f113 H locs e114 n115 g116 hW => ?_)
          have m117 : oI (f113 h0) 0 = 0 := ((fm_I g116 rh0 rfl).trans ((fm_I g99 rh0 rfl).trans ((fm_I g85 rh0 rfl).trans ((fm_I g77 rh0 rfl).trans ((fm_I g54 rh0 rfl).trans ((fm_I g33 rh0 rfl).trans ((fm_I g12 rh0 rfl).trans e2)))))))
          have z118 : RF rw_X12_person_x f0 f113 h0 := rf_st (lo := 0) (hi := 0) z102 mR e114 (by decide) rfl
          have hF := FM.tr hF g116 rfl
          refine lv_aload_n hx hb dX12_person_108 rfl (lv_at hl 1 rfl) ?_
          refine lv_aload_n hx hb dX12_person_109 rfl (lv_at hl 1 rfl) ?_
          refine fg_RX12_8 E hW rh0 dX12_person_110 (fun a119 m120 r121 => ?_)
          obtain rfl : pR = a119 := (((fm_R g116 rh0 rfl).trans m105)).symm.trans m120
          refine lv_iconst (v := 0) hx hb dX12_person_113 (by decide) ?_
          refine gl_822 E hW rR (by decide) dX12_person_114 (fun y122 m123 b124 => ?_)
          obtain rfl : x110 = y122 := ((show aI (f113 pR) (0 : Int32).toNatClampNeg = x110 from by rw [e114]; exact up_s)).symm.trans m123
          refine lv_iconst (v := 1) hx hb dX12_person_115 (by decide) ?_
          refine q_isub (Y := 1) hx hb dX12_person_116 rfl rfl (by omega) (fun x125 h126 => ?_)
          refine t_callV (As := [.int x125]) (rest := []) E hW (c_X12_told_x l G cI cJ cZ cD cR cT kp L f113 hW.2.2.2 _ h0 x125 rh0) rh0 (by decide) rfl wk_X12_told tw_1557 rfl ⟨Nat.le_of_ble_eq_true rfl, Nat.le_of_ble_eq_true rfl⟩ ⟨rfl, rfl⟩ hl.1 rfl (Nat.le_of_ble_eq_true rfl) dX12_person_117 ⟨Nat.le_of_ble_eq_true rfl, Nat.le_of_ble_eq_true rfl⟩ (fun v127 f128 H locs q129 hW => ?_)
          obtain ⟨⟨x131, rfl, p132⟩, g130⟩ := q129
          have z133 : RF rw_X12_person_x f0 f128 h0 := rf_fm hTH z118 g130 rh0 rfl
          have hF := FM.tr hF g130 rfl
          exact e_I E hW rfl ⟨⟨_, rfl, (by rw [mR, ((congrArg (fun z => aI z (0 : Int32).toNatClampNeg) (fm_A g130 rR (by decide) rfl)).trans m123), mp0]; omega)⟩, hF, z133⟩ dX12_person_120
        · refine lv_aload_n hx hb dX12_person_58 rfl (lv_at hl 0 rfl) ?_
          refine lv_bipush (v := (-5)) hx hb dX12_person_59 (by decide) ?_
          refine t_callV (As := [.int (-5)]) (rest := []) E hW (c_X12_told_x l G cI cJ cZ cD cR cT kp L f52 hW.2.2.2 _ h0 (-5) rh0) rh0 (by decide) rfl wk_X12_told tw_1557 rfl ⟨Nat.le_of_ble_eq_true rfl, Nat.le_of_ble_eq_true rfl⟩ ⟨rfl, rfl⟩ hl.1 rfl (Nat.le_of_ble_eq_true rfl) dX12_person_61 ⟨Nat.le_of_ble_eq_true rfl, Nat.le_of_ble_eq_true rfl⟩ (fun v134 f135 H locs q136 hW => ?_)
          obtain ⟨⟨x138, rfl, p139⟩, g137⟩ := q136
          have p139 : x138.toInt = (-5 : Int) := p139
          have z140 : RF rw_X12_person_x f0 f135 h0 := rf_fm hTH z58 g137 rh0 rfl
          have hF := FM.tr hF g137 rfl
          exact e_I E hW rfl ⟨⟨_, rfl, (by rw [mR, ((congrArg (fun z => aI z (0 : Int32).toNatClampNeg) (fm_A g137 rR (by decide) rfl)).trans m65), mp0]; omega)⟩, hF, z140⟩ dX12_person_64
      · have q141 : (x48.toInt < (0 : Int) ∨ (100 : Int) < x48.toInt) := by omega
        clear p56
        refine lv_aload_n hx hb dX12_person_41 rfl (lv_at hl 0 rfl) ?_
        refine lv_iconst (v := (-1)) hx hb dX12_person_42 (by decide) ?_
        refine t_callV (As := [.int (-1)]) (rest := []) E hW (c_X12_told_x l G cI cJ cZ cD cR cT kp L f52 hW.2.2.2 _ h0 (-1) rh0) rh0 (by decide) rfl wk_X12_told tw_1557 rfl ⟨Nat.le_of_ble_eq_true rfl, Nat.le_of_ble_eq_true rfl⟩ ⟨rfl, rfl⟩ hl.1 rfl (Nat.le_of_ble_eq_true rfl) dX12_person_43 ⟨Nat.le_of_ble_eq_true rfl, Nat.le_of_ble_eq_true rfl⟩ (fun v142 f143 H locs q144 hW => ?_)
        obtain ⟨⟨x146, rfl, p147⟩, g145⟩ := q144
        have p147 : x146.toInt = (-1 : Int) := p147
        have z148 : RF rw_X12_person_x f0 f143 h0 := rf_fm hTH z58 g145 rh0 rfl
        have hF := FM.tr hF g145 rfl
        exact e_I E hW rfl ⟨⟨_, rfl, (by rw [mR, ((congrArg (fun z => aI z (0 : Int32).toNatClampNeg) (fm_A g145 rR (by decide) rfl)).trans m57), mp0]; omega)⟩, hF, z148⟩ dX12_person_46
def rw_X12_estate_x : List (Nat × Nat) := [(1, 1), (340, 363)]
def ms_X12_estate_x : List (Nat × Nat) := [(12, 0), (12, 1), (822, 0)]
def po_X12_estate_x (kp : Nat → Nat) (L : List Nat) (f0 : Nat → va_E) (h0 : Nat) (u1 : Int32) (u2 : Int32) : Option Value → (Nat → va_E) → Prop := fun v f => (∃ r : Int32, v = some (.int r) ∧ ((¬ ((0 ≤ u1.toInt ∧ u1.toInt ≤ 10000000) ∧ 0 ≤ u2.toInt ∧ u2.toInt ≤ 1000000) ∧ r.toInt = -1 ∧ (aI (f (oR (f0 h0) 2)) (1 : Int32).toNatClampNeg).toInt = (aI (f0 (oR (f0 h0) 2)) (1 : Int32).toNatClampNeg).toInt) ∨ (((0 ≤ u1.toInt ∧ u1.toInt ≤ 10000000) ∧ 0 ≤ u2.toInt ∧ u2.toInt ≤ 1000000) ∧ 8 ≤ (aI (f0 (oR (f0 h0) 2)) (1 : Int32).toNatClampNeg).toInt ∧ r.toInt = -5 ∧ (aI (f (oR (f0 h0) 2)) (1 : Int32).toNatClampNeg).toInt = (aI (f0 (oR (f0 h0) 2)) (1 : Int32).toNatClampNeg).toInt) ∨ (((0 ≤ u1.toInt ∧ u1.toInt ≤ 10000000) ∧ 0 ≤ u2.toInt ∧ u2.toInt ≤ 1000000) ∧ (aI (f0 (oR (f0 h0) 2)) (1 : Int32).toNatClampNeg).toInt < 8 ∧ r.toInt = (aI (f0 (oR (f0 h0) 2)) (1 : Int32).toNatClampNeg).toInt ∧ (aI (f (oR (f0 h0) 2)) (1 : Int32).toNatClampNeg).toInt = (aI (f0 (oR (f0 h0) 2)) (1 : Int32).toNatClampNeg).toInt + 1))) ∧ FM kp L ms_X12_estate_x f0 f ∧ (RF rw_X12_estate_x f0 f h0)
set_option maxHeartbeats 4000000 in
set_option maxRecDepth 100000 in
theorem c_X12_estate_x (l : Launch) (G : va_G) (cI cJ cZ cD cR cT : ClassId) (kp : Nat → Nat) (L : List Nat) (f0 : Nat → va_E) (hTH : TH cI cJ cZ cD cR cT kp L f0) (sz : Nat) (h0 : Nat) (u1 : Int32) (u2 : Int32) (rh0 : RK kp L h0 12) : Met l yX12_estate (Cond.code yX12_estate cX12_estate 4 (some .int) :: wTab) ({ frames := 2, cells := 0, slots := 0, locals := 65 }) (va_Pc [.ref h0, .int u1, .int u2] (PreW G (tys6 cI cJ cZ cD cR cT) (va_pl L f0) sz)) (QT (po_X12_estate_x kp L f0 h0 u1 u2) G cI cJ cZ cD cR cT (va_A (va_pl L f0) sz) kp L) 0 0 (va_A (va_pl L f0) sz) := by
  refine metT (by decide) (Nat.le_of_ble_eq_true rfl) hTH ?_
  intro p e s m below meth c A ls E hW hl
  obtain ⟨hx, hb, -, hml, hown, hts, -, -, -⟩ := id E
  have hF : FM kp L ms_X12_estate_x f0 f0 := FM.rf
  have hl : lv_has ls 4 [(0, .ref h0), (1, .int u1), (2, .int u2)] := hl
  obtain ⟨pR, mR⟩ : ∃ x : Nat, oR (f0 h0) 2 = x := ⟨_, rfl⟩
  have rR : RK kp L pR 822 := by rw [← mR]; exact th_ref hTH rh0 (by decide) (by decide) rfl
  obtain ⟨p1, mp1⟩ : ∃ x : Int32, aI (f0 pR) (1 : Int32).toNatClampNeg = x := ⟨_, rfl⟩
  have hr1 : (0 : Int) ≤ p1.toInt ∧ p1.toInt ≤ 8 := rr_1 (th_row hTH rR) mp1 rfl
  refine lv_aload_n hx hb dX12_estate_0 rfl (lv_at hl 0 rfl) ?_
  refine lv_iconst (v := 0) hx hb dX12_estate_1 (by decide) ?_
  refine fp_RX12_82 E hW rh0 dX12_estate_2 (fun f1 H locs e2 n3 g4 hW => ?_)
  have z5 : RF rw_X12_estate_x f0 f1 h0 := rf_fm hTH rf_rf g4 rh0 rfl
  have hF := FM.tr hF g4 rfl
  refine lv_iload_n hx hb dX12_estate_5 rfl (lv_at hl 1 rfl) ?_
  refine q_i2l hx hb dX12_estate_6 rfl (fun x6 h7 => ?_)
  have hb8 : -2147483648 ≤ x6.toInt ∧ x6.toInt ≤ 2147483647 := by have := i32_b u1; omega
  refine lv_lconst (v := 0) hx hb dX12_estate_7 (by decide) ?_
  refine lv_ldc2 (v := 10000000) hx hb hown (hts _ tw_1601) dX12_estate_8 ?_
  refine t_callS (As := [.long x6, .long 0, .long 10000000]) (rest := []) E hW (c_X12_in l G cI cJ cZ cD cR cT kp L f1 hW.2.2.2 _ x6 0 10000000) wk_X12_in tw_1554 rfl ⟨Nat.le_of_ble_eq_true rfl, Nat.le_of_ble_eq_true rfl⟩ ⟨rfl, rfl⟩ hl.1 rfl (Nat.le_of_ble_eq_true rfl) dX12_estate_11 ⟨Nat.le_of_ble_eq_true rfl, Nat.le_of_ble_eq_true rfl⟩ (fun v9 f10 H locs q11 hW => ?_)
  obtain ⟨⟨x13, rfl, p14⟩, g12⟩ := q11
  have p14 : (x13.toInt = 1 ∧ (0 : Int) ≤ x6.toInt ∧ x6.toInt ≤ (10000000 : Int)) ∨ (x13.toInt = 0 ∧ (x6.toInt < (0 : Int) ∨ (10000000 : Int) < x6.toInt)) := p14
  have m15 : aI (f10 pR) (1 : Int32).toNatClampNeg = p1 := ((congrArg (fun z => aI z (1 : Int32).toNatClampNeg) (fm_A g12 rR (by decide) rfl)).trans ((congrArg (fun z => aI z (1 : Int32).toNatClampNeg) (fm_A g4 rR (by decide) rfl)).trans mp1))
  have z16 : RF rw_X12_estate_x f0 f10 h0 := rf_fm hTH z5 g12 rh0 rfl
  have hF := FM.tr hF g12 rfl
  refine q_if_eq (tgt := 29) hx hb dX12_estate_14 (by decide) rfl (fun c17 => ?_) (fun c17 => ?_)
  · have q18 : (x6.toInt < (0 : Int) ∨ (10000000 : Int) < x6.toInt) := by omega
    clear p14
    refine lv_aload_n hx hb dX12_estate_29 rfl (lv_at hl 0 rfl) ?_
    refine lv_iconst (v := (-1)) hx hb dX12_estate_30 (by decide) ?_
    refine t_callV (As := [.int (-1)]) (rest := []) E hW (c_X12_told_x l G cI cJ cZ cD cR cT kp L f10 hW.2.2.2 _ h0 (-1) rh0) rh0 (by decide) rfl wk_X12_told tw_1557 rfl ⟨Nat.le_of_ble_eq_true rfl, Nat.le_of_ble_eq_true rfl⟩ ⟨rfl, rfl⟩ hl.1 rfl (Nat.le_of_ble_eq_true rfl) dX12_estate_31 ⟨Nat.le_of_ble_eq_true rfl, Nat.le_of_ble_eq_true rfl⟩ (fun v19 f20 H locs q21 hW => ?_)
    obtain ⟨⟨x23, rfl, p24⟩, g22⟩ := q21
    have p24 : x23.toInt = (-1 : Int) := p24
    have z25 : RF rw_X12_estate_x f0 f20 h0 := rf_fm hTH z16 g22 rh0 rfl
    have hF := FM.tr hF g22 rfl
    exact e_I E hW rfl ⟨⟨_, rfl, (by rw [mR, ((congrArg (fun z => aI z (1 : Int32).toNatClampNeg) (fm_A g22 rR (by decide) rfl)).trans m15), mp1]; omega)⟩, hF, z25⟩ dX12_estate_34
  · have q26 : (0 : Int) ≤ x6.toInt ∧ x6.toInt ≤ (10000000 : Int) := by omega
    clear p14
    refine lv_iload_n hx hb dX12_estate_17 rfl (lv_at hl 2 rfl) ?_
    refine q_i2l hx hb dX12_estate_18 rfl (fun x27 h28 => ?_)
    have hb29 : -2147483648 ≤ x27.toInt ∧ x27.toInt ≤ 2147483647 := by have := i32_b u2; omega
    refine lv_lconst (v := 0) hx hb dX12_estate_19 (by decide) ?_
    refine lv_ldc2 (v := 1000000) hx hb hown (hts _ tw_1570) dX12_estate_20 ?_
    refine t_callS (As := [.long x27, .long 0, .long 1000000]) (rest := []) E hW (c_X12_in l G cI cJ cZ cD cR cT kp L f10 hW.2.2.2 _ x27 0 1000000) wk_X12_in tw_1554 rfl ⟨Nat.le_of_ble_eq_true rfl, Nat.le_of_ble_eq_true rfl⟩ ⟨rfl, rfl⟩ hl.1 rfl (Nat.le_of_ble_eq_true rfl) dX12_estate_23 ⟨Nat.le_of_ble_eq_true rfl, Nat.le_of_ble_eq_true rfl⟩ (fun v30 f31 H locs q32 hW => ?_)
    obtain ⟨⟨x34, rfl, p35⟩, g33⟩ := q32
    have p35 : (x34.toInt = 1 ∧ (0 : Int) ≤ x27.toInt ∧ x27.toInt ≤ (1000000 : Int)) ∨ (x34.toInt = 0 ∧ (x27.toInt < (0 : Int) ∨ (1000000 : Int) < x27.toInt)) := p35
    have z36 : RF rw_X12_estate_x f0 f31 h0 := rf_fm hTH z16 g33 rh0 rfl
    have hF := FM.tr hF g33 rfl
    refine q_if_ne (tgt := 35) hx hb dX12_estate_26 (by decide) rfl (fun c37 => ?_) (fun c37 => ?_)
    · have q38 : (0 : Int) ≤ x27.toInt ∧ x27.toInt ≤ (1000000 : Int) := by omega
      clear p35
      refine lv_aload_n hx hb dX12_estate_35 rfl (lv_at hl 0 rfl) ?_
      refine fg_RX12_8 E hW rh0 dX12_estate_36 (fun a39 m40 r41 => ?_)
      obtain rfl : pR = a39 := (((fm_R g33 rh0 rfl).trans ((fm_R g12 rh0 rfl).trans ((fm_R g4 rh0 rfl).trans mR)))).symm.trans m40
      refine lv_iconst (v := 1) hx hb dX12_estate_39 (by decide) ?_
      refine gl_822 E hW rR (by decide) dX12_estate_40 (fun y42 m43 b44 => ?_)
      obtain rfl : p1 = y42 := (((congrArg (fun z => aI z (1 : Int32).toNatClampNeg) (fm_A g33 rR (by decide) rfl)).trans m15)).symm.trans m43
      refine lv_bipush (v := 8) hx hb dX12_estate_41 (by decide) ?_
      refine q_icmp_ne (Y := 8) (tgt := 53) hx hb dX12_estate_43 (by decide) rfl rfl (fun c45 => ?_) (fun c45 => ?_)
      · refine lv_aload_n hx hb dX12_estate_53 rfl (lv_at hl 0 rfl) ?_
        refine fg_RX12_8 E hW rh0 dX12_estate_54 (fun a46 m47 r48 => ?_)
        obtain rfl : pR = a46 := (m40).symm.trans m47
        refine lv_iconst (v := 1) hx hb dX12_estate_57 (by decide) ?_
        refine gl_822 E hW rR (by decide) dX12_estate_58 (fun y49 m50 b51 => ?_)
        obtain rfl : p1 = y49 := (m43).symm.trans m50
        refine t_callS (As := [.int p1]) (rest := []) E hW (c_X12_estateAt l G cI cJ cZ cD cR cT kp L f31 hW.2.2.2 _ p1 (by omega)) wk_X12_estateAt tw_1611 rfl ⟨Nat.le_of_ble_eq_true rfl, Nat.le_of_ble_eq_true rfl⟩ ⟨rfl, rfl⟩ hl.1 rfl (Nat.le_of_ble_eq_true rfl) dX12_estate_59 ⟨Nat.le_of_ble_eq_true rfl, Nat.le_of_ble_eq_true rfl⟩ (fun v52 f53 H locs q54 hW => ?_)
        obtain ⟨⟨x56, rfl, p57⟩, g55⟩ := q54
        have z58 : RF rw_X12_estate_x f0 f53 h0 := rf_fm hTH z36 g55 rh0 rfl
        have hF := FM.tr hF g55 rfl
        refine lv_istore_n (lv' := [(3, .int x56), (0, .ref h0), (1, .int u1), (2, .int u2)]) hx hb dX12_estate_62 rfl hl (by decide) rfl (fun ls hl => ?_)
        refine lv_aload_n hx hb dX12_estate_63 rfl (lv_at hl 1 rfl) ?_
        refine fg_RX12_8 E hW rh0 dX12_estate_64 (fun a59 m60 r61 => ?_)
        obtain rfl : pR = a59 := (((fm_R g55 rh0 rfl).trans m47)).symm.trans m60
        refine lv_iload_n hx hb dX12_estate_67 rfl (lv_at hl 0 rfl) ?_
        refine lv_iload_n hx hb dX12_estate_68 rfl (lv_at hl 2 rfl) ?_
        refine gs_822 E hW rR ⟨by omega, by omega⟩ (fun hc => rr_up hc (by omega) (by omega) (by unfold rbI; omega)) dX12_estate_69 (fun f62 H locs e63 n64 g65 hW => ?_)
        have z66 : RF rw_X12_estate_x f0 f62 h0 := rf_st (lo := 340) (hi := 361) z58 mR e63 (by omega) rfl
        have hF := FM.tr hF g65 rfl
        refine lv_aload_n hx hb dX12_estate_70 rfl (lv_at hl 1 rfl) ?_
        refine fg_RX12_8 E hW rh0 dX12_estate_71 (fun a67 m68 r69 => ?_)
        obtain rfl : pR = a67 := (((fm_R g65 rh0 rfl).trans m60)).symm.trans m68
        refine lv_iload_n hx hb dX12_estate_74 rfl (lv_at hl 0 rfl) ?_
        refine lv_iconst (v := 1) hx hb dX12_estate_75 (by decide) ?_
        refine q_iadd (Y := 1) hx hb dX12_estate_76 rfl rfl (by omega) (fun x70 h71 => ?_)
        refine lv_iload_n hx hb dX12_estate_77 rfl (lv_at hl 3 rfl) ?_
        refine gs_822 E hW rR ⟨by omega, by omega⟩ (fun hc => rr_up hc (by omega) (by omega) (by unfold rbI; omega)) dX12_estate_78 (fun f72 H locs e73 n74 g75 hW => ?_)
        have z76 : RF rw_X12_estate_x f0 f72 h0 := rf_st (lo := 341) (hi := 362) z66 mR e73 (by omega) rfl
        have hF := FM.tr hF g75 rfl
        refine lv_aload_n hx hb dX12_estate_79 rfl (lv_at hl 1 rfl) ?_
        refine fg_RX12_8 E hW rh0 dX12_estate_80 (fun a77 m78 r79 => ?_)
        obtain rfl : pR = a77 := (((fm_R g75 rh0 rfl).trans m68)).symm.trans m78
        refine lv_iload_n hx hb dX12_estate_83 rfl (lv_at hl 0 rfl) ?_
        refine lv_iconst (v := 2) hx hb dX12_estate_84 (by decide) ?_
        refine q_iadd (Y := 2) hx hb dX12_estate_85 rfl rfl (by omega) (fun x80 h81 => ?_)
        refine lv_iconst (v := (-1)) hx hb dX12_estate_86 (by decide) ?_
        have hk82 : ((-1) : Int32).toInt = -1 := rfl
        refine gs_822 E hW rR ⟨by omega, by omega⟩ (fun hc => rr_up hc (by omega) (by omega) (by unfold rbI; omega)) dX12_estate_87 (fun f83 H locs e84 n85 g86 hW => ?_)
        have z87 : RF rw_X12_estate_x f0 f83 h0 := rf_st (lo := 342) (hi := 363) z76 mR e84 (by omega) rfl
        have hF := FM.tr hF g86 rfl
        refine lv_aload_n hx hb dX12_estate_88 rfl (lv_at hl 1 rfl) ?_
        refine fg_RX12_8 E hW rh0 dX12_estate_89 (fun a88 m89 r90 => ?_)
        obtain rfl : pR = a88 := (((fm_R g86 rh0 rfl).trans m78)).symm.trans m89
        refine lv_iconst (v := 1) hx hb dX12_estate_92 (by decide) ?_
        refine lv_dup2_11 hx hb dX12_estate_93 rfl rfl ?_
        refine gl_822 E hW rR (by decide) dX12_estate_94 (fun y91 m92 b93 => ?_)
        obtain rfl : p1 = y91 := ((show aI (f83 pR) (1 : Int32).toNatClampNeg = p1 from by rw [e84, up_n (tn_ne (by omega) (by decide) (by have hk0 : (1 : Int32).toInt = 1 := rfl; omega))]; exact (show aI (f72 pR) (1 : Int32).toNatClampNeg = p1 from by rw [e73, up_n (tn_ne (by omega) (by decide) (by have hk0 : (1 : Int32).toInt = 1 := rfl; omega))]; exact (show aI (f62 pR) (1 : Int32).toNatClampNeg = p1 from by rw [e63, up_n (tn_ne (by omega) (by decide) (by have hk0 : (1 : Int32).toInt = 1 := rfl; omega))]; exact ((congrArg (fun z => aI z (1 : Int32).toNatClampNeg) (fm_A g55 rR (by decide) rfl)).trans m50))))).symm.trans m92
        refine lv_iconst (v := 1) hx hb dX12_estate_95 (by decide) ?_
        refine q_iadd (Y := 1) hx hb dX12_estate_96 rfl rfl (by omega) (fun x94 h95 => ?_)
        have hk96 : (1 : Int32).toInt = 1 := rfl
        refine gs_822 E hW rR (by decide) (fun hc => rr_up hc (by omega) (by omega) (by unfold rbI; omega)) dX12_estate_97 (fun f97 H locs e98 n99 g100 hW => ?_)
        have m101 : oI (f97 h0) 0 = 0 := ((fm_I g100 rh0 rfl).trans ((fm_I g86 rh0 rfl).trans ((fm_I g75 rh0 rfl).trans ((fm_I g65 rh0 rfl).trans ((fm_I g55 rh0 rfl).trans ((fm_I g33 rh0 rfl).trans ((fm_I g12 rh0 rfl).trans e2)))))))
        have z102 : RF rw_X12_estate_x f0 f97 h0 := rf_st (lo := 1) (hi := 1) z87 mR e98 (by decide) rfl
        have hF := FM.tr hF g100 rfl
        refine lv_aload_n hx hb dX12_estate_98 rfl (lv_at hl 1 rfl) ?_
        refine lv_aload_n hx hb dX12_estate_99 rfl (lv_at hl 1 rfl) ?_
        refine fg_RX12_8 E hW rh0 dX12_estate_100 (fun a103 m104 r105 => ?_)
        obtain rfl : pR = a103 := (((fm_R g100 rh0 rfl).trans m89)).symm.trans m104
        refine lv_iconst (v := 1) hx hb dX12_estate_103 (by decide) ?_
        refine gl_822 E hW rR (by decide) dX12_estate_104 (fun y106 m107 b108 => ?_)
        obtain rfl : x94 = y106 := ((show aI (f97 pR) (1 : Int32).toNatClampNeg = x94 from by rw [e98]; exact up_s)).symm.trans m107
        refine lv_iconst (v := 1) hx hb dX12_estate_105 (by decide) ?_
        refine q_isub (Y := 1) hx hb dX12_estate_106 rfl rfl (by omega) (fun x109 h110 => ?_)
        refine t_callV (As := [.int x109]) (rest := []) E hW (c_X12_told_x l G cI cJ cZ cD cR cT kp L f97 hW.2.2.2 _ h0 x109 rh0) rh0 (by decide) rfl wk_X12_told tw_1557 rfl ⟨Nat.le_of_ble_eq_true rfl, Nat.le_of_ble_eq_true rfl⟩ ⟨rfl, rfl⟩ hl.1 rfl (Nat.le_of_ble_eq_true rfl) dX12_estate_107 ⟨Nat.le_of_ble_eq_true rfl, Nat.le_of_ble_eq_true rfl⟩ (fun v111 f112 H locs q113 hW => ?_)
        obtain ⟨⟨x115, rfl, p116⟩, g114⟩ := q113
        have m117 : aI (f112 pR) (x56 : Int32).toNatClampNeg = u1 := ((congrArg (fun z => aI z (x56 : Int32).toNatClampNeg) (fm_A g114 rR (by decide) rfl)).trans (show aI (f97 pR) (x56 : Int32).toNatClampNeg = u1 from by rw [e98, up_n (tn_ne (by decide) (by omega) (by have hk0 : (1 : Int32).toInt = 1 := rfl; omega))]; exact (show aI (f83 pR) (x56 : Int32).toNatClampNeg = u1 from by rw [e84, up_n (tn_ne (by omega) (by omega) (by omega))]; exact (show aI (f72 pR) (x56 : Int32).toNatClampNeg = u1 from by rw [e73, up_n (tn_ne (by omega) (by omega) (by omega))]; exact (show aI (f62 pR) (x56 : Int32).toNatClampNeg = u1 from by rw [e63]; exact up_s)))))
        have m118 : aI (f112 pR) (x70 : Int32).toNatClampNeg = u2 := ((congrArg (fun z => aI z (x70 : Int32).toNatClampNeg) (fm_A g114 rR (by decide) rfl)).trans (show aI (f97 pR) (x70 : Int32).toNatClampNeg = u2 from by rw [e98, up_n (tn_ne (by decide) (by omega) (by have hk0 : (1 : Int32).toInt = 1 := rfl; omega))]; exact (show aI (f83 pR) (x70 : Int32).toNatClampNeg = u2 from by rw [e84, up_n (tn_ne (by omega) (by omega) (by omega))]; exact (show aI (f72 pR) (x70 : Int32).toNatClampNeg = u2 from by rw [e73]; exact up_s))))
        have m119 : aI (f112 pR) (x80 : Int32).toNatClampNeg = (-1) := ((congrArg (fun z => aI z (x80 : Int32).toNatClampNeg) (fm_A g114 rR (by decide) rfl)).trans (show aI (f97 pR) (x80 : Int32).toNatClampNeg = (-1) from by rw [e98, up_n (tn_ne (by decide) (by omega) (by have hk0 : (1 : Int32).toInt = 1 := rfl; omega))]; exact (show aI (f83 pR) (x80 : Int32).toNatClampNeg = (-1) from by rw [e84]; exact up_s)))
        have z120 : RF rw_X12_estate_x f0 f112 h0 := rf_fm hTH z102 g114 rh0 rfl
        have hF := FM.tr hF g114 rfl
        exact e_I E hW rfl ⟨⟨_, rfl, (by rw [mR, ((congrArg (fun z => aI z (1 : Int32).toNatClampNeg) (fm_A g114 rR (by decide) rfl)).trans m107), mp1]; omega)⟩, hF, z120⟩ dX12_estate_110
      · refine lv_aload_n hx hb dX12_estate_46 rfl (lv_at hl 0 rfl) ?_
        refine lv_bipush (v := (-5)) hx hb dX12_estate_47 (by decide) ?_
        refine t_callV (As := [.int (-5)]) (rest := []) E hW (c_X12_told_x l G cI cJ cZ cD cR cT kp L f31 hW.2.2.2 _ h0 (-5) rh0) rh0 (by decide) rfl wk_X12_told tw_1557 rfl ⟨Nat.le_of_ble_eq_true rfl, Nat.le_of_ble_eq_true rfl⟩ ⟨rfl, rfl⟩ hl.1 rfl (Nat.le_of_ble_eq_true rfl) dX12_estate_49 ⟨Nat.le_of_ble_eq_true rfl, Nat.le_of_ble_eq_true rfl⟩ (fun v121 f122 H locs q123 hW => ?_)
        obtain ⟨⟨x125, rfl, p126⟩, g124⟩ := q123
        have p126 : x125.toInt = (-5 : Int) := p126
        have z127 : RF rw_X12_estate_x f0 f122 h0 := rf_fm hTH z36 g124 rh0 rfl
        have hF := FM.tr hF g124 rfl
        exact e_I E hW rfl ⟨⟨_, rfl, (by rw [mR, ((congrArg (fun z => aI z (1 : Int32).toNatClampNeg) (fm_A g124 rR (by decide) rfl)).trans m43), mp1]; omega)⟩, hF, z127⟩ dX12_estate_52
    · have q128 : (x27.toInt < (0 : Int) ∨ (1000000 : Int) < x27.toInt) := by omega
      clear p35
      refine lv_aload_n hx hb dX12_estate_29 rfl (lv_at hl 0 rfl) ?_
      refine lv_iconst (v := (-1)) hx hb dX12_estate_30 (by decide) ?_
      refine t_callV (As := [.int (-1)]) (rest := []) E hW (c_X12_told_x l G cI cJ cZ cD cR cT kp L f31 hW.2.2.2 _ h0 (-1) rh0) rh0 (by decide) rfl wk_X12_told tw_1557 rfl ⟨Nat.le_of_ble_eq_true rfl, Nat.le_of_ble_eq_true rfl⟩ ⟨rfl, rfl⟩ hl.1 rfl (Nat.le_of_ble_eq_true rfl) dX12_estate_31 ⟨Nat.le_of_ble_eq_true rfl, Nat.le_of_ble_eq_true rfl⟩ (fun v129 f130 H locs q131 hW => ?_)
      obtain ⟨⟨x133, rfl, p134⟩, g132⟩ := q131
      have p134 : x133.toInt = (-1 : Int) := p134
      have m135 : aI (f130 pR) (1 : Int32).toNatClampNeg = p1 := ((congrArg (fun z => aI z (1 : Int32).toNatClampNeg) (fm_A g132 rR (by decide) rfl)).trans ((congrArg (fun z => aI z (1 : Int32).toNatClampNeg) (fm_A g33 rR (by decide) rfl)).trans m15))
      have z136 : RF rw_X12_estate_x f0 f130 h0 := rf_fm hTH z36 g132 rh0 rfl
      have hF := FM.tr hF g132 rfl
      exact e_I E hW rfl ⟨⟨_, rfl, (by rw [mR, m135, mp1]; omega)⟩, hF, z136⟩ dX12_estate_34
def rw_X12_offer_x : List (Nat × Nat) := [(6, 6), (1164, 1181)]
def ms_X12_offer_x : List (Nat × Nat) := [(12, 0), (12, 1), (822, 0)]
def po_X12_offer_x (kp : Nat → Nat) (L : List Nat) (f0 : Nat → va_E) (h0 : Nat) (u1 : Int32) (u2 : Int32) : Option Value → (Nat → va_E) → Prop := fun v f => (∃ r : Int32, v = some (.int r) ∧ ((¬ ((-1000 ≤ u1.toInt ∧ u1.toInt ≤ 1000) ∧ -1000 ≤ u2.toInt ∧ u2.toInt ≤ 1000) ∧ r.toInt = -1 ∧ (aI (f (oR (f0 h0) 2)) (6 : Int32).toNatClampNeg).toInt = (aI (f0 (oR (f0 h0) 2)) (6 : Int32).toNatClampNeg).toInt) ∨ (((-1000 ≤ u1.toInt ∧ u1.toInt ≤ 1000) ∧ -1000 ≤ u2.toInt ∧ u2.toInt ≤ 1000) ∧ 9 ≤ (aI (f0 (oR (f0 h0) 2)) (6 : Int32).toNatClampNeg).toInt ∧ r.toInt = -5 ∧ (aI (f (oR (f0 h0) 2)) (6 : Int32).toNatClampNeg).toInt = (aI (f0 (oR (f0 h0) 2)) (6 : Int32).toNatClampNeg).toInt) ∨ (((-1000 ≤ u1.toInt ∧ u1.toInt ≤ 1000) ∧ -1000 ≤ u2.toInt ∧ u2.toInt ≤ 1000) ∧ (aI (f0 (oR (f0 h0) 2)) (6 : Int32).toNatClampNeg).toInt < 9 ∧ r.toInt = (aI (f0 (oR (f0 h0) 2)) (6 : Int32).toNatClampNeg).toInt + 1 ∧ (aI (f (oR (f0 h0) 2)) (6 : Int32).toNatClampNeg).toInt = (aI (f0 (oR (f0 h0) 2)) (6 : Int32).toNatClampNeg).toInt + 1))) ∧ FM kp L ms_X12_offer_x f0 f ∧ (RF rw_X12_offer_x f0 f h0)
set_option maxHeartbeats 4000000 in
set_option maxRecDepth 100000 in
theorem c_X12_offer_x (l : Launch) (G : va_G) (cI cJ cZ cD cR cT : ClassId) (kp : Nat → Nat) (L : List Nat) (f0 : Nat → va_E) (hTH : TH cI cJ cZ cD cR cT kp L f0) (sz : Nat) (h0 : Nat) (u1 : Int32) (u2 : Int32) (rh0 : RK kp L h0 12) : Met l yX12_offer (Cond.code yX12_offer cX12_offer 3 (some .int) :: wTab) ({ frames := 2, cells := 0, slots := 0, locals := 65 }) (va_Pc [.ref h0, .int u1, .int u2] (PreW G (tys6 cI cJ cZ cD cR cT) (va_pl L f0) sz)) (QT (po_X12_offer_x kp L f0 h0 u1 u2) G cI cJ cZ cD cR cT (va_A (va_pl L f0) sz) kp L) 0 0 (va_A (va_pl L f0) sz) := by
  refine metT (by decide) (Nat.le_of_ble_eq_true rfl) hTH ?_
  intro p e s m below meth c A ls E hW hl
  obtain ⟨hx, hb, -, hml, hown, hts, -, -, -⟩ := id E
  have hF : FM kp L ms_X12_offer_x f0 f0 := FM.rf
  have hl : lv_has ls 3 [(0, .ref h0), (1, .int u1), (2, .int u2)] := hl
  obtain ⟨pR, mR⟩ : ∃ x : Nat, oR (f0 h0) 2 = x := ⟨_, rfl⟩
  have rR : RK kp L pR 822 := by rw [← mR]; exact th_ref hTH rh0 (by decide) (by decide) rfl
  obtain ⟨p6, mp6⟩ : ∃ x : Int32, aI (f0 pR) (6 : Int32).toNatClampNeg = x := ⟨_, rfl⟩
  have hr6 : (0 : Int) ≤ p6.toInt ∧ p6.toInt ≤ 9 := rr_6 (th_row hTH rR) mp6 rfl
  refine lv_aload_n hx hb dX12_offer_0 rfl (lv_at hl 0 rfl) ?_
  refine lv_iconst (v := 0) hx hb dX12_offer_1 (by decide) ?_
  refine fp_RX12_82 E hW rh0 dX12_offer_2 (fun f1 H locs e2 n3 g4 hW => ?_)
  have z5 : RF rw_X12_offer_x f0 f1 h0 := rf_fm hTH rf_rf g4 rh0 rfl
  have hF := FM.tr hF g4 rfl
  refine lv_iload_n hx hb dX12_offer_5 rfl (lv_at hl 1 rfl) ?_
  refine q_i2l hx hb dX12_offer_6 rfl (fun x6 h7 => ?_)
  have hb8 : -2147483648 ≤ x6.toInt ∧ x6.toInt ≤ 2147483647 := by have := i32_b u1; omega
  refine lv_ldc2 (v := (-1000)) hx hb hown (hts _ tw_2009) dX12_offer_7 ?_
  refine lv_ldc2 (v := 1000) hx hb hown (hts _ tw_1618) dX12_offer_10 ?_
  refine t_callS (As := [.long x6, .long (-1000), .long 1000]) (rest := []) E hW (c_X12_in l G cI cJ cZ cD cR cT kp L f1 hW.2.2.2 _ x6 (-1000) 1000) wk_X12_in tw_1554 rfl ⟨Nat.le_of_ble_eq_true rfl, Nat.le_of_ble_eq_true rfl⟩ ⟨rfl, rfl⟩ hl.1 rfl (Nat.le_of_ble_eq_true rfl) dX12_offer_13 ⟨Nat.le_of_ble_eq_true rfl, Nat.le_of_ble_eq_true rfl⟩ (fun v9 f10 H locs q11 hW => ?_)
  obtain ⟨⟨x13, rfl, p14⟩, g12⟩ := q11
  have p14 : (x13.toInt = 1 ∧ (-1000 : Int) ≤ x6.toInt ∧ x6.toInt ≤ (1000 : Int)) ∨ (x13.toInt = 0 ∧ (x6.toInt < (-1000 : Int) ∨ (1000 : Int) < x6.toInt)) := p14
  have m15 : aI (f10 pR) (6 : Int32).toNatClampNeg = p6 := ((congrArg (fun z => aI z (6 : Int32).toNatClampNeg) (fm_A g12 rR (by decide) rfl)).trans ((congrArg (fun z => aI z (6 : Int32).toNatClampNeg) (fm_A g4 rR (by decide) rfl)).trans mp6))
  have z16 : RF rw_X12_offer_x f0 f10 h0 := rf_fm hTH z5 g12 rh0 rfl
  have hF := FM.tr hF g12 rfl
  refine q_if_eq (tgt := 33) hx hb dX12_offer_16 (by decide) rfl (fun c17 => ?_) (fun c17 => ?_)
  · have q18 : (x6.toInt < (-1000 : Int) ∨ (1000 : Int) < x6.toInt) := by omega
    clear p14
    refine lv_aload_n hx hb dX12_offer_33 rfl (lv_at hl 0 rfl) ?_
    refine lv_iconst (v := (-1)) hx hb dX12_offer_34 (by decide) ?_
    refine t_callV (As := [.int (-1)]) (rest := []) E hW (c_X12_told_x l G cI cJ cZ cD cR cT kp L f10 hW.2.2.2 _ h0 (-1) rh0) rh0 (by decide) rfl wk_X12_told tw_1557 rfl ⟨Nat.le_of_ble_eq_true rfl, Nat.le_of_ble_eq_true rfl⟩ ⟨rfl, rfl⟩ hl.1 rfl (Nat.le_of_ble_eq_true rfl) dX12_offer_35 ⟨Nat.le_of_ble_eq_true rfl, Nat.le_of_ble_eq_true rfl⟩ (fun v19 f20 H locs q21 hW => ?_)
    obtain ⟨⟨x23, rfl, p24⟩, g22⟩ := q21
    have p24 : x23.toInt = (-1 : Int) := p24
    have z25 : RF rw_X12_offer_x f0 f20 h0 := rf_fm hTH z16 g22 rh0 rfl
    have hF := FM.tr hF g22 rfl
    exact e_I E hW rfl ⟨⟨_, rfl, (by rw [mR, ((congrArg (fun z => aI z (6 : Int32).toNatClampNeg) (fm_A g22 rR (by decide) rfl)).trans m15), mp6]; omega)⟩, hF, z25⟩ dX12_offer_38
  · have q26 : (-1000 : Int) ≤ x6.toInt ∧ x6.toInt ≤ (1000 : Int) := by omega
    clear p14
    refine lv_iload_n hx hb dX12_offer_19 rfl (lv_at hl 2 rfl) ?_
    refine q_i2l hx hb dX12_offer_20 rfl (fun x27 h28 => ?_)
    have hb29 : -2147483648 ≤ x27.toInt ∧ x27.toInt ≤ 2147483647 := by have := i32_b u2; omega
    refine lv_ldc2 (v := (-1000)) hx hb hown (hts _ tw_2009) dX12_offer_21 ?_
    refine lv_ldc2 (v := 1000) hx hb hown (hts _ tw_1618) dX12_offer_24 ?_
    refine t_callS (As := [.long x27, .long (-1000), .long 1000]) (rest := []) E hW (c_X12_in l G cI cJ cZ cD cR cT kp L f10 hW.2.2.2 _ x27 (-1000) 1000) wk_X12_in tw_1554 rfl ⟨Nat.le_of_ble_eq_true rfl, Nat.le_of_ble_eq_true rfl⟩ ⟨rfl, rfl⟩ hl.1 rfl (Nat.le_of_ble_eq_true rfl) dX12_offer_27 ⟨Nat.le_of_ble_eq_true rfl, Nat.le_of_ble_eq_true rfl⟩ (fun v30 f31 H locs q32 hW => ?_)
    obtain ⟨⟨x34, rfl, p35⟩, g33⟩ := q32
    have p35 : (x34.toInt = 1 ∧ (-1000 : Int) ≤ x27.toInt ∧ x27.toInt ≤ (1000 : Int)) ∨ (x34.toInt = 0 ∧ (x27.toInt < (-1000 : Int) ∨ (1000 : Int) < x27.toInt)) := p35
    have z36 : RF rw_X12_offer_x f0 f31 h0 := rf_fm hTH z16 g33 rh0 rfl
    have hF := FM.tr hF g33 rfl
    refine q_if_ne (tgt := 39) hx hb dX12_offer_30 (by decide) rfl (fun c37 => ?_) (fun c37 => ?_)
    · have q38 : (-1000 : Int) ≤ x27.toInt ∧ x27.toInt ≤ (1000 : Int) := by omega
      clear p35
      refine lv_aload_n hx hb dX12_offer_39 rfl (lv_at hl 0 rfl) ?_
      refine fg_RX12_8 E hW rh0 dX12_offer_40 (fun a39 m40 r41 => ?_)
      obtain rfl : pR = a39 := (((fm_R g33 rh0 rfl).trans ((fm_R g12 rh0 rfl).trans ((fm_R g4 rh0 rfl).trans mR)))).symm.trans m40
      refine lv_bipush (v := 6) hx hb dX12_offer_43 (by decide) ?_
      refine gl_822 E hW rR (by decide) dX12_offer_45 (fun y42 m43 b44 => ?_)
      obtain rfl : p6 = y42 := (((congrArg (fun z => aI z (6 : Int32).toNatClampNeg) (fm_A g33 rR (by decide) rfl)).trans m15)).symm.trans m43
      refine lv_bipush (v := 9) hx hb dX12_offer_46 (by decide) ?_
      refine q_icmp_ne (Y := 9) (tgt := 58) hx hb dX12_offer_48 (by decide) rfl rfl (fun c45 => ?_) (fun c45 => ?_)
      · refine lv_aload_n hx hb dX12_offer_58 rfl (lv_at hl 0 rfl) ?_
        refine fg_RX12_8 E hW rh0 dX12_offer_59 (fun a46 m47 r48 => ?_)
        obtain rfl : pR = a46 := (m40).symm.trans m47
        refine lv_sipush (v := 1164) hx hb dX12_offer_62 (by decide) ?_
        refine lv_iconst (v := 2) hx hb dX12_offer_65 (by decide) ?_
        refine lv_aload_n hx hb dX12_offer_66 rfl (lv_at hl 0 rfl) ?_
        refine fg_RX12_8 E hW rh0 dX12_offer_67 (fun a49 m50 r51 => ?_)
        obtain rfl : pR = a49 := (m47).symm.trans m50
        refine lv_bipush (v := 6) hx hb dX12_offer_70 (by decide) ?_
        refine gl_822 E hW rR (by decide) dX12_offer_72 (fun y52 m53 b54 => ?_)
        obtain rfl : p6 = y52 := (m43).symm.trans m53
        refine q_imul (X := 2) hx hb dX12_offer_73 rfl rfl (by omega) (fun x55 h56 => ?_)
        refine q_iadd (X := 1164) hx hb dX12_offer_74 rfl rfl (by omega) (fun x57 h58 => ?_)
        refine lv_iload_n hx hb dX12_offer_75 rfl (lv_at hl 1 rfl) ?_
        refine gs_822 E hW rR ⟨by omega, by omega⟩ (fun hc => rr_up hc (by omega) (by omega) (by unfold rbI; omega)) dX12_offer_76 (fun f59 H locs e60 n61 g62 hW => ?_)
        have z63 : RF rw_X12_offer_x f0 f59 h0 := rf_st (lo := 1164) (hi := 1180) z36 mR e60 (by omega) rfl
        have hF := FM.tr hF g62 rfl
        refine lv_aload_n hx hb dX12_offer_77 rfl (lv_at hl 0 rfl) ?_
        refine fg_RX12_8 E hW rh0 dX12_offer_78 (fun a64 m65 r66 => ?_)
        obtain rfl : pR = a64 := (((fm_R g62 rh0 rfl).trans m50)).symm.trans m65
        refine lv_sipush (v := 1164) hx hb dX12_offer_81 (by decide) ?_
        refine lv_iconst (v := 2) hx hb dX12_offer_84 (by decide) ?_
        refine lv_aload_n hx hb dX12_offer_85 rfl (lv_at hl 0 rfl) ?_
        refine fg_RX12_8 E hW rh0 dX12_offer_86 (fun a67 m68 r69 => ?_)
        obtain rfl : pR = a67 := (m65).symm.trans m68
        refine lv_bipush (v := 6) hx hb dX12_offer_89 (by decide) ?_
        refine gl_822 E hW rR (by decide) dX12_offer_91 (fun y70 m71 b72 => ?_)
        obtain rfl : p6 = y70 := ((show aI (f59 pR) (6 : Int32).toNatClampNeg = p6 from by rw [e60, up_n (tn_ne (by omega) (by decide) (by have hk0 : (6 : Int32).toInt = 6 := rfl; omega))]; exact m53)).symm.trans m71
        refine q_imul (X := 2) hx hb dX12_offer_92 rfl rfl (by omega) (fun x73 h74 => ?_)
        refine q_iadd (X := 1164) hx hb dX12_offer_93 rfl rfl (by omega) (fun x75 h76 => ?_)
        refine lv_iconst (v := 1) hx hb dX12_offer_94 (by decide) ?_
        refine q_iadd (Y := 1) hx hb dX12_offer_95 rfl rfl (by omega) (fun x77 h78 => ?_)
        refine lv_iload_n hx hb dX12_offer_96 rfl (lv_at hl 2 rfl) ?_
        refine gs_822 E hW rR ⟨by omega, by omega⟩ (fun hc => rr_up hc (by omega) (by omega) (by unfold rbI; omega)) dX12_offer_97 (fun f79 H locs e80 n81 g82 hW => ?_)
        have z83 : RF rw_X12_offer_x f0 f79 h0 := rf_st (lo := 1165) (hi := 1181) z63 mR e80 (by omega) rfl
        have hF := FM.tr hF g82 rfl
        refine lv_aload_n hx hb dX12_offer_98 rfl (lv_at hl 0 rfl) ?_
        refine fg_RX12_8 E hW rh0 dX12_offer_99 (fun a84 m85 r86 => ?_)
        obtain rfl : pR = a84 := (((fm_R g82 rh0 rfl).trans m68)).symm.trans m85
        refine lv_bipush (v := 6) hx hb dX12_offer_102 (by decide) ?_
        refine lv_dup2_11 hx hb dX12_offer_104 rfl rfl ?_
        refine gl_822 E hW rR (by decide) dX12_offer_105 (fun y87 m88 b89 => ?_)
        obtain rfl : p6 = y87 := ((show aI (f79 pR) (6 : Int32).toNatClampNeg = p6 from by rw [e80, up_n (tn_ne (by omega) (by decide) (by have hk0 : (6 : Int32).toInt = 6 := rfl; omega))]; exact m71)).symm.trans m88
        refine lv_iconst (v := 1) hx hb dX12_offer_106 (by decide) ?_
        refine q_iadd (Y := 1) hx hb dX12_offer_107 rfl rfl (by omega) (fun x90 h91 => ?_)
        have hk92 : (6 : Int32).toInt = 6 := rfl
        refine gs_822 E hW rR (by decide) (fun hc => rr_up hc (by omega) (by omega) (by unfold rbI; omega)) dX12_offer_108 (fun f93 H locs e94 n95 g96 hW => ?_)
        have z97 : RF rw_X12_offer_x f0 f93 h0 := rf_st (lo := 6) (hi := 6) z83 mR e94 (by decide) rfl
        have hF := FM.tr hF g96 rfl
        refine lv_aload_n hx hb dX12_offer_109 rfl (lv_at hl 0 rfl) ?_
        refine lv_aload_n hx hb dX12_offer_110 rfl (lv_at hl 0 rfl) ?_
        refine fg_RX12_8 E hW rh0 dX12_offer_111 (fun a98 m99 r100 => ?_)
        obtain rfl : pR = a98 := (((fm_R g96 rh0 rfl).trans m85)).symm.trans m99
        refine lv_bipush (v := 6) hx hb dX12_offer_114 (by decide) ?_
        refine gl_822 E hW rR (by decide) dX12_offer_116 (fun y101 m102 b103 => ?_)
        obtain rfl : x90 = y101 := ((show aI (f93 pR) (6 : Int32).toNatClampNeg = x90 from by rw [e94]; exact up_s)).symm.trans m102
        refine t_callV (As := [.int x90]) (rest := []) E hW (c_X12_told_x l G cI cJ cZ cD cR cT kp L f93 hW.2.2.2 _ h0 x90 rh0) rh0 (by decide) rfl wk_X12_told tw_1557 rfl ⟨Nat.le_of_ble_eq_true rfl, Nat.le_of_ble_eq_true rfl⟩ ⟨rfl, rfl⟩ hl.1 rfl (Nat.le_of_ble_eq_true rfl) dX12_offer_117 ⟨Nat.le_of_ble_eq_true rfl, Nat.le_of_ble_eq_true rfl⟩ (fun v104 f105 H locs q106 hW => ?_)
        obtain ⟨⟨x108, rfl, p109⟩, g107⟩ := q106
        have m110 : aI (f105 pR) (x57 : Int32).toNatClampNeg = u1 := ((congrArg (fun z => aI z (x57 : Int32).toNatClampNeg) (fm_A g107 rR (by decide) rfl)).trans (show aI (f93 pR) (x57 : Int32).toNatClampNeg = u1 from by rw [e94, up_n (tn_ne (by decide) (by omega) (by have hk0 : (6 : Int32).toInt = 6 := rfl; omega))]; exact (show aI (f79 pR) (x57 : Int32).toNatClampNeg = u1 from by rw [e80, up_n (tn_ne (by omega) (by omega) (by omega))]; exact (show aI (f59 pR) (x57 : Int32).toNatClampNeg = u1 from by rw [e60]; exact up_s))))
        have m111 : aI (f105 pR) (x77 : Int32).toNatClampNeg = u2 := ((congrArg (fun z => aI z (x77 : Int32).toNatClampNeg) (fm_A g107 rR (by decide) rfl)).trans (show aI (f93 pR) (x77 : Int32).toNatClampNeg = u2 from by rw [e94, up_n (tn_ne (by decide) (by omega) (by have hk0 : (6 : Int32).toInt = 6 := rfl; omega))]; exact (show aI (f79 pR) (x77 : Int32).toNatClampNeg = u2 from by rw [e80]; exact up_s)))
        have z112 : RF rw_X12_offer_x f0 f105 h0 := rf_fm hTH z97 g107 rh0 rfl
        have hF := FM.tr hF g107 rfl
        exact e_I E hW rfl ⟨⟨_, rfl, (by rw [mR, ((congrArg (fun z => aI z (6 : Int32).toNatClampNeg) (fm_A g107 rR (by decide) rfl)).trans m102), mp6]; omega)⟩, hF, z112⟩ dX12_offer_120
      · refine lv_aload_n hx hb dX12_offer_51 rfl (lv_at hl 0 rfl) ?_
        refine lv_bipush (v := (-5)) hx hb dX12_offer_52 (by decide) ?_
        refine t_callV (As := [.int (-5)]) (rest := []) E hW (c_X12_told_x l G cI cJ cZ cD cR cT kp L f31 hW.2.2.2 _ h0 (-5) rh0) rh0 (by decide) rfl wk_X12_told tw_1557 rfl ⟨Nat.le_of_ble_eq_true rfl, Nat.le_of_ble_eq_true rfl⟩ ⟨rfl, rfl⟩ hl.1 rfl (Nat.le_of_ble_eq_true rfl) dX12_offer_54 ⟨Nat.le_of_ble_eq_true rfl, Nat.le_of_ble_eq_true rfl⟩ (fun v113 f114 H locs q115 hW => ?_)
        obtain ⟨⟨x117, rfl, p118⟩, g116⟩ := q115
        have p118 : x117.toInt = (-5 : Int) := p118
        have z119 : RF rw_X12_offer_x f0 f114 h0 := rf_fm hTH z36 g116 rh0 rfl
        have hF := FM.tr hF g116 rfl
        exact e_I E hW rfl ⟨⟨_, rfl, (by rw [mR, ((congrArg (fun z => aI z (6 : Int32).toNatClampNeg) (fm_A g116 rR (by decide) rfl)).trans m43), mp6]; omega)⟩, hF, z119⟩ dX12_offer_57
    · have q120 : (x27.toInt < (-1000 : Int) ∨ (1000 : Int) < x27.toInt) := by omega
      clear p35
      refine lv_aload_n hx hb dX12_offer_33 rfl (lv_at hl 0 rfl) ?_
      refine lv_iconst (v := (-1)) hx hb dX12_offer_34 (by decide) ?_
      refine t_callV (As := [.int (-1)]) (rest := []) E hW (c_X12_told_x l G cI cJ cZ cD cR cT kp L f31 hW.2.2.2 _ h0 (-1) rh0) rh0 (by decide) rfl wk_X12_told tw_1557 rfl ⟨Nat.le_of_ble_eq_true rfl, Nat.le_of_ble_eq_true rfl⟩ ⟨rfl, rfl⟩ hl.1 rfl (Nat.le_of_ble_eq_true rfl) dX12_offer_35 ⟨Nat.le_of_ble_eq_true rfl, Nat.le_of_ble_eq_true rfl⟩ (fun v121 f122 H locs q123 hW => ?_)
      obtain ⟨⟨x125, rfl, p126⟩, g124⟩ := q123
      have p126 : x125.toInt = (-1 : Int) := p126
      have m127 : aI (f122 pR) (6 : Int32).toNatClampNeg = p6 := ((congrArg (fun z => aI z (6 : Int32).toNatClampNeg) (fm_A g124 rR (by decide) rfl)).trans ((congrArg (fun z => aI z (6 : Int32).toNatClampNeg) (fm_A g33 rR (by decide) rfl)).trans m15))
      have z128 : RF rw_X12_offer_x f0 f122 h0 := rf_fm hTH z36 g124 rh0 rfl
      have hF := FM.tr hF g124 rfl
      exact e_I E hW rfl ⟨⟨_, rfl, (by rw [mR, m127, mp6]; omega)⟩, hF, z128⟩ dX12_offer_38
def rw_X12_brave_x : List (Nat × Nat) := [(10, 10)]
def ms_X12_brave_x : List (Nat × Nat) := [(12, 0), (12, 1), (822, 0)]
def po_X12_brave_x (kp : Nat → Nat) (L : List Nat) (f0 : Nat → va_E) (h0 : Nat) (u1 : Int32) : Option Value → (Nat → va_E) → Prop := fun v f => (∃ r : Int32, v = some (.int r) ∧ ((¬ (0 ≤ u1.toInt ∧ u1.toInt ≤ 101) ∧ r.toInt = -1 ∧ (aI (f (oR (f0 h0) 2)) (10 : Int32).toNatClampNeg).toInt = (aI (f0 (oR (f0 h0) 2)) (10 : Int32).toNatClampNeg).toInt) ∨ ((0 ≤ u1.toInt ∧ u1.toInt ≤ 101) ∧ r.toInt = (aI (f0 (oR (f0 h0) 2)) (10 : Int32).toNatClampNeg).toInt ∧ (aI (f (oR (f0 h0) 2)) (10 : Int32).toNatClampNeg).toInt = u1.toInt))) ∧ FM kp L ms_X12_brave_x f0 f ∧ (RF rw_X12_brave_x f0 f h0)
set_option maxHeartbeats 4000000 in
set_option maxRecDepth 100000 in
theorem c_X12_brave_x (l : Launch) (G : va_G) (cI cJ cZ cD cR cT : ClassId) (kp : Nat → Nat) (L : List Nat) (f0 : Nat → va_E) (hTH : TH cI cJ cZ cD cR cT kp L f0) (sz : Nat) (h0 : Nat) (u1 : Int32) (rh0 : RK kp L h0 12) : Met l yX12_brave (Cond.code yX12_brave cX12_brave 3 (some .int) :: wTab) ({ frames := 2, cells := 0, slots := 0, locals := 65 }) (va_Pc [.ref h0, .int u1] (PreW G (tys6 cI cJ cZ cD cR cT) (va_pl L f0) sz)) (QT (po_X12_brave_x kp L f0 h0 u1) G cI cJ cZ cD cR cT (va_A (va_pl L f0) sz) kp L) 0 0 (va_A (va_pl L f0) sz) := by
  refine metT (by decide) (Nat.le_of_ble_eq_true rfl) hTH ?_
  intro p e s m below meth c A ls E hW hl
  obtain ⟨hx, hb, -, hml, hown, hts, -, -, -⟩ := id E
  have hF : FM kp L ms_X12_brave_x f0 f0 := FM.rf
  have hl : lv_has ls 3 [(0, .ref h0), (1, .int u1)] := hl
  obtain ⟨pR, mR⟩ : ∃ x : Nat, oR (f0 h0) 2 = x := ⟨_, rfl⟩
  have rR : RK kp L pR 822 := by rw [← mR]; exact th_ref hTH rh0 (by decide) (by decide) rfl
  obtain ⟨p10, mp10⟩ : ∃ x : Int32, aI (f0 pR) (10 : Int32).toNatClampNeg = x := ⟨_, rfl⟩
  refine lv_aload_n hx hb dX12_brave_0 rfl (lv_at hl 0 rfl) ?_
  refine lv_iconst (v := 0) hx hb dX12_brave_1 (by decide) ?_
  refine fp_RX12_82 E hW rh0 dX12_brave_2 (fun f1 H locs e2 n3 g4 hW => ?_)
  have z5 : RF rw_X12_brave_x f0 f1 h0 := rf_fm hTH rf_rf g4 rh0 rfl
  have hF := FM.tr hF g4 rfl
  refine lv_iload_n hx hb dX12_brave_5 rfl (lv_at hl 1 rfl) ?_
  refine q_i2l hx hb dX12_brave_6 rfl (fun x6 h7 => ?_)
  have hb8 : -2147483648 ≤ x6.toInt ∧ x6.toInt ≤ 2147483647 := by have := i32_b u1; omega
  refine lv_lconst (v := 0) hx hb dX12_brave_7 (by decide) ?_
  refine lv_ldc2 (v := 101) hx hb hown (hts _ tw_1982) dX12_brave_8 ?_
  refine t_callS (As := [.long x6, .long 0, .long 101]) (rest := []) E hW (c_X12_in l G cI cJ cZ cD cR cT kp L f1 hW.2.2.2 _ x6 0 101) wk_X12_in tw_1554 rfl ⟨Nat.le_of_ble_eq_true rfl, Nat.le_of_ble_eq_true rfl⟩ ⟨rfl, rfl⟩ hl.1 rfl (Nat.le_of_ble_eq_true rfl) dX12_brave_11 ⟨Nat.le_of_ble_eq_true rfl, Nat.le_of_ble_eq_true rfl⟩ (fun v9 f10 H locs q11 hW => ?_)
  obtain ⟨⟨x13, rfl, p14⟩, g12⟩ := q11
  have p14 : (x13.toInt = 1 ∧ (0 : Int) ≤ x6.toInt ∧ x6.toInt ≤ (101 : Int)) ∨ (x13.toInt = 0 ∧ (x6.toInt < (0 : Int) ∨ (101 : Int) < x6.toInt)) := p14
  have m15 : aI (f10 pR) (10 : Int32).toNatClampNeg = p10 := ((congrArg (fun z => aI z (10 : Int32).toNatClampNeg) (fm_A g12 rR (by decide) rfl)).trans ((congrArg (fun z => aI z (10 : Int32).toNatClampNeg) (fm_A g4 rR (by decide) rfl)).trans mp10))
  have z16 : RF rw_X12_brave_x f0 f10 h0 := rf_fm hTH z5 g12 rh0 rfl
  have hF := FM.tr hF g12 rfl
  refine q_if_ne (tgt := 23) hx hb dX12_brave_14 (by decide) rfl (fun c17 => ?_) (fun c17 => ?_)
  · have q18 : (0 : Int) ≤ x6.toInt ∧ x6.toInt ≤ (101 : Int) := by omega
    clear p14
    refine lv_aload_n hx hb dX12_brave_23 rfl (lv_at hl 0 rfl) ?_
    refine fg_RX12_8 E hW rh0 dX12_brave_24 (fun a19 m20 r21 => ?_)
    obtain rfl : pR = a19 := (((fm_R g12 rh0 rfl).trans ((fm_R g4 rh0 rfl).trans mR))).symm.trans m20
    refine lv_bipush (v := 10) hx hb dX12_brave_27 (by decide) ?_
    refine gl_822 E hW rR (by decide) dX12_brave_29 (fun y22 m23 b24 => ?_)
    obtain rfl : p10 = y22 := (m15).symm.trans m23
    refine lv_istore_n (lv' := [(2, .int p10), (0, .ref h0), (1, .int u1)]) hx hb dX12_brave_30 rfl hl (by decide) rfl (fun ls hl => ?_)
    refine lv_aload_n hx hb dX12_brave_31 rfl (lv_at hl 1 rfl) ?_
    refine fg_RX12_8 E hW rh0 dX12_brave_32 (fun a25 m26 r27 => ?_)
    obtain rfl : pR = a25 := (m20).symm.trans m26
    refine lv_bipush (v := 10) hx hb dX12_brave_35 (by decide) ?_
    refine lv_iload_n hx hb dX12_brave_37 rfl (lv_at hl 2 rfl) ?_
    have hk28 : (10 : Int32).toInt = 10 := rfl
    refine gs_822 E hW rR (by decide) (fun hc => rr_up hc (by omega) (by omega) (by unfold rbI; omega)) dX12_brave_38 (fun f29 H locs e30 n31 g32 hW => ?_)
    have z33 : RF rw_X12_brave_x f0 f29 h0 := rf_st (lo := 10) (hi := 10) z16 mR e30 (by decide) rfl
    have hF := FM.tr hF g32 rfl
    refine lv_aload_n hx hb dX12_brave_39 rfl (lv_at hl 1 rfl) ?_
    refine lv_iload_n hx hb dX12_brave_40 rfl (lv_at hl 0 rfl) ?_
    refine t_callV (As := [.int p10]) (rest := []) E hW (c_X12_told_x l G cI cJ cZ cD cR cT kp L f29 hW.2.2.2 _ h0 p10 rh0) rh0 (by decide) rfl wk_X12_told tw_1557 rfl ⟨Nat.le_of_ble_eq_true rfl, Nat.le_of_ble_eq_true rfl⟩ ⟨rfl, rfl⟩ hl.1 rfl (Nat.le_of_ble_eq_true rfl) dX12_brave_41 ⟨Nat.le_of_ble_eq_true rfl, Nat.le_of_ble_eq_true rfl⟩ (fun v34 f35 H locs q36 hW => ?_)
    obtain ⟨⟨x38, rfl, p39⟩, g37⟩ := q36
    have z40 : RF rw_X12_brave_x f0 f35 h0 := rf_fm hTH z33 g37 rh0 rfl
    have hF := FM.tr hF g37 rfl
    exact e_I E hW rfl ⟨⟨_, rfl, (by rw [mR, ((congrArg (fun z => aI z (10 : Int32).toNatClampNeg) (fm_A g37 rR (by decide) rfl)).trans (show aI (f29 pR) (10 : Int32).toNatClampNeg = u1 from by rw [e30]; exact up_s)), mp10]; omega)⟩, hF, z40⟩ dX12_brave_44
  · have q41 : (x6.toInt < (0 : Int) ∨ (101 : Int) < x6.toInt) := by omega
    clear p14
    refine lv_aload_n hx hb dX12_brave_17 rfl (lv_at hl 0 rfl) ?_
    refine lv_iconst (v := (-1)) hx hb dX12_brave_18 (by decide) ?_
    refine t_callV (As := [.int (-1)]) (rest := []) E hW (c_X12_told_x l G cI cJ cZ cD cR cT kp L f10 hW.2.2.2 _ h0 (-1) rh0) rh0 (by decide) rfl wk_X12_told tw_1557 rfl ⟨Nat.le_of_ble_eq_true rfl, Nat.le_of_ble_eq_true rfl⟩ ⟨rfl, rfl⟩ hl.1 rfl (Nat.le_of_ble_eq_true rfl) dX12_brave_19 ⟨Nat.le_of_ble_eq_true rfl, Nat.le_of_ble_eq_true rfl⟩ (fun v42 f43 H locs q44 hW => ?_)
    obtain ⟨⟨x46, rfl, p47⟩, g45⟩ := q44
    have p47 : x46.toInt = (-1 : Int) := p47
    have z48 : RF rw_X12_brave_x f0 f43 h0 := rf_fm hTH z16 g45 rh0 rfl
    have hF := FM.tr hF g45 rfl
    exact e_I E hW rfl ⟨⟨_, rfl, (by rw [mR, ((congrArg (fun z => aI z (10 : Int32).toNatClampNeg) (fm_A g45 rR (by decide) rfl)).trans m15), mp10]; omega)⟩, hF, z48⟩ dX12_brave_22
def rw_X12_go_x : List (Nat × Nat) := [(4, 4), (8, 9), (13, 1043)]
def ms_X12_go_x : List (Nat × Nat) := [(12, 0), (12, 1), (12, 33), (12, 34), (12, 35), (12, 36), (12, 37), (12, 38), (822, 0), (849, 0), (850, 0), (851, 0), (852, 0), (859, 0)]
def po_X12_go_x (kp : Nat → Nat) (L : List Nat) (f0 : Nat → va_E) (h0 : Nat) (u1 : Int32) : Option Value → (Nat → va_E) → Prop := fun v f => (∃ r : Int32, v = some (.int r) ∧ ((¬ ((1 ≤ u1.toInt ∧ u1.toInt ≤ 104) ∧ (aI (f0 (oR (f0 h0) 2)) (8 : Int32).toNatClampNeg).toInt + u1.toInt ≤ 399) ∧ r.toInt = -1 ∧ (aI (f (oR (f0 h0) 2)) (8 : Int32).toNatClampNeg).toInt = (aI (f0 (oR (f0 h0) 2)) (8 : Int32).toNatClampNeg).toInt) ∨ (((1 ≤ u1.toInt ∧ u1.toInt ≤ 104) ∧ (aI (f0 (oR (f0 h0) 2)) (8 : Int32).toNatClampNeg).toInt + u1.toInt ≤ 399) ∧ r.toInt = (aI (f0 (oR (f0 h0) 2)) (8 : Int32).toNatClampNeg).toInt + u1.toInt ∧ (aI (f (oR (f0 h0) 2)) (8 : Int32).toNatClampNeg).toInt = r.toInt))) ∧ FM kp L ms_X12_go_x f0 f ∧ (RF rw_X12_go_x f0 f h0)
set_option maxHeartbeats 4000000 in
set_option maxRecDepth 100000 in
theorem c_X12_go_x (l : Launch) (G : va_G) (cI cJ cZ cD cR cT : ClassId) (kp : Nat → Nat) (L : List Nat) (f0 : Nat → va_E) (hTH : TH cI cJ cZ cD cR cT kp L f0) (sz : Nat) (h0 : Nat) (u1 : Int32) (rh0 : RK kp L h0 12) (hTX : TX (aI (f0 (oR (f0 h0) 2)))) : Met l yX12_go (Cond.code yX12_go cX12_go 3 (some .int) :: wTab) ({ frames := 8, cells := 0, slots := 0, locals := 213 }) (va_Pc [.ref h0, .int u1] (PreW G (tys6 cI cJ cZ cD cR cT) (va_pl L f0) sz)) (QT (po_X12_go_x kp L f0 h0 u1) G cI cJ cZ cD cR cT (va_A (va_pl L f0) sz) kp L) 0 0 (va_A (va_pl L f0) sz) := by
  refine metT (by decide) (Nat.le_of_ble_eq_true rfl) hTH ?_
  intro p e s m below meth c A ls E hW hl
  obtain ⟨hx, hb, -, hml, hown, hts, -, -, -⟩ := id E
  have hF : FM kp L ms_X12_go_x f0 f0 := FM.rf
  have hl : lv_has ls 3 [(0, .ref h0), (1, .int u1)] := hl
  obtain ⟨pR, mR⟩ : ∃ x : Nat, oR (f0 h0) 2 = x := ⟨_, rfl⟩
  have rR : RK kp L pR 822 := by rw [← mR]; exact th_ref hTH rh0 (by decide) (by decide) rfl
  obtain ⟨p8, mp8⟩ : ∃ x : Int32, aI (f0 pR) (8 : Int32).toNatClampNeg = x := ⟨_, rfl⟩
  have hr8 : (0 : Int) ≤ p8.toInt ∧ p8.toInt ≤ 399 := rr_8 (th_row hTH rR) mp8 rfl
  rw [mR] at hTX
  refine lv_aload_n hx hb dX12_go_0 rfl (lv_at hl 0 rfl) ?_
  refine lv_iconst (v := 0) hx hb dX12_go_1 (by decide) ?_
  refine fp_RX12_82 E hW rh0 dX12_go_2 (fun f1 H locs e2 n3 g4 hW => ?_)
  have z5 : RF rw_X12_go_x f0 f1 h0 := rf_fm hTH rf_rf g4 rh0 rfl
  have hF := FM.tr hF g4 rfl
  refine lv_iload_n hx hb dX12_go_5 rfl (lv_at hl 1 rfl) ?_
  refine q_i2l hx hb dX12_go_6 rfl (fun x6 h7 => ?_)
  have hb8 : -2147483648 ≤ x6.toInt ∧ x6.toInt ≤ 2147483647 := by have := i32_b u1; omega
  refine lv_lconst (v := 1) hx hb dX12_go_7 (by decide) ?_
  refine lv_ldc2 (v := 104) hx hb hown (hts _ tw_1917) dX12_go_8 ?_
  refine t_callS (As := [.long x6, .long 1, .long 104]) (rest := []) E hW (c_X12_in l G cI cJ cZ cD cR cT kp L f1 hW.2.2.2 _ x6 1 104) wk_X12_in tw_1554 rfl ⟨Nat.le_of_ble_eq_true rfl, Nat.le_of_ble_eq_true rfl⟩ ⟨rfl, rfl⟩ hl.1 rfl (Nat.le_of_ble_eq_true rfl) dX12_go_11 ⟨Nat.le_of_ble_eq_true rfl, Nat.le_of_ble_eq_true rfl⟩ (fun v9 f10 H locs q11 hW => ?_)
  obtain ⟨⟨x13, rfl, p14⟩, g12⟩ := q11
  have p14 : (x13.toInt = 1 ∧ (1 : Int) ≤ x6.toInt ∧ x6.toInt ≤ (104 : Int)) ∨ (x13.toInt = 0 ∧ (x6.toInt < (1 : Int) ∨ (104 : Int) < x6.toInt)) := p14
  have m15 : aI (f10 pR) (8 : Int32).toNatClampNeg = p8 := ((congrArg (fun z => aI z (8 : Int32).toNatClampNeg) (fm_A g12 rR (by decide) rfl)).trans ((congrArg (fun z => aI z (8 : Int32).toNatClampNeg) (fm_A g4 rR (by decide) rfl)).trans mp8))
  have z16 : RF rw_X12_go_x f0 f10 h0 := rf_fm hTH z5 g12 rh0 rfl
  have hF := FM.tr hF g12 rfl
  refine q_if_eq (tgt := 32) hx hb dX12_go_14 (by decide) rfl (fun c17 => ?_) (fun c17 => ?_)
  · have q18 : (x6.toInt < (1 : Int) ∨ (104 : Int) < x6.toInt) := by omega
    clear p14
    refine lv_aload_n hx hb dX12_go_32 rfl (lv_at hl 0 rfl) ?_
    refine lv_iconst (v := (-1)) hx hb dX12_go_33 (by decide) ?_
    refine t_callV (As := [.int (-1)]) (rest := []) E hW (c_X12_told_x l G cI cJ cZ cD cR cT kp L f10 hW.2.2.2 _ h0 (-1) rh0) rh0 (by decide) rfl wk_X12_told tw_1557 rfl ⟨Nat.le_of_ble_eq_true rfl, Nat.le_of_ble_eq_true rfl⟩ ⟨rfl, rfl⟩ hl.1 rfl (Nat.le_of_ble_eq_true rfl) dX12_go_34 ⟨Nat.le_of_ble_eq_true rfl, Nat.le_of_ble_eq_true rfl⟩ (fun v19 f20 H locs q21 hW => ?_)
    obtain ⟨⟨x23, rfl, p24⟩, g22⟩ := q21
    have p24 : x23.toInt = (-1 : Int) := p24
    have z25 : RF rw_X12_go_x f0 f20 h0 := rf_fm hTH z16 g22 rh0 rfl
    have hF := FM.tr hF g22 rfl
    exact e_I E hW rfl ⟨⟨_, rfl, (by rw [mR, ((congrArg (fun z => aI z (8 : Int32).toNatClampNeg) (fm_A g22 rR (by decide) rfl)).trans m15), mp8]; omega)⟩, hF, z25⟩ dX12_go_37
  · have q26 : (1 : Int) ≤ x6.toInt ∧ x6.toInt ≤ (104 : Int) := by omega
    clear p14
    refine lv_aload_n hx hb dX12_go_17 rfl (lv_at hl 0 rfl) ?_
    refine fg_RX12_8 E hW rh0 dX12_go_18 (fun a27 m28 r29 => ?_)
    obtain rfl : pR = a27 := (((fm_R g12 rh0 rfl).trans ((fm_R g4 rh0 rfl).trans mR))).symm.trans m28
    refine lv_bipush (v := 8) hx hb dX12_go_21 (by decide) ?_
    refine gl_822 E hW rR (by decide) dX12_go_23 (fun y30 m31 b32 => ?_)
    obtain rfl : p8 = y30 := (m15).symm.trans m31
    refine lv_iload_n hx hb dX12_go_24 rfl (lv_at hl 1 rfl) ?_
    refine q_iadd hx hb dX12_go_25 rfl rfl (by omega) (fun x33 h34 => ?_)
    refine lv_sipush (v := 399) hx hb dX12_go_26 (by decide) ?_
    refine q_icmp_le (Y := 399) (tgt := 38) hx hb dX12_go_29 (by decide) rfl rfl (fun c35 => ?_) (fun c35 => ?_)
    · refine lv_iconst (v := 0) hx hb dX12_go_38 (by decide) ?_
      refine lv_istore_n (lv' := [(2, .int 0), (0, .ref h0), (1, .int u1)]) hx hb dX12_go_39 rfl hl (by decide) rfl (fun ls hl => ?_)
      have L911 : ∀ (n : Nat), ∀ (f900 : Nat → va_E) (y903 : Int32) (y905 : Int32) (m901 : oI (f900 h0) 0 = 0) (m902 : oR (f900 h0) 2 = pR) (b904 : (0 : Int) ≤ y903.toInt ∧ y903.toInt ≤ 104) (m906 : aI (f900 pR) (8 : Int32).toNatClampNeg = y905) (b907 : (0 : Int) ≤ y905.toInt ∧ y905.toInt ≤ 399) (z908 : RF rw_X12_go_x f0 f900 h0) (v909 : y905.toInt = p8.toInt + y903.toInt) (v910 : y903.toInt ≤ u1.toInt) (hm : (105 : Int) - y903.toInt ≤ n) (H : Heap) (locs : List Loc) (ls : Array Slot), WS G cI cJ cZ cD cR cT A kp L f900 s H locs → FM kp L ms_X12_go_x f0 f900 → lv_has ls 3 [(2, .int y903), (0, .ref h0), (1, .int u1)] → W p l e ({ frames := 8, cells := 0, slots := 0, locals := 213 }) s m ([.ref h0, .int u1] : List Value).toArray below meth c H locs 0 0 (MQ below (QT (po_X12_go_x kp L f0 h0 u1) G cI cJ cZ cD cR cT A kp L) ([.ref h0, .int u1] : List Value).toArray s 0 0 A) (F0 m 40 ls []) := by
        intro n
        induction n with
        | zero =>
          intro f900 y903 y905 m901 m902 b904 m906 b907 z908 v909 v910 hm H locs ls hW hF hl
          have hz := i32_b y903
          exfalso; omega
        | succ n ih =>
          intro f900 y903 y905 m901 m902 b904 m906 b907 z908 v909 v910 hm H locs ls hW hF hl
          clear c17
          have ih40 := ih
          refine lv_iload_n hx hb dX12_go_40 rfl (lv_at hl 0 rfl) ?_
          refine lv_iload_n hx hb dX12_go_41 rfl (lv_at hl 2 rfl) ?_
          refine q_icmp_ge (tgt := 55) hx hb dX12_go_42 (by decide) rfl rfl (fun c924 => ?_) (fun c924 => ?_)
          · refine lv_aload_n hx hb dX12_go_55 rfl (lv_at hl 1 rfl) ?_
            refine lv_aload_n hx hb dX12_go_56 rfl (lv_at hl 1 rfl) ?_
            refine fg_RX12_8 E hW rh0 dX12_go_57 (fun a925 m926 r927 => ?_)
            obtain rfl : pR = a925 := (m902).symm.trans m926
            refine lv_bipush (v := 8) hx hb dX12_go_60 (by decide) ?_
            refine gl_822 E hW rR (by decide) dX12_go_62 (fun y928 m929 b930 => ?_)
            obtain rfl : y905 = y928 := (m906).symm.trans m929
            refine t_callV (As := [.int y905]) (rest := []) E hW (c_X12_told_x l G cI cJ cZ cD cR cT kp L f900 hW.2.2.2 _ h0 y905 rh0) rh0 (by decide) rfl wk_X12_told tw_1557 rfl ⟨Nat.le_of_ble_eq_true rfl, Nat.le_of_ble_eq_true rfl⟩ ⟨rfl, rfl⟩ hl.1 rfl (Nat.le_of_ble_eq_true rfl) dX12_go_63 ⟨Nat.le_of_ble_eq_true rfl, Nat.le_of_ble_eq_true rfl⟩ (fun v931 f932 H locs q933 hW => ?_)
            obtain ⟨⟨x935, rfl, p936⟩, g934⟩ := q933
            have z937 : RF rw_X12_go_x f0 f932 h0 := rf_fm hTH z908 g934 rh0 rfl
            have hF := FM.tr hF g934 rfl
            exact e_I E hW rfl ⟨⟨_, rfl, (by rw [mR, ((congrArg (fun z => aI z (8 : Int32).toNatClampNeg) (fm_A g934 rR (by decide) rfl)).trans m929), mp8]; omega)⟩, hF, z937⟩ dX12_go_66
          · refine lv_aload_n hx hb dX12_go_45 rfl (lv_at hl 1 rfl) ?_
            refine t_callV (As := []) (rest := []) E hW (c_X12_goWeek l G cI cJ cZ cD cR cT kp L f900 hW.2.2.2 _ h0 rh0 (by rw [m902, m906]; omega) (by rw [m902]; exact (tx_rf hTX z908 mR rfl rfl))) rh0 (by decide) rfl wk_X12_goWeek tw_1918 rfl ⟨Nat.le_of_ble_eq_true rfl, Nat.le_of_ble_eq_true rfl⟩ ⟨rfl, rfl⟩ hl.1 rfl (Nat.le_of_ble_eq_true rfl) dX12_go_46 ⟨Nat.le_of_ble_eq_true rfl, Nat.le_of_ble_eq_true rfl⟩ (fun v938 f939 H locs q940 hW => ?_)
            obtain ⟨rfl, g941, h942, h943⟩ := q940
            have z944 : RF rw_X12_go_x f0 f939 h0 := rf_call z908 h943 mR m902 rfl
            have hF := FM.tr hF g941 rfl
            obtain ⟨y945, m946⟩ : ∃ x : Int32, aI (f939 pR) (8 : Int32).toNatClampNeg = x := ⟨_, rfl⟩
            have b947 : (0 : Int) ≤ y945.toInt ∧ y945.toInt ≤ 399 := rr_8 (th_row hW.2.2.2 rR) m946 rfl
            rw [m902, m946, m906] at h942
            refine q_iinc hx hb dX12_go_49 hl (k := 0) rfl rfl rfl (by omega) (by decide) (fun i948 ls h949 hl => ?_)
            have hl : lv_has ls 3 [(2, .int i948), (0, .ref h0), (1, .int u1)] := hl
            refine lv_goto (tgt := 40) hx hb dX12_go_52 (by decide) ?_
            exact ih40 f939 i948 y945 ((fm_I g941 rh0 rfl).trans m901) ((fm_R g941 rh0 rfl).trans m902) (by omega) m946 (by omega) z944 (by omega) (by omega) (by omega) _ _ _ hW hF (lv_sub hl [0, 1, 2] rfl)
      have hk950 : (0 : Int32).toInt = 0 := rfl
      exact L911 105 f10 0 p8 ((fm_I g12 rh0 rfl).trans e2) m28 (by decide) m31 (by omega) z16 (by omega) (by omega) (by omega) _ _ _ hW hF (lv_sub hl [0, 1, 2] rfl)
    · refine lv_aload_n hx hb dX12_go_32 rfl (lv_at hl 0 rfl) ?_
      refine lv_iconst (v := (-1)) hx hb dX12_go_33 (by decide) ?_
      refine t_callV (As := [.int (-1)]) (rest := []) E hW (c_X12_told_x l G cI cJ cZ cD cR cT kp L f10 hW.2.2.2 _ h0 (-1) rh0) rh0 (by decide) rfl wk_X12_told tw_1557 rfl ⟨Nat.le_of_ble_eq_true rfl, Nat.le_of_ble_eq_true rfl⟩ ⟨rfl, rfl⟩ hl.1 rfl (Nat.le_of_ble_eq_true rfl) dX12_go_34 ⟨Nat.le_of_ble_eq_true rfl, Nat.le_of_ble_eq_true rfl⟩ (fun v951 f952 H locs q953 hW => ?_)
      obtain ⟨⟨x955, rfl, p956⟩, g954⟩ := q953
      have p956 : x955.toInt = (-1 : Int) := p956
      have z957 : RF rw_X12_go_x f0 f952 h0 := rf_fm hTH z16 g954 rh0 rfl
      have hF := FM.tr hF g954 rfl
      exact e_I E hW rfl ⟨⟨_, rfl, (by rw [mR, ((congrArg (fun z => aI z (8 : Int32).toNatClampNeg) (fm_A g954 rR (by decide) rfl)).trans m31), mp8]; omega)⟩, hF, z957⟩ dX12_go_37
def ms_X12_isPerson_x : List (Nat × Nat) := []
def po_X12_isPerson_x (kp : Nat → Nat) (L : List Nat) (f0 : Nat → va_E) (h0 : Nat) (u1 : Int32) : Option Value → (Nat → va_E) → Prop := fun v f => (∃ r : Int32, v = some (.int r) ∧ ((r.toInt = 1 ∧ 0 ≤ u1.toInt ∧ u1.toInt < (aI (f0 (oR (f0 h0) 2)) (0 : Int32).toNatClampNeg).toInt) ∨ (r.toInt = 0 ∧ (u1.toInt < 0 ∨ (aI (f0 (oR (f0 h0) 2)) (0 : Int32).toNatClampNeg).toInt ≤ u1.toInt)))) ∧ FM kp L ms_X12_isPerson_x f0 f
set_option maxHeartbeats 4000000 in
set_option maxRecDepth 100000 in
theorem c_X12_isPerson_x (l : Launch) (G : va_G) (cI cJ cZ cD cR cT : ClassId) (kp : Nat → Nat) (L : List Nat) (f0 : Nat → va_E) (hTH : TH cI cJ cZ cD cR cT kp L f0) (sz : Nat) (h0 : Nat) (u1 : Int32) (rh0 : RK kp L h0 12) : Met l yX12_isPerson (Cond.code yX12_isPerson cX12_isPerson 2 (some .boolean) :: wTab) ({ frames := 2, cells := 0, slots := 0, locals := 65 }) (va_Pc [.ref h0, .int u1] (PreW G (tys6 cI cJ cZ cD cR cT) (va_pl L f0) sz)) (QT (po_X12_isPerson_x kp L f0 h0 u1) G cI cJ cZ cD cR cT (va_A (va_pl L f0) sz) kp L) 0 0 (va_A (va_pl L f0) sz) := by
  refine metT (by decide) (Nat.le_of_ble_eq_true rfl) hTH ?_
  intro p e s m below meth c A ls E hW hl
  obtain ⟨hx, hb, -, hml, hown, hts, -, -, -⟩ := id E
  have hF : FM kp L ms_X12_isPerson_x f0 f0 := FM.rf
  have hl : lv_has ls 2 [(0, .ref h0), (1, .int u1)] := hl
  obtain ⟨pR, mR⟩ : ∃ x : Nat, oR (f0 h0) 2 = x := ⟨_, rfl⟩
  have rR : RK kp L pR 822 := by rw [← mR]; exact th_ref hTH rh0 (by decide) (by decide) rfl
  obtain ⟨p0, mp0⟩ : ∃ x : Int32, aI (f0 pR) (0 : Int32).toNatClampNeg = x := ⟨_, rfl⟩
  have hr0 : (0 : Int) ≤ p0.toInt ∧ p0.toInt ≤ 40 := rr_0 (th_row hTH rR) mp0 rfl
  refine lv_iload_n hx hb dX12_isPerson_0 rfl (lv_at hl 1 rfl) ?_
  refine q_i2l hx hb dX12_isPerson_1 rfl (fun x1 h2 => ?_)
  have hb3 : -2147483648 ≤ x1.toInt ∧ x1.toInt ≤ 2147483647 := by have := i32_b u1; omega
  refine lv_lconst (v := 0) hx hb dX12_isPerson_2 (by decide) ?_
  refine lv_aload_n hx hb dX12_isPerson_3 rfl (lv_at hl 0 rfl) ?_
  refine fg_RX12_8 E hW rh0 dX12_isPerson_4 (fun a4 m5 r6 => ?_)
  obtain rfl : pR = a4 := (mR).symm.trans m5
  refine lv_iconst (v := 0) hx hb dX12_isPerson_7 (by decide) ?_
  refine gl_822 E hW rR (by decide) dX12_isPerson_8 (fun y7 m8 b9 => ?_)
  obtain rfl : p0 = y7 := (mp0).symm.trans m8
  refine q_i2l hx hb dX12_isPerson_9 rfl (fun x10 h11 => ?_)
  refine lv_lconst (v := 1) hx hb dX12_isPerson_10 (by decide) ?_
  refine q_lsub (Y := 1) hx hb dX12_isPerson_11 rfl rfl (by omega) (fun x12 h13 => ?_)
  refine t_callS (As := [.long x1, .long 0, .long x12]) (rest := []) E hW (c_X12_in l G cI cJ cZ cD cR cT kp L f0 hW.2.2.2 _ x1 0 x12) wk_X12_in tw_1554 rfl ⟨Nat.le_of_ble_eq_true rfl, Nat.le_of_ble_eq_true rfl⟩ ⟨rfl, rfl⟩ hl.1 rfl (Nat.le_of_ble_eq_true rfl) dX12_isPerson_12 ⟨Nat.le_of_ble_eq_true rfl, Nat.le_of_ble_eq_true rfl⟩ (fun v14 f15 H locs q16 hW => ?_)
  obtain ⟨⟨x18, rfl, p19⟩, g17⟩ := q16
  have p19 : (x18.toInt = 1 ∧ (0 : Int) ≤ x1.toInt ∧ x1.toInt ≤ x12.toInt) ∨ (x18.toInt = 0 ∧ (x1.toInt < (0 : Int) ∨ x12.toInt < x1.toInt)) := p19
  have hF := FM.tr hF g17 rfl
  exact e_Z E hW rfl (by omega) ⟨⟨_, rfl, (by rw [mR, mp0]; omega)⟩, hF⟩ dX12_isPerson_15
def rw_X12_heed_x : List (Nat × Nat) := [(23, 335)]
def ms_X12_heed_x : List (Nat × Nat) := [(12, 0), (12, 1), (822, 0)]
def po_X12_heed_x (kp : Nat → Nat) (L : List Nat) (f0 : Nat → va_E) (h0 : Nat) (u1 : Int32) (u2 : Int32) : Option Value → (Nat → va_E) → Prop := fun v f => (∃ r : Int32, v = some (.int r) ∧ ((¬ ((0 ≤ u1.toInt ∧ u1.toInt < (aI (f0 (oR (f0 h0) 2)) (0 : Int32).toNatClampNeg).toInt) ∧ (u2.toInt = -1 ∨ (0 ≤ u2.toInt ∧ u2.toInt < (aI (f0 (oR (f0 h0) 2)) (0 : Int32).toNatClampNeg).toInt))) ∧ r.toInt = -2) ∨ (((0 ≤ u1.toInt ∧ u1.toInt < (aI (f0 (oR (f0 h0) 2)) (0 : Int32).toNatClampNeg).toInt) ∧ (u2.toInt = -1 ∨ (0 ≤ u2.toInt ∧ u2.toInt < (aI (f0 (oR (f0 h0) 2)) (0 : Int32).toNatClampNeg).toInt))) ∧ u1.toInt = u2.toInt ∧ r.toInt = -3) ∨ (((0 ≤ u1.toInt ∧ u1.toInt < (aI (f0 (oR (f0 h0) 2)) (0 : Int32).toNatClampNeg).toInt) ∧ (u2.toInt = -1 ∨ (0 ≤ u2.toInt ∧ u2.toInt < (aI (f0 (oR (f0 h0) 2)) (0 : Int32).toNatClampNeg).toInt))) ∧ ¬ u1.toInt = u2.toInt ∧ r.toInt = 0))) ∧ FM kp L ms_X12_heed_x f0 f ∧ (RF rw_X12_heed_x f0 f h0)
set_option maxHeartbeats 4000000 in
set_option maxRecDepth 100000 in
theorem c_X12_heed_x (l : Launch) (G : va_G) (cI cJ cZ cD cR cT : ClassId) (kp : Nat → Nat) (L : List Nat) (f0 : Nat → va_E) (hTH : TH cI cJ cZ cD cR cT kp L f0) (sz : Nat) (h0 : Nat) (u1 : Int32) (u2 : Int32) (rh0 : RK kp L h0 12) : Met l yX12_heed (Cond.code yX12_heed cX12_heed 3 (some .int) :: wTab) ({ frames := 3, cells := 0, slots := 0, locals := 86 }) (va_Pc [.ref h0, .int u1, .int u2] (PreW G (tys6 cI cJ cZ cD cR cT) (va_pl L f0) sz)) (QT (po_X12_heed_x kp L f0 h0 u1 u2) G cI cJ cZ cD cR cT (va_A (va_pl L f0) sz) kp L) 0 0 (va_A (va_pl L f0) sz) := by
  refine metT (by decide) (Nat.le_of_ble_eq_true rfl) hTH ?_
  intro p e s m below meth c A ls E hW hl
  obtain ⟨hx, hb, -, hml, hown, hts, -, -, -⟩ := id E
  have hF : FM kp L ms_X12_heed_x f0 f0 := FM.rf
  have hl : lv_has ls 3 [(0, .ref h0), (1, .int u1), (2, .int u2)] := hl
  obtain ⟨pR, mR⟩ : ∃ x : Nat, oR (f0 h0) 2 = x := ⟨_, rfl⟩
  have rR : RK kp L pR 822 := by rw [← mR]; exact th_ref hTH rh0 (by decide) (by decide) rfl
  obtain ⟨p0, mp0⟩ : ∃ x : Int32, aI (f0 pR) (0 : Int32).toNatClampNeg = x := ⟨_, rfl⟩
  have hr0 : (0 : Int) ≤ p0.toInt ∧ p0.toInt ≤ 40 := rr_0 (th_row hTH rR) mp0 rfl
  refine lv_aload_n hx hb dX12_heed_0 rfl (lv_at hl 0 rfl) ?_
  refine lv_iconst (v := 0) hx hb dX12_heed_1 (by decide) ?_
  refine fp_RX12_82 E hW rh0 dX12_heed_2 (fun f1 H locs e2 n3 g4 hW => ?_)
  have z5 : RF rw_X12_heed_x f0 f1 h0 := rf_fm hTH rf_rf g4 rh0 rfl
  have hF := FM.tr hF g4 rfl
  refine lv_aload_n hx hb dX12_heed_5 rfl (lv_at hl 0 rfl) ?_
  refine lv_iload_n hx hb dX12_heed_6 rfl (lv_at hl 1 rfl) ?_
  refine t_callV (As := [.int u1]) (rest := []) E hW (c_X12_isPerson_x l G cI cJ cZ cD cR cT kp L f1 hW.2.2.2 _ h0 u1 rh0) rh0 (by decide) rfl wk_X12_isPerson tw_1583 rfl ⟨Nat.le_of_ble_eq_true rfl, Nat.le_of_ble_eq_true rfl⟩ ⟨rfl, rfl⟩ hl.1 rfl (Nat.le_of_ble_eq_true rfl) dX12_heed_7 ⟨Nat.le_of_ble_eq_true rfl, Nat.le_of_ble_eq_true rfl⟩ (fun v6 f7 H locs q8 hW => ?_)
  obtain ⟨⟨x10, rfl, p11⟩, g9⟩ := q8
  rw [((fm_R g4 rh0 rfl).trans mR), ((congrArg (fun z => aI z (0 : Int32).toNatClampNeg) (fm_A g4 rR (by decide) rfl)).trans mp0)] at p11
  have m12 : aI (f7 pR) (0 : Int32).toNatClampNeg = p0 := ((congrArg (fun z => aI z (0 : Int32).toNatClampNeg) (fm_A g9 rR (by decide) rfl)).trans ((congrArg (fun z => aI z (0 : Int32).toNatClampNeg) (fm_A g4 rR (by decide) rfl)).trans mp0))
  have z13 : RF rw_X12_heed_x f0 f7 h0 := rf_fm hTH z5 g9 rh0 rfl
  have hF := FM.tr hF g9 rfl
  refine q_if_eq (tgt := 26) hx hb dX12_heed_10 (by decide) rfl (fun c14 => ?_) (fun c14 => ?_)
  · refine lv_aload_n hx hb dX12_heed_26 rfl (lv_at hl 0 rfl) ?_
    refine lv_bipush (v := (-2)) hx hb dX12_heed_27 (by decide) ?_
    refine t_callV (As := [.int (-2)]) (rest := []) E hW (c_X12_told_x l G cI cJ cZ cD cR cT kp L f7 hW.2.2.2 _ h0 (-2) rh0) rh0 (by decide) rfl wk_X12_told tw_1557 rfl ⟨Nat.le_of_ble_eq_true rfl, Nat.le_of_ble_eq_true rfl⟩ ⟨rfl, rfl⟩ hl.1 rfl (Nat.le_of_ble_eq_true rfl) dX12_heed_29 ⟨Nat.le_of_ble_eq_true rfl, Nat.le_of_ble_eq_true rfl⟩ (fun v15 f16 H locs q17 hW => ?_)
    obtain ⟨⟨x19, rfl, p20⟩, g18⟩ := q17
    have p20 : x19.toInt = (-2 : Int) := p20
    have z21 : RF rw_X12_heed_x f0 f16 h0 := rf_fm hTH z13 g18 rh0 rfl
    have hF := FM.tr hF g18 rfl
    exact e_I E hW rfl ⟨⟨_, rfl, (by rw [mR, mp0]; omega)⟩, hF, z21⟩ dX12_heed_32
  · have q22 : 0 ≤ u1.toInt ∧ u1.toInt ≤ 39 := by omega
    refine lv_iload_n hx hb dX12_heed_13 rfl (lv_at hl 2 rfl) ?_
    refine lv_iconst (v := (-1)) hx hb dX12_heed_14 (by decide) ?_
    refine q_icmp_eq (Y := -1) (tgt := 33) hx hb dX12_heed_15 (by decide) rfl rfl (fun c23 => ?_) (fun c23 => ?_)
    · refine lv_iload_n hx hb dX12_heed_33 rfl (lv_at hl 1 rfl) ?_
      refine lv_iload_n hx hb dX12_heed_34 rfl (lv_at hl 2 rfl) ?_
      refine q_icmp_ne (tgt := 45) hx hb dX12_heed_35 (by decide) rfl rfl (fun c24 => ?_) (fun c24 => ?_)
      · refine lv_aload_n hx hb dX12_heed_45 rfl (lv_at hl 0 rfl) ?_
        refine fg_RX12_8 E hW rh0 dX12_heed_46 (fun a25 m26 r27 => ?_)
        obtain rfl : pR = a25 := (((fm_R g9 rh0 rfl).trans ((fm_R g4 rh0 rfl).trans mR))).symm.trans m26
        refine lv_iload_n hx hb dX12_heed_49 rfl (lv_at hl 1 rfl) ?_
        refine t_callS (As := [.int u1]) (rest := [.ref pR]) E hW (c_X12_personAt l G cI cJ cZ cD cR cT kp L f7 hW.2.2.2 _ u1 (by omega)) wk_X12_personAt tw_1572 rfl ⟨Nat.le_of_ble_eq_true rfl, Nat.le_of_ble_eq_true rfl⟩ ⟨rfl, rfl⟩ hl.1 rfl (Nat.le_of_ble_eq_true rfl) dX12_heed_50 ⟨Nat.le_of_ble_eq_true rfl, Nat.le_of_ble_eq_true rfl⟩ (fun v28 f29 H locs q30 hW => ?_)
        obtain ⟨⟨x32, rfl, p33⟩, g31⟩ := q30
        have z34 : RF rw_X12_heed_x f0 f29 h0 := rf_fm hTH z13 g31 rh0 rfl
        have hF := FM.tr hF g31 rfl
        refine lv_iconst (v := 3) hx hb dX12_heed_53 (by decide) ?_
        refine q_iadd (Y := 3) hx hb dX12_heed_54 rfl rfl (by omega) (fun x35 h36 => ?_)
        refine lv_iload_n hx hb dX12_heed_55 rfl (lv_at hl 2 rfl) ?_
        refine gs_822 E hW rR ⟨by omega, by omega⟩ (fun hc => rr_up hc (by omega) (by omega) (by unfold rbI; omega)) dX12_heed_56 (fun f37 H locs e38 n39 g40 hW => ?_)
        have z41 : RF rw_X12_heed_x f0 f37 h0 := rf_st (lo := 23) (hi := 335) z34 mR e38 (by omega) rfl
        have hF := FM.tr hF g40 rfl
        refine lv_aload_n hx hb dX12_heed_57 rfl (lv_at hl 0 rfl) ?_
        refine lv_iconst (v := 0) hx hb dX12_heed_58 (by decide) ?_
        refine t_callV (As := [.int 0]) (rest := []) E hW (c_X12_told_x l G cI cJ cZ cD cR cT kp L f37 hW.2.2.2 _ h0 0 rh0) rh0 (by decide) rfl wk_X12_told tw_1557 rfl ⟨Nat.le_of_ble_eq_true rfl, Nat.le_of_ble_eq_true rfl⟩ ⟨rfl, rfl⟩ hl.1 rfl (Nat.le_of_ble_eq_true rfl) dX12_heed_59 ⟨Nat.le_of_ble_eq_true rfl, Nat.le_of_ble_eq_true rfl⟩ (fun v42 f43 H locs q44 hW => ?_)
        obtain ⟨⟨x46, rfl, p47⟩, g45⟩ := q44
        have p47 : x46.toInt = (0 : Int) := p47
        have m48 : aI (f43 pR) (0 : Int32).toNatClampNeg = p0 := ((congrArg (fun z => aI z (0 : Int32).toNatClampNeg) (fm_A g45 rR (by decide) rfl)).trans (show aI (f37 pR) (0 : Int32).toNatClampNeg = p0 from by rw [e38, up_n (tn_ne (by omega) (by decide) (by have hk0 : (0 : Int32).toInt = 0 := rfl; omega))]; exact ((congrArg (fun z => aI z (0 : Int32).toNatClampNeg) (fm_A g31 rR (by decide) rfl)).trans m12)))
        have z49 : RF rw_X12_heed_x f0 f43 h0 := rf_fm hTH z41 g45 rh0 rfl
        have hF := FM.tr hF g45 rfl
        exact e_I E hW rfl ⟨⟨_, rfl, (by rw [mR, mp0]; omega)⟩, hF, z49⟩ dX12_heed_62
      · exfalso; omega
    · refine lv_aload_n hx hb dX12_heed_18 rfl (lv_at hl 0 rfl) ?_
      refine lv_iload_n hx hb dX12_heed_19 rfl (lv_at hl 2 rfl) ?_
      refine t_callV (As := [.int u2]) (rest := []) E hW (c_X12_isPerson_x l G cI cJ cZ cD cR cT kp L f7 hW.2.2.2 _ h0 u2 rh0) rh0 (by decide) rfl wk_X12_isPerson tw_1583 rfl ⟨Nat.le_of_ble_eq_true rfl, Nat.le_of_ble_eq_true rfl⟩ ⟨rfl, rfl⟩ hl.1 rfl (Nat.le_of_ble_eq_true rfl) dX12_heed_20 ⟨Nat.le_of_ble_eq_true rfl, Nat.le_of_ble_eq_true rfl⟩ (fun v50 f51 H locs q52 hW => ?_)
      obtain ⟨⟨x54, rfl, p55⟩, g53⟩ := q52
      rw [((fm_R g9 rh0 rfl).trans ((fm_R g4 rh0 rfl).trans mR)), m12] at p55
      have z56 : RF rw_X12_heed_x f0 f51 h0 := rf_fm hTH z13 g53 rh0 rfl
      have hF := FM.tr hF g53 rfl
      refine q_if_ne (tgt := 33) hx hb dX12_heed_23 (by decide) rfl (fun c57 => ?_) (fun c57 => ?_)
      · have q58 : 0 ≤ u2.toInt ∧ u2.toInt ≤ 39 := by omega
        refine lv_iload_n hx hb dX12_heed_33 rfl (lv_at hl 1 rfl) ?_
        refine lv_iload_n hx hb dX12_heed_34 rfl (lv_at hl 2 rfl) ?_
        refine q_icmp_ne (tgt := 45) hx hb dX12_heed_35 (by decide) rfl rfl (fun c59 => ?_) (fun c59 => ?_)
        · refine lv_aload_n hx hb dX12_heed_45 rfl (lv_at hl 0 rfl) ?_
          refine fg_RX12_8 E hW rh0 dX12_heed_46 (fun a60 m61 r62 => ?_)
          obtain rfl : pR = a60 := (((fm_R g53 rh0 rfl).trans ((fm_R g9 rh0 rfl).trans ((fm_R g4 rh0 rfl).trans mR)))).symm.trans m61
          refine lv_iload_n hx hb dX12_heed_49 rfl (lv_at hl 1 rfl) ?_
          refine t_callS (As := [.int u1]) (rest := [.ref pR]) E hW (c_X12_personAt l G cI cJ cZ cD cR cT kp L f51 hW.2.2.2 _ u1 (by omega)) wk_X12_personAt tw_1572 rfl ⟨Nat.le_of_ble_eq_true rfl, Nat.le_of_ble_eq_true rfl⟩ ⟨rfl, rfl⟩ hl.1 rfl (Nat.le_of_ble_eq_true rfl) dX12_heed_50 ⟨Nat.le_of_ble_eq_true rfl, Nat.le_of_ble_eq_true rfl⟩ (fun v63 f64 H locs q65 hW => ?_)
          obtain ⟨⟨x67, rfl, p68⟩, g66⟩ := q65
          have m69 : aI (f64 pR) (0 : Int32).toNatClampNeg = p0 := ((congrArg (fun z => aI z (0 : Int32).toNatClampNeg) (fm_A g66 rR (by decide) rfl)).trans ((congrArg (fun z => aI z (0 : Int32).toNatClampNeg) (fm_A g53 rR (by decide) rfl)).trans m12))
          have z70 : RF rw_X12_heed_x f0 f64 h0 := rf_fm hTH z56 g66 rh0 rfl
          have hF := FM.tr hF g66 rfl
          refine lv_iconst (v := 3) hx hb dX12_heed_53 (by decide) ?_
          refine q_iadd (Y := 3) hx hb dX12_heed_54 rfl rfl (by omega) (fun x71 h72 => ?_)
          refine lv_iload_n hx hb dX12_heed_55 rfl (lv_at hl 2 rfl) ?_
          refine gs_822 E hW rR ⟨by omega, by omega⟩ (fun hc => rr_up hc (by omega) (by omega) (by unfold rbI; omega)) dX12_heed_56 (fun f73 H locs e74 n75 g76 hW => ?_)
          have z77 : RF rw_X12_heed_x f0 f73 h0 := rf_st (lo := 23) (hi := 335) z70 mR e74 (by omega) rfl
          have hF := FM.tr hF g76 rfl
          refine lv_aload_n hx hb dX12_heed_57 rfl (lv_at hl 0 rfl) ?_
          refine lv_iconst (v := 0) hx hb dX12_heed_58 (by decide) ?_
          refine t_callV (As := [.int 0]) (rest := []) E hW (c_X12_told_x l G cI cJ cZ cD cR cT kp L f73 hW.2.2.2 _ h0 0 rh0) rh0 (by decide) rfl wk_X12_told tw_1557 rfl ⟨Nat.le_of_ble_eq_true rfl, Nat.le_of_ble_eq_true rfl⟩ ⟨rfl, rfl⟩ hl.1 rfl (Nat.le_of_ble_eq_true rfl) dX12_heed_59 ⟨Nat.le_of_ble_eq_true rfl, Nat.le_of_ble_eq_true rfl⟩ (fun v78 f79 H locs q80 hW => ?_)
          obtain ⟨⟨x82, rfl, p83⟩, g81⟩ := q80
          have p83 : x82.toInt = (0 : Int) := p83
          have m84 : aI (f79 pR) (0 : Int32).toNatClampNeg = p0 := ((congrArg (fun z => aI z (0 : Int32).toNatClampNeg) (fm_A g81 rR (by decide) rfl)).trans (show aI (f73 pR) (0 : Int32).toNatClampNeg = p0 from by rw [e74, up_n (tn_ne (by omega) (by decide) (by have hk0 : (0 : Int32).toInt = 0 := rfl; omega))]; exact m69))
          have z85 : RF rw_X12_heed_x f0 f79 h0 := rf_fm hTH z77 g81 rh0 rfl
          have hF := FM.tr hF g81 rfl
          exact e_I E hW rfl ⟨⟨_, rfl, (by rw [mR, mp0]; omega)⟩, hF, z85⟩ dX12_heed_62
        · refine lv_aload_n hx hb dX12_heed_38 rfl (lv_at hl 0 rfl) ?_
          refine lv_bipush (v := (-3)) hx hb dX12_heed_39 (by decide) ?_
          refine t_callV (As := [.int (-3)]) (rest := []) E hW (c_X12_told_x l G cI cJ cZ cD cR cT kp L f51 hW.2.2.2 _ h0 (-3) rh0) rh0 (by decide) rfl wk_X12_told tw_1557 rfl ⟨Nat.le_of_ble_eq_true rfl, Nat.le_of_ble_eq_true rfl⟩ ⟨rfl, rfl⟩ hl.1 rfl (Nat.le_of_ble_eq_true rfl) dX12_heed_41 ⟨Nat.le_of_ble_eq_true rfl, Nat.le_of_ble_eq_true rfl⟩ (fun v86 f87 H locs q88 hW => ?_)
          obtain ⟨⟨x90, rfl, p91⟩, g89⟩ := q88
          have p91 : x90.toInt = (-3 : Int) := p91
          have m92 : aI (f87 pR) (0 : Int32).toNatClampNeg = p0 := ((congrArg (fun z => aI z (0 : Int32).toNatClampNeg) (fm_A g89 rR (by decide) rfl)).trans ((congrArg (fun z => aI z (0 : Int32).toNatClampNeg) (fm_A g53 rR (by decide) rfl)).trans m12))
          have z93 : RF rw_X12_heed_x f0 f87 h0 := rf_fm hTH z56 g89 rh0 rfl
          have hF := FM.tr hF g89 rfl
          exact e_I E hW rfl ⟨⟨_, rfl, (by rw [mR, mp0]; omega)⟩, hF, z93⟩ dX12_heed_44
      · refine lv_aload_n hx hb dX12_heed_26 rfl (lv_at hl 0 rfl) ?_
        refine lv_bipush (v := (-2)) hx hb dX12_heed_27 (by decide) ?_
        refine t_callV (As := [.int (-2)]) (rest := []) E hW (c_X12_told_x l G cI cJ cZ cD cR cT kp L f51 hW.2.2.2 _ h0 (-2) rh0) rh0 (by decide) rfl wk_X12_told tw_1557 rfl ⟨Nat.le_of_ble_eq_true rfl, Nat.le_of_ble_eq_true rfl⟩ ⟨rfl, rfl⟩ hl.1 rfl (Nat.le_of_ble_eq_true rfl) dX12_heed_29 ⟨Nat.le_of_ble_eq_true rfl, Nat.le_of_ble_eq_true rfl⟩ (fun v94 f95 H locs q96 hW => ?_)
        obtain ⟨⟨x98, rfl, p99⟩, g97⟩ := q96
        have p99 : x98.toInt = (-2 : Int) := p99
        have m100 : aI (f95 pR) (0 : Int32).toNatClampNeg = p0 := ((congrArg (fun z => aI z (0 : Int32).toNatClampNeg) (fm_A g97 rR (by decide) rfl)).trans ((congrArg (fun z => aI z (0 : Int32).toNatClampNeg) (fm_A g53 rR (by decide) rfl)).trans m12))
        have z101 : RF rw_X12_heed_x f0 f95 h0 := rf_fm hTH z56 g97 rh0 rfl
        have hF := FM.tr hF g97 rfl
        exact e_I E hW rfl ⟨⟨_, rfl, (by rw [mR, mp0]; omega)⟩, hF, z101⟩ dX12_heed_32
def ms_X4_has_x : List (Nat × Nat) := []
def po_X4_has_x (kp : Nat → Nat) (L : List Nat) (f0 : Nat → va_E) (h0 : Nat) (u1 : Int32) : Option Value → (Nat → va_E) → Prop := fun v f => (∃ r : Int32, v = some (.int r) ∧ ((r.toInt = 1 ∧ 0 ≤ u1.toInt ∧ u1.toInt < (oI (f0 h0) 0).toInt) ∨ (r.toInt = 0 ∧ (u1.toInt < 0 ∨ (oI (f0 h0) 0).toInt ≤ u1.toInt)))) ∧ FM kp L ms_X4_has_x f0 f ∧ (WT kp L [] f0 f)
set_option maxHeartbeats 4000000 in
set_option maxRecDepth 100000 in
theorem c_X4_has_x (l : Launch) (G : va_G) (cI cJ cZ cD cR cT : ClassId) (kp : Nat → Nat) (L : List Nat) (f0 : Nat → va_E) (hTH : TH cI cJ cZ cD cR cT kp L f0) (sz : Nat) (h0 : Nat) (u1 : Int32) (rh0 : RK kp L h0 4) : Met l yX4_has (Cond.code yX4_has cX4_has 2 (some .boolean) :: wTab) ({ frames := 1, cells := 0, slots := 0, locals := 40 }) (va_Pc [.ref h0, .int u1] (PreW G (tys6 cI cJ cZ cD cR cT) (va_pl L f0) sz)) (QT (po_X4_has_x kp L f0 h0 u1) G cI cJ cZ cD cR cT (va_A (va_pl L f0) sz) kp L) 0 0 (va_A (va_pl L f0) sz) := by
  refine metT (by decide) (Nat.le_of_ble_eq_true rfl) hTH ?_
  intro p e s m below meth c A ls E hW hl
  obtain ⟨hx, hb, -, hml, hown, hts, -, -, -⟩ := id E
  have hF : FM kp L ms_X4_has_x f0 f0 := FM.rf
  have hl : lv_has ls 2 [(0, .ref h0), (1, .int u1)] := hl
  obtain ⟨vc, mvc⟩ : ∃ x : Int32, oI (f0 h0) 0 = x := ⟨_, rfl⟩
  have bvc : (0 : Int) ≤ vc.toInt ∧ vc.toInt ≤ 40 := by rw [← mvc]; exact th_ivT hTH rh0 (by decide) (by decide) rfl
  refine lv_iload_n hx hb dX4_has_0 rfl (lv_at hl 1 rfl) ?_
  refine q_if_lt (tgt := 16) hx hb dX4_has_1 (by decide) rfl (fun c1 => ?_) (fun c1 => ?_)
  · refine lv_iconst (v := 0) hx hb dX4_has_16 (by decide) ?_
    exact e_Z E hW rfl (by decide) ⟨⟨_, rfl, (by rw [mvc]; have hk : (0 : Int32).toInt = 0 := rfl; omega)⟩, hF, (wt_rf : WT kp L [] f0 f0)⟩ dX4_has_17
  · refine lv_iload_n hx hb dX4_has_4 rfl (lv_at hl 1 rfl) ?_
    refine lv_aload_n hx hb dX4_has_5 rfl (lv_at hl 0 rfl) ?_
    refine fg_RX4_39 E hW rh0 dX4_has_6 (fun y2 m3 b4 => ?_)
    obtain rfl : vc = y2 := (mvc).symm.trans m3
    refine q_icmp_ge (tgt := 16) hx hb dX4_has_9 (by decide) rfl rfl (fun c5 => ?_) (fun c5 => ?_)
    · refine lv_iconst (v := 0) hx hb dX4_has_16 (by decide) ?_
      exact e_Z E hW rfl (by decide) ⟨⟨_, rfl, (by rw [mvc]; have hk : (0 : Int32).toInt = 0 := rfl; omega)⟩, hF, (wt_rf : WT kp L [] f0 f0)⟩ dX4_has_17
    · refine lv_iconst (v := 1) hx hb dX4_has_12 (by decide) ?_
      refine lv_goto (tgt := 17) hx hb dX4_has_13 (by decide) ?_
      exact e_Z E hW rfl (by decide) ⟨⟨_, rfl, (by rw [mvc]; have hk : (1 : Int32).toInt = 1 := rfl; omega)⟩, hF, (wt_rf : WT kp L [] f0 f0)⟩ dX4_has_17
def ms_X11_heed_w : List (Nat × Nat) := [(11, 15), (344, 0)]
def po_X11_heed_w (kp : Nat → Nat) (L : List Nat) (f0 : Nat → va_E) (h0 : Nat) (u1 : Int32) (u2 : Int32) : Option Value → (Nat → va_E) → Prop := fun v f => (∃ r : Int32, v = some (.int r) ∧ ((¬ ((0 ≤ u1.toInt ∧ u1.toInt < (oI (f0 (oR (f0 (oR (f0 h0) 0)) 0)) 0).toInt) ∧ (u2.toInt = -1 ∨ (0 ≤ u2.toInt ∧ u2.toInt < (oI (f0 (oR (f0 (oR (f0 h0) 0)) 0)) 0).toInt))) ∧ r.toInt = -2) ∨ (((0 ≤ u1.toInt ∧ u1.toInt < (oI (f0 (oR (f0 (oR (f0 h0) 0)) 0)) 0).toInt) ∧ (u2.toInt = -1 ∨ (0 ≤ u2.toInt ∧ u2.toInt < (oI (f0 (oR (f0 (oR (f0 h0) 0)) 0)) 0).toInt))) ∧ u1.toInt = u2.toInt ∧ r.toInt = -3) ∨ (((0 ≤ u1.toInt ∧ u1.toInt < (oI (f0 (oR (f0 (oR (f0 h0) 0)) 0)) 0).toInt) ∧ (u2.toInt = -1 ∨ (0 ≤ u2.toInt ∧ u2.toInt < (oI (f0 (oR (f0 (oR (f0 h0) 0)) 0)) 0).toInt))) ∧ ¬ u1.toInt = u2.toInt ∧ r.toInt = 0))) ∧ FM kp L ms_X11_heed_w f0 f ∧ (WT kp L [] f0 f)
set_option maxHeartbeats 4000000 in
set_option maxRecDepth 100000 in
theorem c_X11_heed_w (l : Launch) (G : va_G) (cI cJ cZ cD cR cT : ClassId) (kp : Nat → Nat) (L : List Nat) (f0 : Nat → va_E) (hTH : TH cI cJ cZ cD cR cT kp L f0) (sz : Nat) (h0 : Nat) (u1 : Int32) (u2 : Int32) (rh0 : RK kp L h0 11) : Met l yX11_heed (Cond.code yX11_heed cX11_heed 4 (some .int) :: wTab) ({ frames := 2, cells := 0, slots := 0, locals := 61 }) (va_Pc [.ref h0, .int u1, .int u2] (PreW G (tys6 cI cJ cZ cD cR cT) (va_pl L f0) sz)) (QT (po_X11_heed_w kp L f0 h0 u1 u2) G cI cJ cZ cD cR cT (va_A (va_pl L f0) sz) kp L) 0 0 (va_A (va_pl L f0) sz) := by
  refine metT (by decide) (Nat.le_of_ble_eq_true rfl) hTH ?_
  intro p e s m below meth c A ls E hW hl
  obtain ⟨hx, hb, -, hml, hown, hts, -, -, -⟩ := id E
  have hF : FM kp L ms_X11_heed_w f0 f0 := FM.rf
  have hl : lv_has ls 4 [(0, .ref h0), (1, .int u1), (2, .int u2)] := hl
  obtain ⟨C, mC⟩ : ∃ x : Nat, oR (f0 h0) 0 = x := ⟨_, rfl⟩
  have rC : RK kp L C 0 := by rw [← mC]; exact th_ref hTH rh0 (by decide) (by decide) rfl
  obtain ⟨C0, mC0⟩ : ∃ x : Nat, oR (f0 C) 0 = x := ⟨_, rfl⟩
  have rC0 : RK kp L C0 4 := by rw [← mC0]; exact th_ref hTH rC (by decide) (by decide) rfl
  obtain ⟨vc, mvc⟩ : ∃ x : Int32, oI (f0 C0) 0 = x := ⟨_, rfl⟩
  have bvc : (0 : Int) ≤ vc.toInt ∧ vc.toInt ≤ 40 := by rw [← mvc]; exact th_ivT hTH rC0 (by decide) (by decide) rfl
  refine lv_aload_n hx hb dX11_heed_0 rfl (lv_at hl 0 rfl) ?_
  refine fg_RX11_12 E hW rh0 dX11_heed_1 (fun a1 m2 r3 => ?_)
  obtain rfl : C = a1 := (mC).symm.trans m2
  refine fg_RX11_63 E hW rC dX11_heed_4 (fun a4 m5 r6 => ?_)
  obtain rfl : C0 = a4 := (mC0).symm.trans m5
  refine lv_astore_n (lv' := [(3, .ref C0), (0, .ref h0), (1, .int u1), (2, .int u2)]) hx hb dX11_heed_7 rfl hl (by decide) rfl (fun ls hl => ?_)
  refine lv_aload_n hx hb dX11_heed_8 rfl (lv_at hl 0 rfl) ?_
  refine lv_iload_n hx hb dX11_heed_9 rfl (lv_at hl 2 rfl) ?_
  have hW0 := hW.2.2.2
  refine t_callV (As := [.int u1]) (rest := []) E hW (c_X4_has_x l G cI cJ cZ cD cR cT kp L f0 hW.2.2.2 _ C0 u1 rC0) rC0 (by decide) rfl wk_X4_has tw_619 rfl ⟨Nat.le_of_ble_eq_true rfl, Nat.le_of_ble_eq_true rfl⟩ ⟨rfl, rfl⟩ hl.1 rfl (Nat.le_of_ble_eq_true rfl) dX11_heed_10 ⟨Nat.le_of_ble_eq_true rfl, Nat.le_of_ble_eq_true rfl⟩ (fun v7 f8 H locs q9 hW => ?_)
  obtain ⟨⟨x12, rfl, p13⟩, g10, h11⟩ := q9
  rw [mvc] at p13
  have z14 : WT kp L [] f0 f8 := wt_fm (wt_rf : WT kp L [] f0 f0) g10 rfl
  have hF := FM.tr hF g10 rfl
  have z15 : WT kp L [] f0 f8 := wt_call (wt_rf : WT kp L [] f0 f0) h11 (fun q h => absurd h List.not_mem_nil)
  refine q_if_eq (tgt := 29) hx hb dX11_heed_13 (by decide) rfl (fun c16 => ?_) (fun c16 => ?_)
  · refine lv_aload_n hx hb dX11_heed_29 rfl (lv_at hl 1 rfl) ?_
    refine lv_bipush (v := (-2)) hx hb dX11_heed_30 (by decide) ?_
    have hW0 := hW.2.2.2
    refine t_callV (As := [.int (-2)]) (rest := []) E hW (c_X11_refuse_x l G cI cJ cZ cD cR cT kp L f8 hW.2.2.2 _ h0 (-2) rh0 (by decide)) rh0 (by decide) rfl wk_X11_refuse tw_603 rfl ⟨Nat.le_of_ble_eq_true rfl, Nat.le_of_ble_eq_true rfl⟩ ⟨rfl, rfl⟩ hl.1 rfl (Nat.le_of_ble_eq_true rfl) dX11_heed_32 ⟨Nat.le_of_ble_eq_true rfl, Nat.le_of_ble_eq_true rfl⟩ (fun v17 f18 H locs q19 hW => ?_)
    obtain ⟨⟨x21, rfl, p22⟩, g20⟩ := q19
    have p22 : x21.toInt = (-2 : Int) := p22
    have z23 : WT kp L [] f0 f18 := wt_fm z15 g20 rfl
    have hF := FM.tr hF g20 rfl
    exact e_I E hW rfl ⟨⟨_, rfl, (by rw [mC, mC0, mvc]; omega)⟩, hF, z23⟩ dX11_heed_35
  · have q24 : 0 ≤ u1.toInt ∧ u1.toInt ≤ 39 := by omega
    refine lv_iload_n hx hb dX11_heed_16 rfl (lv_at hl 3 rfl) ?_
    refine lv_iconst (v := (-1)) hx hb dX11_heed_17 (by decide) ?_
    refine q_icmp_eq (Y := -1) (tgt := 36) hx hb dX11_heed_18 (by decide) rfl rfl (fun c25 => ?_) (fun c25 => ?_)
    · refine lv_iload_n hx hb dX11_heed_36 rfl (lv_at hl 2 rfl) ?_
      refine lv_iload_n hx hb dX11_heed_37 rfl (lv_at hl 3 rfl) ?_
      refine q_icmp_ne (tgt := 48) hx hb dX11_heed_38 (by decide) rfl rfl (fun c26 => ?_) (fun c26 => ?_)
      · refine lv_aload_n hx hb dX11_heed_48 rfl (lv_at hl 0 rfl) ?_
        refine fg_RX11_84 E hW rC0 dX11_heed_49 (fun a27 m28 r29 => ?_)
        refine lv_iload_n hx hb dX11_heed_52 rfl (lv_at hl 2 rfl) ?_
        refine lv_iload_n hx hb dX11_heed_53 rfl (lv_at hl 3 rfl) ?_
        have hW0 := hW.2.2.2
        refine gs_344 E hW r29 ⟨by omega, by omega⟩ (by omega) dX11_heed_54 (fun f30 H locs e31 n32 g33 hW => ?_)
        have z34 : WT kp L [] f0 f30 := wt_fm z15 g33 rfl
        have hF := FM.tr hF g33 rfl
        refine lv_aload_n hx hb dX11_heed_55 rfl (lv_at hl 1 rfl) ?_
        refine lv_iconst (v := 0) hx hb dX11_heed_56 (by decide) ?_
        have hW0 := hW.2.2.2
        refine t_callV (As := [.int 0]) (rest := []) E hW (c_X11_accept_x l G cI cJ cZ cD cR cT kp L f30 hW.2.2.2 _ h0 0 rh0) rh0 (by decide) rfl wk_X11_accept tw_611 rfl ⟨Nat.le_of_ble_eq_true rfl, Nat.le_of_ble_eq_true rfl⟩ ⟨rfl, rfl⟩ hl.1 rfl (Nat.le_of_ble_eq_true rfl) dX11_heed_57 ⟨Nat.le_of_ble_eq_true rfl, Nat.le_of_ble_eq_true rfl⟩ (fun v35 f36 H locs q37 hW => ?_)
        obtain ⟨⟨x39, rfl, p40⟩, g38⟩ := q37
        have p40 : x39.toInt = (0 : Int) := p40
        have z41 : WT kp L [] f0 f36 := wt_fm z34 g38 rfl
        have hF := FM.tr hF g38 rfl
        exact e_I E hW rfl ⟨⟨_, rfl, (by rw [mC, mC0, mvc]; omega)⟩, hF, z41⟩ dX11_heed_60
      · exfalso; omega
    · refine lv_aload_n hx hb dX11_heed_21 rfl (lv_at hl 0 rfl) ?_
      refine lv_iload_n hx hb dX11_heed_22 rfl (lv_at hl 3 rfl) ?_
      have hW0 := hW.2.2.2
      refine t_callV (As := [.int u2]) (rest := []) E hW (c_X4_has_x l G cI cJ cZ cD cR cT kp L f8 hW.2.2.2 _ C0 u2 rC0) rC0 (by decide) rfl wk_X4_has tw_619 rfl ⟨Nat.le_of_ble_eq_true rfl, Nat.le_of_ble_eq_true rfl⟩ ⟨rfl, rfl⟩ hl.1 rfl (Nat.le_of_ble_eq_true rfl) dX11_heed_23 ⟨Nat.le_of_ble_eq_true rfl, Nat.le_of_ble_eq_true rfl⟩ (fun v42 f43 H locs q44 hW => ?_)
      obtain ⟨⟨x47, rfl, p48⟩, g45, h46⟩ := q44
      rw [((fm_I g10 rC0 rfl).trans mvc)] at p48
      have z49 : WT kp L [] f0 f43 := wt_fm z15 g45 rfl
      have hF := FM.tr hF g45 rfl
      have z50 : WT kp L [] f0 f43 := wt_call z15 h46 (fun q h => absurd h List.not_mem_nil)
      refine q_if_ne (tgt := 36) hx hb dX11_heed_26 (by decide) rfl (fun c51 => ?_) (fun c51 => ?_)
      · have q52 : 0 ≤ u2.toInt ∧ u2.toInt ≤ 39 := by omega
        refine lv_iload_n hx hb dX11_heed_36 rfl (lv_at hl 2 rfl) ?_
        refine lv_iload_n hx hb dX11_heed_37 rfl (lv_at hl 3 rfl) ?_
        refine q_icmp_ne (tgt := 48) hx hb dX11_heed_38 (by decide) rfl rfl (fun c53 => ?_) (fun c53 => ?_)
        · refine lv_aload_n hx hb dX11_heed_48 rfl (lv_at hl 0 rfl) ?_
          refine fg_RX11_84 E hW rC0 dX11_heed_49 (fun a54 m55 r56 => ?_)
          refine lv_iload_n hx hb dX11_heed_52 rfl (lv_at hl 2 rfl) ?_
          refine lv_iload_n hx hb dX11_heed_53 rfl (lv_at hl 3 rfl) ?_
          have hW0 := hW.2.2.2
          refine gs_344 E hW r56 ⟨by omega, by omega⟩ (by omega) dX11_heed_54 (fun f57 H locs e58 n59 g60 hW => ?_)
          have z61 : WT kp L [] f0 f57 := wt_fm z50 g60 rfl
          have hF := FM.tr hF g60 rfl
          refine lv_aload_n hx hb dX11_heed_55 rfl (lv_at hl 1 rfl) ?_
          refine lv_iconst (v := 0) hx hb dX11_heed_56 (by decide) ?_
          have hW0 := hW.2.2.2
          refine t_callV (As := [.int 0]) (rest := []) E hW (c_X11_accept_x l G cI cJ cZ cD cR cT kp L f57 hW.2.2.2 _ h0 0 rh0) rh0 (by decide) rfl wk_X11_accept tw_611 rfl ⟨Nat.le_of_ble_eq_true rfl, Nat.le_of_ble_eq_true rfl⟩ ⟨rfl, rfl⟩ hl.1 rfl (Nat.le_of_ble_eq_true rfl) dX11_heed_57 ⟨Nat.le_of_ble_eq_true rfl, Nat.le_of_ble_eq_true rfl⟩ (fun v62 f63 H locs q64 hW => ?_)
          obtain ⟨⟨x66, rfl, p67⟩, g65⟩ := q64
          have p67 : x66.toInt = (0 : Int) := p67
          have z68 : WT kp L [] f0 f63 := wt_fm z61 g65 rfl
          have hF := FM.tr hF g65 rfl
          exact e_I E hW rfl ⟨⟨_, rfl, (by rw [mC, mC0, mvc]; omega)⟩, hF, z68⟩ dX11_heed_60
        · refine lv_aload_n hx hb dX11_heed_41 rfl (lv_at hl 1 rfl) ?_
          refine lv_bipush (v := (-3)) hx hb dX11_heed_42 (by decide) ?_
          have hW0 := hW.2.2.2
          refine t_callV (As := [.int (-3)]) (rest := []) E hW (c_X11_refuse_x l G cI cJ cZ cD cR cT kp L f43 hW.2.2.2 _ h0 (-3) rh0 (by decide)) rh0 (by decide) rfl wk_X11_refuse tw_603 rfl ⟨Nat.le_of_ble_eq_true rfl, Nat.le_of_ble_eq_true rfl⟩ ⟨rfl, rfl⟩ hl.1 rfl (Nat.le_of_ble_eq_true rfl) dX11_heed_44 ⟨Nat.le_of_ble_eq_true rfl, Nat.le_of_ble_eq_true rfl⟩ (fun v69 f70 H locs q71 hW => ?_)
          obtain ⟨⟨x73, rfl, p74⟩, g72⟩ := q71
          have p74 : x73.toInt = (-3 : Int) := p74
          have z75 : WT kp L [] f0 f70 := wt_fm z50 g72 rfl
          have hF := FM.tr hF g72 rfl
          exact e_I E hW rfl ⟨⟨_, rfl, (by rw [mC, mC0, mvc]; omega)⟩, hF, z75⟩ dX11_heed_47
      · refine lv_aload_n hx hb dX11_heed_29 rfl (lv_at hl 1 rfl) ?_
        refine lv_bipush (v := (-2)) hx hb dX11_heed_30 (by decide) ?_
        have hW0 := hW.2.2.2
        refine t_callV (As := [.int (-2)]) (rest := []) E hW (c_X11_refuse_x l G cI cJ cZ cD cR cT kp L f43 hW.2.2.2 _ h0 (-2) rh0 (by decide)) rh0 (by decide) rfl wk_X11_refuse tw_603 rfl ⟨Nat.le_of_ble_eq_true rfl, Nat.le_of_ble_eq_true rfl⟩ ⟨rfl, rfl⟩ hl.1 rfl (Nat.le_of_ble_eq_true rfl) dX11_heed_32 ⟨Nat.le_of_ble_eq_true rfl, Nat.le_of_ble_eq_true rfl⟩ (fun v76 f77 H locs q78 hW => ?_)
        obtain ⟨⟨x80, rfl, p81⟩, g79⟩ := q78
        have p81 : x80.toInt = (-2 : Int) := p81
        have z82 : WT kp L [] f0 f77 := wt_fm z50 g79 rfl
        have hF := FM.tr hF g79 rfl
        exact e_I E hW rfl ⟨⟨_, rfl, (by rw [mC, mC0, mvc]; omega)⟩, hF, z82⟩ dX11_heed_35
def ms_X11_canGo_x : List (Nat × Nat) := []
def po_X11_canGo_x (kp : Nat → Nat) (L : List Nat) (f0 : Nat → va_E) (h0 : Nat) (u1 : Int32) : Option Value → (Nat → va_E) → Prop := fun v f => (∃ r : Int32, v = some (.int r) ∧ ((r.toInt = 1 ∧ (1 ≤ u1.toInt ∧ u1.toInt ≤ 104) ∧ (oI (f0 (oR (f0 h0) 0)) 6).toInt + u1.toInt ≤ 399) ∨ (r.toInt = 0 ∧ ¬ ((1 ≤ u1.toInt ∧ u1.toInt ≤ 104) ∧ (oI (f0 (oR (f0 h0) 0)) 6).toInt + u1.toInt ≤ 399)))) ∧ FM kp L ms_X11_canGo_x f0 f ∧ (WT kp L [] f0 f)
set_option maxHeartbeats 4000000 in
set_option maxRecDepth 100000 in
theorem c_X11_canGo_x (l : Launch) (G : va_G) (cI cJ cZ cD cR cT : ClassId) (kp : Nat → Nat) (L : List Nat) (f0 : Nat → va_E) (hTH : TH cI cJ cZ cD cR cT kp L f0) (sz : Nat) (h0 : Nat) (u1 : Int32) (rh0 : RK kp L h0 11) : Met l yX11_canGo (Cond.code yX11_canGo cX11_canGo 2 (some .boolean) :: wTab) ({ frames := 2, cells := 0, slots := 0, locals := 62 }) (va_Pc [.ref h0, .int u1] (PreW G (tys6 cI cJ cZ cD cR cT) (va_pl L f0) sz)) (QT (po_X11_canGo_x kp L f0 h0 u1) G cI cJ cZ cD cR cT (va_A (va_pl L f0) sz) kp L) 0 0 (va_A (va_pl L f0) sz) := by
  refine metT (by decide) (Nat.le_of_ble_eq_true rfl) hTH ?_
  intro p e s m below meth c A ls E hW hl
  obtain ⟨hx, hb, -, hml, hown, hts, -, -, -⟩ := id E
  have hF : FM kp L ms_X11_canGo_x f0 f0 := FM.rf
  have hl : lv_has ls 2 [(0, .ref h0), (1, .int u1)] := hl
  obtain ⟨C, mC⟩ : ∃ x : Nat, oR (f0 h0) 0 = x := ⟨_, rfl⟩
  have rC : RK kp L C 0 := by rw [← mC]; exact th_ref hTH rh0 (by decide) (by decide) rfl
  obtain ⟨vc, mvc⟩ : ∃ x : Int32, oI (f0 C) 6 = x := ⟨_, rfl⟩
  have bvc : (0 : Int) ≤ vc.toInt ∧ vc.toInt ≤ 399 := by rw [← mvc]; exact th_ivT hTH rC (by decide) (by decide) rfl
  refine lv_iload_n hx hb dX11_canGo_0 rfl (lv_at hl 1 rfl) ?_
  refine lv_iconst (v := 1) hx hb dX11_canGo_1 (by decide) ?_
  refine lv_bipush (v := 104) hx hb dX11_canGo_2 (by decide) ?_
  have hW0 := hW.2.2.2
  refine t_callS (As := [.int u1, .int 1, .int 104]) (rest := []) E hW (c_X11_within l G cI cJ cZ cD cR cT kp L f0 hW.2.2.2 _ u1 1 104 (by decide)) wk_X11_within tw_599 rfl ⟨Nat.le_of_ble_eq_true rfl, Nat.le_of_ble_eq_true rfl⟩ ⟨rfl, rfl⟩ hl.1 rfl (Nat.le_of_ble_eq_true rfl) dX11_canGo_4 ⟨Nat.le_of_ble_eq_true rfl, Nat.le_of_ble_eq_true rfl⟩ (fun v1 f2 H locs q3 hW => ?_)
  obtain ⟨⟨x5, rfl, p6⟩, g4⟩ := q3
  have p6 : (x5.toInt = 1 ∧ (1 : Int) ≤ u1.toInt ∧ u1.toInt ≤ (104 : Int)) ∨ (x5.toInt = 0 ∧ (u1.toInt < (1 : Int) ∨ (104 : Int) < u1.toInt)) := p6
  have z7 : WT kp L [] f0 f2 := wt_fm (wt_rf : WT kp L [] f0 f0) g4 rfl
  have hF := FM.tr hF g4 rfl
  refine q_if_eq (tgt := 29) hx hb dX11_canGo_7 (by decide) rfl (fun c8 => ?_) (fun c8 => ?_)
  · have q9 : (u1.toInt < (1 : Int) ∨ (104 : Int) < u1.toInt) := by omega
    clear p6
    refine lv_iconst (v := 0) hx hb dX11_canGo_29 (by decide) ?_
    exact e_Z E hW rfl (by decide) ⟨⟨_, rfl, (by rw [mC, mvc]; have hk : (0 : Int32).toInt = 0 := rfl; omega)⟩, hF, z7⟩ dX11_canGo_30
  · have q10 : (1 : Int) ≤ u1.toInt ∧ u1.toInt ≤ (104 : Int) := by omega
    clear p6
    refine lv_aload_n hx hb dX11_canGo_10 rfl (lv_at hl 0 rfl) ?_
    refine fg_RX11_12 E hW rh0 dX11_canGo_11 (fun a11 m12 r13 => ?_)
    obtain rfl : C = a11 := (((fm_R g4 rh0 rfl).trans mC)).symm.trans m12
    refine fg_RX11_255 E hW rC dX11_canGo_14 (fun y14 m15 b16 => ?_)
    obtain rfl : vc = y14 := (((fm_I g4 rC rfl).trans mvc)).symm.trans m15
    refine lv_iload_n hx hb dX11_canGo_17 rfl (lv_at hl 1 rfl) ?_
    refine q_iadd hx hb dX11_canGo_18 rfl rfl (by omega) (fun x17 h18 => ?_)
    refine lv_sipush (v := 399) hx hb dX11_canGo_19 (by decide) ?_
    refine q_icmp_gt (Y := 399) (tgt := 29) hx hb dX11_canGo_22 (by decide) rfl rfl (fun c19 => ?_) (fun c19 => ?_)
    · refine lv_iconst (v := 0) hx hb dX11_canGo_29 (by decide) ?_
      exact e_Z E hW rfl (by decide) ⟨⟨_, rfl, (by rw [mC, mvc]; have hk : (0 : Int32).toInt = 0 := rfl; omega)⟩, hF, z7⟩ dX11_canGo_30
    · refine lv_iconst (v := 1) hx hb dX11_canGo_25 (by decide) ?_
      refine lv_goto (tgt := 30) hx hb dX11_canGo_26 (by decide) ?_
      exact e_Z E hW rfl (by decide) ⟨⟨_, rfl, (by rw [mC, mvc]; have hk : (1 : Int32).toInt = 1 := rfl; omega)⟩, hF, z7⟩ dX11_canGo_30
