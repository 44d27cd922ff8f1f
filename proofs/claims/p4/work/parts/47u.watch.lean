
def ms_X4_add_u : List (Nat × Nat) := [(4, 0), (341, 0), (342, 0), (343, 0), (344, 0), (345, 0), (346, 0), (347, 0), (348, 0)]
def po_X4_add_u (kp : Nat → Nat) (L : List Nat) (f0 : Nat → va_E) (h0 : Nat) (u1 : Int32) (u2 : Int32) (u3 : Int32) : Option Value → (Nat → va_E) → Prop := fun v f => (∃ r : Int32, v = some (.int r) ∧ (((oI (f0 h0) 0).toInt < 40 ∧ r.toInt = (oI (f0 h0) 0).toInt) ∨ (40 ≤ (oI (f0 h0) 0).toInt ∧ r.toInt = -1))) ∧ FM kp L ms_X4_add_u f0 f ∧ (((oI (f0 h0) 0).toInt < 40 ∧ (oI (f h0) 0).toInt = (oI (f0 h0) 0).toInt + 1) ∨ (40 ≤ (oI (f0 h0) 0).toInt ∧ (oI (f h0) 0).toInt = (oI (f0 h0) 0).toInt)) ∧ ((oI (f0 h0) 0).toInt < 40 → P8 f h0 = addP (P8 f0 h0) u1.toInt u3.toInt) ∧ (WU kp L [h0, (oR (f0 h0) 1), (oR (f0 h0) 3), (oR (f0 h0) 4), (oR (f0 h0) 6)] f0 f)
set_option maxHeartbeats 4000000 in
set_option maxRecDepth 100000 in
theorem c_X4_add_u (l : Launch) (G : va_G) (cI cJ cZ cD cR cT : ClassId) (kp : Nat → Nat) (L : List Nat) (f0 : Nat → va_E) (hTH : TH cI cJ cZ cD cR cT kp L f0) (sz : Nat) (h0 : Nat) (u1 : Int32) (u2 : Int32) (u3 : Int32) (rh0 : RK kp L h0 4) (pu1 : (0 : Int) ≤ u1.toInt ∧ u1.toInt ≤ 19) (pu2 : (0 : Int) ≤ u2.toInt ∧ u2.toInt ≤ 1000000) (pu3 : (0 : Int) ≤ u3.toInt ∧ u3.toInt ≤ 100) : Met l yX4_add (Cond.code yX4_add cX4_add 5 (some .int) :: wTab) ({ frames := 1, cells := 0, slots := 0, locals := 40 }) (va_Pc [.ref h0, .int u1, .int u2, .int u3] (PreW G (tys6 cI cJ cZ cD cR cT) (va_pl L f0) sz)) (QT (po_X4_add_u kp L f0 h0 u1 u2 u3) G cI cJ cZ cD cR cT (va_A (va_pl L f0) sz) kp L) 0 0 (va_A (va_pl L f0) sz) := by
  refine metT (by decide) (Nat.le_of_ble_eq_true rfl) hTH ?_
  intro p e s m below meth c A ls E hW hl
  obtain ⟨hx, hb, -, hml, hown, hts, -, -, -⟩ := id E
  have hF : FM kp L ms_X4_add_u f0 f0 := FM.rf
  have hl : lv_has ls 5 [(0, .ref h0), (1, .int u1), (2, .int u2), (3, .int u3)] := hl
  obtain ⟨N1, mN1⟩ : ∃ x : Nat, oR (f0 h0) 1 = x := ⟨_, rfl⟩
  have rN1 : RK kp L N1 341 := by rw [← mN1]; exact th_ref hTH rh0 (by decide) (by decide) rfl
  obtain ⟨N3, mN3⟩ : ∃ x : Nat, oR (f0 h0) 3 = x := ⟨_, rfl⟩
  have rN3 : RK kp L N3 343 := by rw [← mN3]; exact th_ref hTH rh0 (by decide) (by decide) rfl
  obtain ⟨N4, mN4⟩ : ∃ x : Nat, oR (f0 h0) 4 = x := ⟨_, rfl⟩
  have rN4 : RK kp L N4 344 := by rw [← mN4]; exact th_ref hTH rh0 (by decide) (by decide) rfl
  obtain ⟨N6, mN6⟩ : ∃ x : Nat, oR (f0 h0) 6 = x := ⟨_, rfl⟩
  have rN6 : RK kp L N6 346 := by rw [← mN6]; exact th_ref hTH rh0 (by decide) (by decide) rfl
  obtain ⟨vc, mvc⟩ : ∃ x : Int32, oI (f0 h0) 0 = x := ⟨_, rfl⟩
  have bvc : (0 : Int) ≤ vc.toInt ∧ vc.toInt ≤ 40 := by rw [← mvc]; exact th_iv hW rh0 (by decide) (by decide) rfl
  refine lv_aload_n hx hb dX4_add_0 rfl (lv_at hl 0 rfl) ?_
  refine fg_RX4_39 E hW rh0 dX4_add_1 (fun y1 m2 b3 => ?_)
  obtain rfl : vc = y1 := (mvc).symm.trans m2
  refine lv_bipush (v := 40) hx hb dX4_add_4 (by decide) ?_
  refine q_icmp_lt (Y := 40) (tgt := 11) hx hb dX4_add_6 (by decide) rfl rfl (fun c4 => ?_) (fun c4 => ?_)
  · refine lv_aload_n hx hb dX4_add_11 rfl (lv_at hl 0 rfl) ?_
    refine fg_RX4_39 E hW rh0 dX4_add_12 (fun y5 m6 b7 => ?_)
    obtain rfl : vc = y5 := (m2).symm.trans m6
    refine lv_istore (lv' := [(4, .int vc), (0, .ref h0), (1, .int u1), (2, .int u2), (3, .int u3)]) hx hb dX4_add_15 hl (by decide) rfl (fun ls hl => ?_)
    refine lv_aload_n hx hb dX4_add_17 rfl (lv_at hl 1 rfl) ?_
    refine fg_RX4_9 E hW rh0 dX4_add_18 (fun a8 m9 r10 => ?_)
    obtain rfl : N1 = a8 := (mN1).symm.trans m9
    refine lv_iload hx hb dX4_add_21 (lv_at hl 0 rfl) ?_
    refine lv_iload_n hx hb dX4_add_23 rfl (lv_at hl 2 rfl) ?_
    have hW0 := hW.2.2.2
    refine gs_341 E hW rN1 ⟨by omega, by omega⟩ dX4_add_24 (fun f11 H locs e12 n13 g14 hW => ?_)
    have z15 : WU kp L [h0, N1, N3, N4, N6] f0 f11 := wu_put (wu_rf : WU kp L [h0, N1, N3, N4, N6] f0 f0) n13 (by simp)
    have hF := FM.tr hF g14 rfl
    refine lv_aload_n hx hb dX4_add_25 rfl (lv_at hl 1 rfl) ?_
    refine fg_RX4_15 E hW rh0 dX4_add_26 (fun a16 m17 r18 => ?_)
    refine lv_iload hx hb dX4_add_29 (lv_at hl 0 rfl) ?_
    refine lv_iload_n hx hb dX4_add_31 rfl (lv_at hl 3 rfl) ?_
    have hW0 := hW.2.2.2
    refine gs_342 E hW r18 ⟨by omega, by omega⟩ dX4_add_32 (fun f19 H locs e20 n21 g22 hW => ?_)
    have z23 : WU kp L [h0, N1, N3, N4, N6] f0 f19 := wu_fm z15 g22 rfl
    have hF := FM.tr hF g22 rfl
    refine lv_aload_n hx hb dX4_add_33 rfl (lv_at hl 1 rfl) ?_
    refine fg_RX4_18 E hW rh0 dX4_add_34 (fun a24 m25 r26 => ?_)
    obtain rfl : N3 = a24 := (((fm_R g22 rh0 rfl).trans ((fm_R g14 rh0 rfl).trans mN3))).symm.trans m25
    refine lv_iload hx hb dX4_add_37 (lv_at hl 0 rfl) ?_
    refine lv_iload_n hx hb dX4_add_39 rfl (lv_at hl 4 rfl) ?_
    have hW0 := hW.2.2.2
    refine gs_343 E hW rN3 ⟨by omega, by omega⟩ dX4_add_40 (fun f27 H locs e28 n29 g30 hW => ?_)
    have m31 : aI (f27 N1) (vc : Int32).toNatClampNeg = u1 := ((congrArg (fun z => aI z (vc : Int32).toNatClampNeg) (fm_A g30 rN1 (by decide) rfl)).trans ((congrArg (fun z => aI z (vc : Int32).toNatClampNeg) (fm_A g22 rN1 (by decide) rfl)).trans (show aI (f11 N1) (vc : Int32).toNatClampNeg = u1 from by rw [e12]; exact up_s)))
    have m32 : aI (f27 N4) = aI (f0 N4) := ((congrArg aI (fm_A g30 rN4 (by decide) rfl)).trans ((congrArg aI (fm_A g22 rN4 (by decide) rfl)).trans ((congrArg aI (fm_A g14 rN4 (by decide) rfl)).trans (rfl : aI (f0 N4) = aI (f0 N4)))))
    have m33 : aI (f27 N6) = aI (f0 N6) := ((congrArg aI (fm_A g30 rN6 (by decide) rfl)).trans ((congrArg aI (fm_A g22 rN6 (by decide) rfl)).trans ((congrArg aI (fm_A g14 rN6 (by decide) rfl)).trans (rfl : aI (f0 N6) = aI (f0 N6)))))
    have m34 : aI (f27 N1) = upd (aI (f0 N1)) (vc : Int32).toNatClampNeg u1 := ((congrArg aI (fm_A g30 rN1 (by decide) rfl)).trans ((congrArg aI (fm_A g22 rN1 (by decide) rfl)).trans (e12.trans (congrArg (fun z => upd z (vc : Int32).toNatClampNeg u1) (rfl : aI (f0 N1) = aI (f0 N1))))))
    have z35 : WU kp L [h0, N1, N3, N4, N6] f0 f27 := wu_put z23 n29 (by simp)
    have hF := FM.tr hF g30 rfl
    refine lv_aload_n hx hb dX4_add_41 rfl (lv_at hl 1 rfl) ?_
    refine fg_RX4_21 E hW rh0 dX4_add_42 (fun a36 m37 r38 => ?_)
    obtain rfl : N4 = a36 := (((fm_R g30 rh0 rfl).trans ((fm_R g22 rh0 rfl).trans ((fm_R g14 rh0 rfl).trans mN4)))).symm.trans m37
    refine lv_iload hx hb dX4_add_45 (lv_at hl 0 rfl) ?_
    refine lv_iconst (v := (-1)) hx hb dX4_add_47 (by decide) ?_
    have hW0 := hW.2.2.2
    refine gs_344 E hW rN4 ⟨by omega, by omega⟩ (by decide) dX4_add_48 (fun f39 H locs e40 n41 g42 hW => ?_)
    have m43 : aI (f39 a16) (vc : Int32).toNatClampNeg = u2 := ((congrArg (fun z => aI z (vc : Int32).toNatClampNeg) (fm_A g42 r18 (by decide) rfl)).trans ((congrArg (fun z => aI z (vc : Int32).toNatClampNeg) (fm_A g30 r18 (by decide) rfl)).trans (show aI (f19 a16) (vc : Int32).toNatClampNeg = u2 from by rw [e20]; exact up_s)))
    have m44 : aI (f39 N3) = upd (aI (f0 N3)) (vc : Int32).toNatClampNeg u3 := ((congrArg aI (fm_A g42 rN3 (by decide) rfl)).trans (e28.trans (congrArg (fun z => upd z (vc : Int32).toNatClampNeg u3) ((congrArg aI (fm_A g22 rN3 (by decide) rfl)).trans ((congrArg aI (fm_A g14 rN3 (by decide) rfl)).trans (rfl : aI (f0 N3) = aI (f0 N3)))))))
    have z45 : WU kp L [h0, N1, N3, N4, N6] f0 f39 := wu_put z35 n41 (by simp)
    have hF := FM.tr hF g42 rfl
    refine lv_aload_n hx hb dX4_add_49 rfl (lv_at hl 1 rfl) ?_
    refine fg_RX4_24 E hW rh0 dX4_add_50 (fun a46 m47 r48 => ?_)
    refine lv_iload hx hb dX4_add_53 (lv_at hl 0 rfl) ?_
    refine lv_iconst (v := 0) hx hb dX4_add_55 (by decide) ?_
    have hW0 := hW.2.2.2
    refine gs_345 E hW r48 ⟨by omega, by omega⟩ dX4_add_56 (fun f49 H locs e50 n51 g52 hW => ?_)
    have m53 : aI (f49 N1) (vc : Int32).toNatClampNeg = u1 := ((congrArg (fun z => aI z (vc : Int32).toNatClampNeg) (fm_A g52 rN1 (by decide) rfl)).trans ((congrArg (fun z => aI z (vc : Int32).toNatClampNeg) (fm_A g42 rN1 (by decide) rfl)).trans m31))
    have m54 : aI (f49 N3) (vc : Int32).toNatClampNeg = u3 := ((congrArg (fun z => aI z (vc : Int32).toNatClampNeg) (fm_A g52 rN3 (by decide) rfl)).trans ((congrArg (fun z => aI z (vc : Int32).toNatClampNeg) (fm_A g42 rN3 (by decide) rfl)).trans (show aI (f27 N3) (vc : Int32).toNatClampNeg = u3 from by rw [e28]; exact up_s)))
    have z55 : WU kp L [h0, N1, N3, N4, N6] f0 f49 := wu_fm z45 g52 rfl
    have hF := FM.tr hF g52 rfl
    refine lv_aload_n hx hb dX4_add_57 rfl (lv_at hl 1 rfl) ?_
    refine fg_RX4_27 E hW rh0 dX4_add_58 (fun a56 m57 r58 => ?_)
    obtain rfl : N6 = a56 := (((fm_R g52 rh0 rfl).trans ((fm_R g42 rh0 rfl).trans ((fm_R g30 rh0 rfl).trans ((fm_R g22 rh0 rfl).trans ((fm_R g14 rh0 rfl).trans mN6)))))).symm.trans m57
    refine lv_iload hx hb dX4_add_61 (lv_at hl 0 rfl) ?_
    refine lv_iconst (v := 0) hx hb dX4_add_63 (by decide) ?_
    have hW0 := hW.2.2.2
    refine gs_346 E hW rN6 ⟨by omega, by omega⟩ dX4_add_64 (fun f59 H locs e60 n61 g62 hW => ?_)
    have m63 : aI (f59 a16) (vc : Int32).toNatClampNeg = u2 := ((congrArg (fun z => aI z (vc : Int32).toNatClampNeg) (fm_A g62 r18 (by decide) rfl)).trans ((congrArg (fun z => aI z (vc : Int32).toNatClampNeg) (fm_A g52 r18 (by decide) rfl)).trans m43))
    have m64 : aI (f59 N4) (vc : Int32).toNatClampNeg = (-1) := ((congrArg (fun z => aI z (vc : Int32).toNatClampNeg) (fm_A g62 rN4 (by decide) rfl)).trans ((congrArg (fun z => aI z (vc : Int32).toNatClampNeg) (fm_A g52 rN4 (by decide) rfl)).trans (show aI (f39 N4) (vc : Int32).toNatClampNeg = (-1) from by rw [e40]; exact up_s)))
    have m65 : aI (f59 N4) = upd (aI (f0 N4)) (vc : Int32).toNatClampNeg (-1) := ((congrArg aI (fm_A g62 rN4 (by decide) rfl)).trans ((congrArg aI (fm_A g52 rN4 (by decide) rfl)).trans (e40.trans (congrArg (fun z => upd z (vc : Int32).toNatClampNeg (-1)) m32))))
    have z66 : WU kp L [h0, N1, N3, N4, N6] f0 f59 := wu_put z55 n61 (by simp)
    have hF := FM.tr hF g62 rfl
    refine lv_aload_n hx hb dX4_add_65 rfl (lv_at hl 1 rfl) ?_
    refine fg_RX4_30 E hW rh0 dX4_add_66 (fun a67 m68 r69 => ?_)
    refine lv_iload hx hb dX4_add_69 (lv_at hl 0 rfl) ?_
    refine lv_iconst (v := (-1)) hx hb dX4_add_71 (by decide) ?_
    have hW0 := hW.2.2.2
    refine gs_347 E hW r69 ⟨by omega, by omega⟩ dX4_add_72 (fun f70 H locs e71 n72 g73 hW => ?_)
    have m74 : oR (f70 h0) 1 = N1 := ((fm_R g73 rh0 rfl).trans ((fm_R g62 rh0 rfl).trans ((fm_R g52 rh0 rfl).trans ((fm_R g42 rh0 rfl).trans ((fm_R g30 rh0 rfl).trans ((fm_R g22 rh0 rfl).trans ((fm_R g14 rh0 rfl).trans m9)))))))
    have m75 : oI (f70 h0) 0 = vc := ((fm_I g73 rh0 rfl).trans ((fm_I g62 rh0 rfl).trans ((fm_I g52 rh0 rfl).trans ((fm_I g42 rh0 rfl).trans ((fm_I g30 rh0 rfl).trans ((fm_I g22 rh0 rfl).trans ((fm_I g14 rh0 rfl).trans m6)))))))
    have m76 : aI (f70 N1) (vc : Int32).toNatClampNeg = u1 := ((congrArg (fun z => aI z (vc : Int32).toNatClampNeg) (fm_A g73 rN1 (by decide) rfl)).trans ((congrArg (fun z => aI z (vc : Int32).toNatClampNeg) (fm_A g62 rN1 (by decide) rfl)).trans m53))
    have m77 : aI (f70 N3) (vc : Int32).toNatClampNeg = u3 := ((congrArg (fun z => aI z (vc : Int32).toNatClampNeg) (fm_A g73 rN3 (by decide) rfl)).trans ((congrArg (fun z => aI z (vc : Int32).toNatClampNeg) (fm_A g62 rN3 (by decide) rfl)).trans m54))
    have m78 : aI (f70 a46) (vc : Int32).toNatClampNeg = 0 := ((congrArg (fun z => aI z (vc : Int32).toNatClampNeg) (fm_A g73 r48 (by decide) rfl)).trans ((congrArg (fun z => aI z (vc : Int32).toNatClampNeg) (fm_A g62 r48 (by decide) rfl)).trans (show aI (f49 a46) (vc : Int32).toNatClampNeg = 0 from by rw [e50]; exact up_s)))
    have m79 : aI (f70 N1) = upd (aI (f0 N1)) (vc : Int32).toNatClampNeg u1 := ((congrArg aI (fm_A g73 rN1 (by decide) rfl)).trans ((congrArg aI (fm_A g62 rN1 (by decide) rfl)).trans ((congrArg aI (fm_A g52 rN1 (by decide) rfl)).trans ((congrArg aI (fm_A g42 rN1 (by decide) rfl)).trans m34))))
    have m80 : aI (f70 N6) = upd (aI (f0 N6)) (vc : Int32).toNatClampNeg 0 := ((congrArg aI (fm_A g73 rN6 (by decide) rfl)).trans (e60.trans (congrArg (fun z => upd z (vc : Int32).toNatClampNeg 0) ((congrArg aI (fm_A g52 rN6 (by decide) rfl)).trans ((congrArg aI (fm_A g42 rN6 (by decide) rfl)).trans m33)))))
    have z81 : WU kp L [h0, N1, N3, N4, N6] f0 f70 := wu_fm z66 g73 rfl
    have hF := FM.tr hF g73 rfl
    refine lv_aload_n hx hb dX4_add_73 rfl (lv_at hl 1 rfl) ?_
    refine fg_RX4_33 E hW rh0 dX4_add_74 (fun a82 m83 r84 => ?_)
    refine lv_iload hx hb dX4_add_77 (lv_at hl 0 rfl) ?_
    refine lv_iconst (v := 0) hx hb dX4_add_79 (by decide) ?_
    have hW0 := hW.2.2.2
    refine gs_348 E hW r84 ⟨by omega, by omega⟩ dX4_add_80 (fun f85 H locs e86 n87 g88 hW => ?_)
    have m89 : oR (f85 h0) 2 = a16 := ((fm_R g88 rh0 rfl).trans ((fm_R g73 rh0 rfl).trans ((fm_R g62 rh0 rfl).trans ((fm_R g52 rh0 rfl).trans ((fm_R g42 rh0 rfl).trans ((fm_R g30 rh0 rfl).trans ((fm_R g22 rh0 rfl).trans m17)))))))
    have m90 : aI (f85 a16) (vc : Int32).toNatClampNeg = u2 := ((congrArg (fun z => aI z (vc : Int32).toNatClampNeg) (fm_A g88 r18 (by decide) rfl)).trans ((congrArg (fun z => aI z (vc : Int32).toNatClampNeg) (fm_A g73 r18 (by decide) rfl)).trans m63))
    have m91 : aI (f85 N4) (vc : Int32).toNatClampNeg = (-1) := ((congrArg (fun z => aI z (vc : Int32).toNatClampNeg) (fm_A g88 rN4 (by decide) rfl)).trans ((congrArg (fun z => aI z (vc : Int32).toNatClampNeg) (fm_A g73 rN4 (by decide) rfl)).trans m64))
    have m92 : aI (f85 N6) (vc : Int32).toNatClampNeg = 0 := ((congrArg (fun z => aI z (vc : Int32).toNatClampNeg) (fm_A g88 rN6 (by decide) rfl)).trans ((congrArg (fun z => aI z (vc : Int32).toNatClampNeg) (fm_A g73 rN6 (by decide) rfl)).trans (show aI (f59 N6) (vc : Int32).toNatClampNeg = 0 from by rw [e60]; exact up_s)))
    have m93 : aI (f85 N3) = upd (aI (f0 N3)) (vc : Int32).toNatClampNeg u3 := ((congrArg aI (fm_A g88 rN3 (by decide) rfl)).trans ((congrArg aI (fm_A g73 rN3 (by decide) rfl)).trans ((congrArg aI (fm_A g62 rN3 (by decide) rfl)).trans ((congrArg aI (fm_A g52 rN3 (by decide) rfl)).trans m44))))
    have z94 : WU kp L [h0, N1, N3, N4, N6] f0 f85 := wu_fm z81 g88 rfl
    have hF := FM.tr hF g88 rfl
    refine lv_aload_n hx hb dX4_add_81 rfl (lv_at hl 1 rfl) ?_
    refine lv_dup hx hb dX4_add_82 rfl ?_
    refine fg_RX4_39 E hW rh0 dX4_add_83 (fun y95 m96 b97 => ?_)
    obtain rfl : vc = y95 := (((fm_I g88 rh0 rfl).trans m75)).symm.trans m96
    refine lv_iconst (v := 1) hx hb dX4_add_86 (by decide) ?_
    refine q_iadd (Y := 1) hx hb dX4_add_87 rfl rfl (by omega) (fun x98 h99 => ?_)
    have hW0 := hW.2.2.2
    refine fp_RX4_39 E hW rh0 (by omega) dX4_add_88 (fun f100 H locs e101 n102 g103 hW => ?_)
    have m104 : oR (f100 h0) 3 = N3 := ((fm_R g103 rh0 rfl).trans ((fm_R g88 rh0 rfl).trans ((fm_R g73 rh0 rfl).trans ((fm_R g62 rh0 rfl).trans ((fm_R g52 rh0 rfl).trans ((fm_R g42 rh0 rfl).trans ((fm_R g30 rh0 rfl).trans m25)))))))
    have m105 : aI (f100 N1) (vc : Int32).toNatClampNeg = u1 := ((congrArg (fun z => aI z (vc : Int32).toNatClampNeg) (fm_A g103 rN1 (by decide) rfl)).trans ((congrArg (fun z => aI z (vc : Int32).toNatClampNeg) (fm_A g88 rN1 (by decide) rfl)).trans m76))
    have m106 : aI (f100 N3) (vc : Int32).toNatClampNeg = u3 := ((congrArg (fun z => aI z (vc : Int32).toNatClampNeg) (fm_A g103 rN3 (by decide) rfl)).trans ((congrArg (fun z => aI z (vc : Int32).toNatClampNeg) (fm_A g88 rN3 (by decide) rfl)).trans m77))
    have m107 : aI (f100 a46) (vc : Int32).toNatClampNeg = 0 := ((congrArg (fun z => aI z (vc : Int32).toNatClampNeg) (fm_A g103 r48 (by decide) rfl)).trans ((congrArg (fun z => aI z (vc : Int32).toNatClampNeg) (fm_A g88 r48 (by decide) rfl)).trans m78))
    have m108 : aI (f100 a67) (vc : Int32).toNatClampNeg = (-1) := ((congrArg (fun z => aI z (vc : Int32).toNatClampNeg) (fm_A g103 r69 (by decide) rfl)).trans ((congrArg (fun z => aI z (vc : Int32).toNatClampNeg) (fm_A g88 r69 (by decide) rfl)).trans (show aI (f70 a67) (vc : Int32).toNatClampNeg = (-1) from by rw [e71]; exact up_s)))
    have z109 : WU kp L [h0, N1, N3, N4, N6] f0 f100 := wu_put z94 n102 (by simp)
    have hF := FM.tr hF g103 rfl
    refine lv_iload hx hb dX4_add_91 (lv_at hl 0 rfl) ?_
    exact e_I E hW rfl ⟨⟨_, rfl, (by rw [mvc]; omega)⟩, hF, (by rw [e101, mvc]; omega), (fun q => p8_add mN1 mN3 mN4 mN6 ((fm_R g103 rh0 rfl).trans ((fm_R g88 rh0 rfl).trans m74)) m104 ((fm_R g103 rh0 rfl).trans ((fm_R g88 rh0 rfl).trans ((fm_R g73 rh0 rfl).trans ((fm_R g62 rh0 rfl).trans ((fm_R g52 rh0 rfl).trans ((fm_R g42 rh0 rfl).trans m37)))))) ((fm_R g103 rh0 rfl).trans ((fm_R g88 rh0 rfl).trans ((fm_R g73 rh0 rfl).trans ((fm_R g62 rh0 rfl).trans m57)))) (by omega) mvc (by rw [e101]; omega) ((congrArg aI (fm_A g103 rN1 (by decide) rfl)).trans ((congrArg aI (fm_A g88 rN1 (by decide) rfl)).trans m79)) ((congrArg aI (fm_A g103 rN3 (by decide) rfl)).trans m93) ((congrArg aI (fm_A g103 rN4 (by decide) rfl)).trans ((congrArg aI (fm_A g88 rN4 (by decide) rfl)).trans ((congrArg aI (fm_A g73 rN4 (by decide) rfl)).trans m65))) ((congrArg aI (fm_A g103 rN6 (by decide) rfl)).trans ((congrArg aI (fm_A g88 rN6 (by decide) rfl)).trans m80)) rfl rfl), (by rw [mN1, mN3, mN4, mN6]; exact z109)⟩ dX4_add_93
  · refine lv_iconst (v := (-1)) hx hb dX4_add_9 (by decide) ?_
    exact e_I E hW rfl ⟨⟨_, rfl, (by rw [mvc]; have hk : ((-1) : Int32).toInt = -1 := rfl; omega)⟩, hF, (by rw [mvc]; omega), (fun q => absurd q (by rw [mvc]; omega)), (by rw [mN1, mN3, mN4, mN6]; exact (wu_rf : WU kp L [h0, N1, N3, N4, N6] f0 f0))⟩ dX4_add_10
def ms_X11_person_u : List (Nat × Nat) := [(4, 0), (11, 15), (341, 0), (342, 0), (343, 0), (344, 0), (345, 0), (346, 0), (347, 0), (348, 0)]
def po_X11_person_u (kp : Nat → Nat) (L : List Nat) (f0 : Nat → va_E) (h0 : Nat) (u1 : Int32) (u2 : Int32) (u3 : Int32) : Option Value → (Nat → va_E) → Prop := fun v f => (∃ r : Int32, v = some (.int r) ∧ ((r.toInt, P8 f (oR (f0 (oR (f0 h0) 0)) 0)) = sPerson (P8 f0 (oR (f0 (oR (f0 h0) 0)) 0)) u1.toInt u2.toInt u3.toInt)) ∧ FM kp L ms_X11_person_u f0 f ∧ (WU kp L [(oR (f0 (oR (f0 h0) 0)) 0), (oR (f0 (oR (f0 (oR (f0 h0) 0)) 0)) 1), (oR (f0 (oR (f0 (oR (f0 h0) 0)) 0)) 3), (oR (f0 (oR (f0 (oR (f0 h0) 0)) 0)) 4), (oR (f0 (oR (f0 (oR (f0 h0) 0)) 0)) 6)] f0 f)
set_option maxHeartbeats 4000000 in
set_option maxRecDepth 100000 in
theorem c_X11_person_u (l : Launch) (G : va_G) (cI cJ cZ cD cR cT : ClassId) (kp : Nat → Nat) (L : List Nat) (f0 : Nat → va_E) (hTH : TH cI cJ cZ cD cR cT kp L f0) (sz : Nat) (h0 : Nat) (u1 : Int32) (u2 : Int32) (u3 : Int32) (rh0 : RK kp L h0 11) : Met l yX11_person (Cond.code yX11_person cX11_person 4 (some .int) :: wTab) ({ frames := 2, cells := 0, slots := 0, locals := 64 }) (va_Pc [.ref h0, .int u1, .int u2, .int u3] (PreW G (tys6 cI cJ cZ cD cR cT) (va_pl L f0) sz)) (QT (po_X11_person_u kp L f0 h0 u1 u2 u3) G cI cJ cZ cD cR cT (va_A (va_pl L f0) sz) kp L) 0 0 (va_A (va_pl L f0) sz) := by
  refine metT (by decide) (Nat.le_of_ble_eq_true rfl) hTH ?_
  intro p e s m below meth c A ls E hW hl
  obtain ⟨hx, hb, -, hml, hown, hts, -, -, -⟩ := id E
  have hF : FM kp L ms_X11_person_u f0 f0 := FM.rf
  have hl : lv_has ls 4 [(0, .ref h0), (1, .int u1), (2, .int u2), (3, .int u3)] := hl
  obtain ⟨N0, mN0⟩ : ∃ x : Nat, oR (f0 h0) 0 = x := ⟨_, rfl⟩
  have rN0 : RK kp L N0 0 := by rw [← mN0]; exact th_ref hTH rh0 (by decide) (by decide) rfl
  obtain ⟨N00, mN00⟩ : ∃ x : Nat, oR (f0 N0) 0 = x := ⟨_, rfl⟩
  have rN00 : RK kp L N00 4 := by rw [← mN00]; exact th_ref hTH rN0 (by decide) (by decide) rfl
  obtain ⟨N001, mN001⟩ : ∃ x : Nat, oR (f0 N00) 1 = x := ⟨_, rfl⟩
  have rN001 : RK kp L N001 341 := by rw [← mN001]; exact th_ref hTH rN00 (by decide) (by decide) rfl
  obtain ⟨N003, mN003⟩ : ∃ x : Nat, oR (f0 N00) 3 = x := ⟨_, rfl⟩
  have rN003 : RK kp L N003 343 := by rw [← mN003]; exact th_ref hTH rN00 (by decide) (by decide) rfl
  obtain ⟨N004, mN004⟩ : ∃ x : Nat, oR (f0 N00) 4 = x := ⟨_, rfl⟩
  have rN004 : RK kp L N004 344 := by rw [← mN004]; exact th_ref hTH rN00 (by decide) (by decide) rfl
  obtain ⟨N006, mN006⟩ : ∃ x : Nat, oR (f0 N00) 6 = x := ⟨_, rfl⟩
  have rN006 : RK kp L N006 346 := by rw [← mN006]; exact th_ref hTH rN00 (by decide) (by decide) rfl
  obtain ⟨vc, mvc⟩ : ∃ x : Int32, oI (f0 N00) 0 = x := ⟨_, rfl⟩
  have bvc : (0 : Int) ≤ vc.toInt ∧ vc.toInt ≤ 40 := by rw [← mvc]; exact th_iv hW rN00 (by decide) (by decide) rfl
  refine lv_iload_n hx hb dX11_person_0 rfl (lv_at hl 1 rfl) ?_
  refine lv_iconst (v := 0) hx hb dX11_person_1 (by decide) ?_
  refine lv_bipush (v := 19) hx hb dX11_person_2 (by decide) ?_
  have hW0 := hW.2.2.2
  refine t_callS (As := [.int u1, .int 0, .int 19]) (rest := []) E hW (c_X11_within l G cI cJ cZ cD cR cT kp L f0 hW.2.2.2 _ u1 0 19 (by decide)) wk_X11_within tw_599 rfl ⟨Nat.le_of_ble_eq_true rfl, Nat.le_of_ble_eq_true rfl⟩ ⟨rfl, rfl⟩ hl.1 rfl (Nat.le_of_ble_eq_true rfl) dX11_person_4 ⟨Nat.le_of_ble_eq_true rfl, Nat.le_of_ble_eq_true rfl⟩ (fun v1 f2 H locs q3 hW => ?_)
  obtain ⟨⟨x5, rfl, p6⟩, g4⟩ := q3
  have p6 : (x5.toInt = 1 ∧ (0 : Int) ≤ u1.toInt ∧ u1.toInt ≤ (19 : Int)) ∨ (x5.toInt = 0 ∧ (u1.toInt < (0 : Int) ∨ (19 : Int) < u1.toInt)) := p6
  have m8 : P8 f2 N00 = P8 f0 N00 := (p8_fm hW0 rN00 g4 rfl).trans (rfl : P8 f0 N00 = P8 f0 N00)
  have z7 : WU kp L [N00, N001, N003, N004, N006] f0 f2 := wu_fm (wu_rf : WU kp L [N00, N001, N003, N004, N006] f0 f0) g4 rfl
  have hF := FM.tr hF g4 rfl
  refine q_if_eq (tgt := 30) hx hb dX11_person_7 (by decide) rfl (fun c9 => ?_) (fun c9 => ?_)
  · have q10 : (u1.toInt < (0 : Int) ∨ (19 : Int) < u1.toInt) := by omega
    clear p6
    refine lv_aload_n hx hb dX11_person_30 rfl (lv_at hl 0 rfl) ?_
    refine lv_iconst (v := (-1)) hx hb dX11_person_31 (by decide) ?_
    have hW0 := hW.2.2.2
    refine t_callV (As := [.int (-1)]) (rest := []) E hW (c_X11_refuse_x l G cI cJ cZ cD cR cT kp L f2 hW.2.2.2 _ h0 (-1) rh0 (by decide)) rh0 (by decide) rfl wk_X11_refuse tw_603 rfl ⟨Nat.le_of_ble_eq_true rfl, Nat.le_of_ble_eq_true rfl⟩ ⟨rfl, rfl⟩ hl.1 rfl (Nat.le_of_ble_eq_true rfl) dX11_person_32 ⟨Nat.le_of_ble_eq_true rfl, Nat.le_of_ble_eq_true rfl⟩ (fun v11 f12 H locs q13 hW => ?_)
    obtain ⟨⟨x15, rfl, p16⟩, g14⟩ := q13
    have p16 : x15.toInt = (-1 : Int) := p16
    have m18 : P8 f12 N00 = P8 f0 N00 := (p8_fm hW0 rN00 g14 rfl).trans m8
    have z17 : WU kp L [N00, N001, N003, N004, N006] f0 f12 := wu_fm z7 g14 rfl
    have hF := FM.tr hF g14 rfl
    exact e_I E hW rfl ⟨⟨_, rfl, (by rw [mN0, mN00]; have e : (P8 f0 N00).1 = vc.toInt := congrArg Int32.toInt mvc; first | exact sPerson_1 (by omega) (by omega) m18 | exact sPerson_2 e (by omega) (by omega) (by omega) m18 | exact sPerson_3 e (by omega) (by omega) (by omega) m18)⟩, hF, (by rw [mN0, mN00, mN001, mN003, mN004, mN006]; exact z17)⟩ dX11_person_35
  · have q19 : (0 : Int) ≤ u1.toInt ∧ u1.toInt ≤ (19 : Int) := by omega
    clear p6
    refine lv_iload_n hx hb dX11_person_10 rfl (lv_at hl 2 rfl) ?_
    refine lv_iconst (v := 0) hx hb dX11_person_11 (by decide) ?_
    refine lv_ldc (v := 1000000) hx hb hown (hts _ tw_602) dX11_person_12 ?_
    have hW0 := hW.2.2.2
    refine t_callS (As := [.int u2, .int 0, .int 1000000]) (rest := []) E hW (c_X11_within l G cI cJ cZ cD cR cT kp L f2 hW.2.2.2 _ u2 0 1000000 (by decide)) wk_X11_within tw_599 rfl ⟨Nat.le_of_ble_eq_true rfl, Nat.le_of_ble_eq_true rfl⟩ ⟨rfl, rfl⟩ hl.1 rfl (Nat.le_of_ble_eq_true rfl) dX11_person_14 ⟨Nat.le_of_ble_eq_true rfl, Nat.le_of_ble_eq_true rfl⟩ (fun v20 f21 H locs q22 hW => ?_)
    obtain ⟨⟨x24, rfl, p25⟩, g23⟩ := q22
    have p25 : (x24.toInt = 1 ∧ (0 : Int) ≤ u2.toInt ∧ u2.toInt ≤ (1000000 : Int)) ∨ (x24.toInt = 0 ∧ (u2.toInt < (0 : Int) ∨ (1000000 : Int) < u2.toInt)) := p25
    have m27 : P8 f21 N00 = P8 f0 N00 := (p8_fm hW0 rN00 g23 rfl).trans m8
    have z26 : WU kp L [N00, N001, N003, N004, N006] f0 f21 := wu_fm z7 g23 rfl
    have hF := FM.tr hF g23 rfl
    refine q_if_eq (tgt := 30) hx hb dX11_person_17 (by decide) rfl (fun c28 => ?_) (fun c28 => ?_)
    · have q29 : (u2.toInt < (0 : Int) ∨ (1000000 : Int) < u2.toInt) := by omega
      clear p25
      refine lv_aload_n hx hb dX11_person_30 rfl (lv_at hl 0 rfl) ?_
      refine lv_iconst (v := (-1)) hx hb dX11_person_31 (by decide) ?_
      have hW0 := hW.2.2.2
      refine t_callV (As := [.int (-1)]) (rest := []) E hW (c_X11_refuse_x l G cI cJ cZ cD cR cT kp L f21 hW.2.2.2 _ h0 (-1) rh0 (by decide)) rh0 (by decide) rfl wk_X11_refuse tw_603 rfl ⟨Nat.le_of_ble_eq_true rfl, Nat.le_of_ble_eq_true rfl⟩ ⟨rfl, rfl⟩ hl.1 rfl (Nat.le_of_ble_eq_true rfl) dX11_person_32 ⟨Nat.le_of_ble_eq_true rfl, Nat.le_of_ble_eq_true rfl⟩ (fun v30 f31 H locs q32 hW => ?_)
      obtain ⟨⟨x34, rfl, p35⟩, g33⟩ := q32
      have p35 : x34.toInt = (-1 : Int) := p35
      have m37 : P8 f31 N00 = P8 f0 N00 := (p8_fm hW0 rN00 g33 rfl).trans m27
      have z36 : WU kp L [N00, N001, N003, N004, N006] f0 f31 := wu_fm z26 g33 rfl
      have hF := FM.tr hF g33 rfl
      exact e_I E hW rfl ⟨⟨_, rfl, (by rw [mN0, mN00]; have e : (P8 f0 N00).1 = vc.toInt := congrArg Int32.toInt mvc; first | exact sPerson_1 (by omega) (by omega) m37 | exact sPerson_2 e (by omega) (by omega) (by omega) m37 | exact sPerson_3 e (by omega) (by omega) (by omega) m37)⟩, hF, (by rw [mN0, mN00, mN001, mN003, mN004, mN006]; exact z36)⟩ dX11_person_35
    · have q38 : (0 : Int) ≤ u2.toInt ∧ u2.toInt ≤ (1000000 : Int) := by omega
      clear p25
      refine lv_iload_n hx hb dX11_person_20 rfl (lv_at hl 3 rfl) ?_
      refine lv_iconst (v := 0) hx hb dX11_person_21 (by decide) ?_
      refine lv_bipush (v := 100) hx hb dX11_person_22 (by decide) ?_
      have hW0 := hW.2.2.2
      refine t_callS (As := [.int u3, .int 0, .int 100]) (rest := []) E hW (c_X11_within l G cI cJ cZ cD cR cT kp L f21 hW.2.2.2 _ u3 0 100 (by decide)) wk_X11_within tw_599 rfl ⟨Nat.le_of_ble_eq_true rfl, Nat.le_of_ble_eq_true rfl⟩ ⟨rfl, rfl⟩ hl.1 rfl (Nat.le_of_ble_eq_true rfl) dX11_person_24 ⟨Nat.le_of_ble_eq_true rfl, Nat.le_of_ble_eq_true rfl⟩ (fun v39 f40 H locs q41 hW => ?_)
      obtain ⟨⟨x43, rfl, p44⟩, g42⟩ := q41
      have p44 : (x43.toInt = 1 ∧ (0 : Int) ≤ u3.toInt ∧ u3.toInt ≤ (100 : Int)) ∨ (x43.toInt = 0 ∧ (u3.toInt < (0 : Int) ∨ (100 : Int) < u3.toInt)) := p44
      have m46 : P8 f40 N00 = P8 f0 N00 := (p8_fm hW0 rN00 g42 rfl).trans m27
      have z45 : WU kp L [N00, N001, N003, N004, N006] f0 f40 := wu_fm z26 g42 rfl
      have hF := FM.tr hF g42 rfl
      refine q_if_ne (tgt := 36) hx hb dX11_person_27 (by decide) rfl (fun c47 => ?_) (fun c47 => ?_)
      · have q48 : (0 : Int) ≤ u3.toInt ∧ u3.toInt ≤ (100 : Int) := by omega
        clear p44
        refine lv_aload_n hx hb dX11_person_36 rfl (lv_at hl 0 rfl) ?_
        refine fg_RX11_12 E hW rh0 dX11_person_37 (fun a49 m50 r51 => ?_)
        obtain rfl : N0 = a49 := (((fm_R g42 rh0 rfl).trans ((fm_R g23 rh0 rfl).trans ((fm_R g4 rh0 rfl).trans mN0)))).symm.trans m50
        refine fg_RX11_63 E hW rN0 dX11_person_40 (fun a52 m53 r54 => ?_)
        obtain rfl : N00 = a52 := (((fm_R g42 rN0 rfl).trans ((fm_R g23 rN0 rfl).trans ((fm_R g4 rN0 rfl).trans mN00)))).symm.trans m53
        refine fg_RX11_67 E hW rN00 dX11_person_43 (fun y55 m56 b57 => ?_)
        obtain rfl : vc = y55 := (((fm_I g42 rN00 rfl).trans ((fm_I g23 rN00 rfl).trans ((fm_I g4 rN00 rfl).trans mvc)))).symm.trans m56
        refine lv_bipush (v := 40) hx hb dX11_person_46 (by decide) ?_
        refine q_icmp_lt (Y := 40) (tgt := 58) hx hb dX11_person_48 (by decide) rfl rfl (fun c58 => ?_) (fun c58 => ?_)
        · refine lv_aload_n hx hb dX11_person_58 rfl (lv_at hl 0 rfl) ?_
          refine lv_aload_n hx hb dX11_person_59 rfl (lv_at hl 0 rfl) ?_
          refine fg_RX11_12 E hW rh0 dX11_person_60 (fun a59 m60 r61 => ?_)
          obtain rfl : N0 = a59 := (m50).symm.trans m60
          refine fg_RX11_63 E hW rN0 dX11_person_63 (fun a62 m63 r64 => ?_)
          obtain rfl : N00 = a62 := (m53).symm.trans m63
          refine lv_iload_n hx hb dX11_person_66 rfl (lv_at hl 1 rfl) ?_
          refine lv_iload_n hx hb dX11_person_67 rfl (lv_at hl 2 rfl) ?_
          refine lv_iload_n hx hb dX11_person_68 rfl (lv_at hl 3 rfl) ?_
          have hW0 := hW.2.2.2
          refine t_callV (As := [.int u1, .int u2, .int u3]) (rest := [.ref h0]) E hW (c_X4_add_u l G cI cJ cZ cD cR cT kp L f40 hW.2.2.2 _ N00 u1 u2 u3 rN00 (by omega) (by omega) (by omega)) rN00 (by decide) rfl wk_X4_add tw_607 rfl ⟨Nat.le_of_ble_eq_true rfl, Nat.le_of_ble_eq_true rfl⟩ ⟨rfl, rfl⟩ hl.1 rfl (Nat.le_of_ble_eq_true rfl) dX11_person_69 ⟨Nat.le_of_ble_eq_true rfl, Nat.le_of_ble_eq_true rfl⟩ (fun v65 f66 H locs q67 hW => ?_)
          obtain ⟨⟨x72, rfl, p73⟩, g68, h69, h70, h71⟩ := q67
          rw [m56] at p73
          have hF := FM.tr hF g68 rfl
          have z75 : WU kp L [N00, N001, N003, N004, N006] f0 f66 := wu_call z45 h71 (by rw [((fm_R g42 rN00 rfl).trans ((fm_R g23 rN00 rfl).trans ((fm_R g4 rN00 rfl).trans mN001))), ((fm_R g42 rN00 rfl).trans ((fm_R g23 rN00 rfl).trans ((fm_R g4 rN00 rfl).trans mN003))), ((fm_R g42 rN00 rfl).trans ((fm_R g23 rN00 rfl).trans ((fm_R g4 rN00 rfl).trans mN004))), ((fm_R g42 rN00 rfl).trans ((fm_R g23 rN00 rfl).trans ((fm_R g4 rN00 rfl).trans mN006)))]; intro q h; simp only [List.mem_cons, List.not_mem_nil, or_false] at h ⊢; omega)
          obtain ⟨y76, m77⟩ : ∃ x : Int32, oI (f66 N00) 0 = x := ⟨_, rfl⟩
          rw [m77, m56] at h69
          have z78 : P8 f66 N00 = addP (P8 f0 N00) u1.toInt u3.toInt := (h70 (by rw [m56]; omega)).trans (by rw [m46])
          have hW0 := hW.2.2.2
          refine t_callV (As := [.int x72]) (rest := []) E hW (c_X11_accept_x l G cI cJ cZ cD cR cT kp L f66 hW.2.2.2 _ h0 x72 rh0) rh0 (by decide) rfl wk_X11_accept tw_611 rfl ⟨Nat.le_of_ble_eq_true rfl, Nat.le_of_ble_eq_true rfl⟩ ⟨rfl, rfl⟩ hl.1 rfl (Nat.le_of_ble_eq_true rfl) dX11_person_72 ⟨Nat.le_of_ble_eq_true rfl, Nat.le_of_ble_eq_true rfl⟩ (fun v79 f80 H locs q81 hW => ?_)
          obtain ⟨⟨x83, rfl, p84⟩, g82⟩ := q81
          have m86 : P8 f80 N00 = addP (P8 f0 N00) u1.toInt u3.toInt := (p8_fm hW0 rN00 g82 rfl).trans z78
          have z85 : WU kp L [N00, N001, N003, N004, N006] f0 f80 := wu_fm z75 g82 rfl
          have hF := FM.tr hF g82 rfl
          exact e_I E hW rfl ⟨⟨_, rfl, (by rw [mN0, mN00]; have e : (P8 f0 N00).1 = vc.toInt := congrArg Int32.toInt mvc; first | exact sPerson_1 (by omega) (by omega) m86 | exact sPerson_2 e (by omega) (by omega) (by omega) m86 | exact sPerson_3 e (by omega) (by omega) (by omega) m86)⟩, hF, (by rw [mN0, mN00, mN001, mN003, mN004, mN006]; exact z85)⟩ dX11_person_75
        · refine lv_aload_n hx hb dX11_person_51 rfl (lv_at hl 0 rfl) ?_
          refine lv_bipush (v := (-5)) hx hb dX11_person_52 (by decide) ?_
          have hW0 := hW.2.2.2
          refine t_callV (As := [.int (-5)]) (rest := []) E hW (c_X11_refuse_x l G cI cJ cZ cD cR cT kp L f40 hW.2.2.2 _ h0 (-5) rh0 (by decide)) rh0 (by decide) rfl wk_X11_refuse tw_603 rfl ⟨Nat.le_of_ble_eq_true rfl, Nat.le_of_ble_eq_true rfl⟩ ⟨rfl, rfl⟩ hl.1 rfl (Nat.le_of_ble_eq_true rfl) dX11_person_54 ⟨Nat.le_of_ble_eq_true rfl, Nat.le_of_ble_eq_true rfl⟩ (fun v87 f88 H locs q89 hW => ?_)
          obtain ⟨⟨x91, rfl, p92⟩, g90⟩ := q89
          have p92 : x91.toInt = (-5 : Int) := p92
          have m94 : P8 f88 N00 = P8 f0 N00 := (p8_fm hW0 rN00 g90 rfl).trans m46
          have z93 : WU kp L [N00, N001, N003, N004, N006] f0 f88 := wu_fm z45 g90 rfl
          have hF := FM.tr hF g90 rfl
          exact e_I E hW rfl ⟨⟨_, rfl, (by rw [mN0, mN00]; have e : (P8 f0 N00).1 = vc.toInt := congrArg Int32.toInt mvc; first | exact sPerson_1 (by omega) (by omega) m94 | exact sPerson_2 e (by omega) (by omega) (by omega) m94 | exact sPerson_3 e (by omega) (by omega) (by omega) m94)⟩, hF, (by rw [mN0, mN00, mN001, mN003, mN004, mN006]; exact z93)⟩ dX11_person_57
      · have q95 : (u3.toInt < (0 : Int) ∨ (100 : Int) < u3.toInt) := by omega
        clear p44
        refine lv_aload_n hx hb dX11_person_30 rfl (lv_at hl 0 rfl) ?_
        refine lv_iconst (v := (-1)) hx hb dX11_person_31 (by decide) ?_
        have hW0 := hW.2.2.2
        refine t_callV (As := [.int (-1)]) (rest := []) E hW (c_X11_refuse_x l G cI cJ cZ cD cR cT kp L f40 hW.2.2.2 _ h0 (-1) rh0 (by decide)) rh0 (by decide) rfl wk_X11_refuse tw_603 rfl ⟨Nat.le_of_ble_eq_true rfl, Nat.le_of_ble_eq_true rfl⟩ ⟨rfl, rfl⟩ hl.1 rfl (Nat.le_of_ble_eq_true rfl) dX11_person_32 ⟨Nat.le_of_ble_eq_true rfl, Nat.le_of_ble_eq_true rfl⟩ (fun v96 f97 H locs q98 hW => ?_)
        obtain ⟨⟨x100, rfl, p101⟩, g99⟩ := q98
        have p101 : x100.toInt = (-1 : Int) := p101
        have m103 : P8 f97 N00 = P8 f0 N00 := (p8_fm hW0 rN00 g99 rfl).trans m46
        have z102 : WU kp L [N00, N001, N003, N004, N006] f0 f97 := wu_fm z45 g99 rfl
        have hF := FM.tr hF g99 rfl
        exact e_I E hW rfl ⟨⟨_, rfl, (by rw [mN0, mN00]; have e : (P8 f0 N00).1 = vc.toInt := congrArg Int32.toInt mvc; first | exact sPerson_1 (by omega) (by omega) m103 | exact sPerson_2 e (by omega) (by omega) (by omega) m103 | exact sPerson_3 e (by omega) (by omega) (by omega) m103)⟩, hF, (by rw [mN0, mN00, mN001, mN003, mN004, mN006]; exact z102)⟩ dX11_person_35
def ms_X4_has_u : List (Nat × Nat) := []
def po_X4_has_u (kp : Nat → Nat) (L : List Nat) (f0 : Nat → va_E) (h0 : Nat) (u1 : Int32) : Option Value → (Nat → va_E) → Prop := fun v f => (∃ r : Int32, v = some (.int r) ∧ ((r.toInt = 1 ∧ 0 ≤ u1.toInt ∧ u1.toInt < (oI (f0 h0) 0).toInt) ∨ (r.toInt = 0 ∧ (u1.toInt < 0 ∨ (oI (f0 h0) 0).toInt ≤ u1.toInt)))) ∧ FM kp L ms_X4_has_u f0 f
set_option maxHeartbeats 4000000 in
set_option maxRecDepth 100000 in
theorem c_X4_has_u (l : Launch) (G : va_G) (cI cJ cZ cD cR cT : ClassId) (kp : Nat → Nat) (L : List Nat) (f0 : Nat → va_E) (hTH : TH cI cJ cZ cD cR cT kp L f0) (sz : Nat) (h0 : Nat) (u1 : Int32) (rh0 : RK kp L h0 4) : Met l yX4_has (Cond.code yX4_has cX4_has 2 (some .boolean) :: wTab) ({ frames := 1, cells := 0, slots := 0, locals := 40 }) (va_Pc [.ref h0, .int u1] (PreW G (tys6 cI cJ cZ cD cR cT) (va_pl L f0) sz)) (QT (po_X4_has_u kp L f0 h0 u1) G cI cJ cZ cD cR cT (va_A (va_pl L f0) sz) kp L) 0 0 (va_A (va_pl L f0) sz) := by
  refine metT (by decide) (Nat.le_of_ble_eq_true rfl) hTH ?_
  intro p e s m below meth c A ls E hW hl
  obtain ⟨hx, hb, -, hml, hown, hts, -, -, -⟩ := id E
  have hF : FM kp L ms_X4_has_u f0 f0 := FM.rf
  have hl : lv_has ls 2 [(0, .ref h0), (1, .int u1)] := hl
  obtain ⟨vc, mvc⟩ : ∃ x : Int32, oI (f0 h0) 0 = x := ⟨_, rfl⟩
  have bvc : (0 : Int) ≤ vc.toInt ∧ vc.toInt ≤ 40 := by rw [← mvc]; exact th_iv hW rh0 (by decide) (by decide) rfl
  refine lv_iload_n hx hb dX4_has_0 rfl (lv_at hl 1 rfl) ?_
  refine q_if_lt (tgt := 16) hx hb dX4_has_1 (by decide) rfl (fun c1 => ?_) (fun c1 => ?_)
  · refine lv_iconst (v := 0) hx hb dX4_has_16 (by decide) ?_
    exact e_Z E hW rfl (by decide) ⟨⟨_, rfl, (by rw [mvc]; have hk : (0 : Int32).toInt = 0 := rfl; omega)⟩, hF⟩ dX4_has_17
  · refine lv_iload_n hx hb dX4_has_4 rfl (lv_at hl 1 rfl) ?_
    refine lv_aload_n hx hb dX4_has_5 rfl (lv_at hl 0 rfl) ?_
    refine fg_RX4_39 E hW rh0 dX4_has_6 (fun y2 m3 b4 => ?_)
    obtain rfl : vc = y2 := (mvc).symm.trans m3
    refine q_icmp_ge (tgt := 16) hx hb dX4_has_9 (by decide) rfl rfl (fun c5 => ?_) (fun c5 => ?_)
    · refine lv_iconst (v := 0) hx hb dX4_has_16 (by decide) ?_
      exact e_Z E hW rfl (by decide) ⟨⟨_, rfl, (by rw [mvc]; have hk : (0 : Int32).toInt = 0 := rfl; omega)⟩, hF⟩ dX4_has_17
    · refine lv_iconst (v := 1) hx hb dX4_has_12 (by decide) ?_
      refine lv_goto (tgt := 17) hx hb dX4_has_13 (by decide) ?_
      exact e_Z E hW rfl (by decide) ⟨⟨_, rfl, (by rw [mvc]; have hk : (1 : Int32).toInt = 1 := rfl; omega)⟩, hF⟩ dX4_has_17
def ms_X11_heed_u : List (Nat × Nat) := [(11, 15), (344, 0)]
def po_X11_heed_u (kp : Nat → Nat) (L : List Nat) (f0 : Nat → va_E) (h0 : Nat) (u1 : Int32) (u2 : Int32) : Option Value → (Nat → va_E) → Prop := fun v f => (∃ r : Int32, v = some (.int r) ∧ ((r.toInt, P8 f (oR (f0 (oR (f0 h0) 0)) 0)) = sHeed (P8 f0 (oR (f0 (oR (f0 h0) 0)) 0)) u1.toInt u2.toInt)) ∧ FM kp L ms_X11_heed_u f0 f ∧ (WU kp L [(oR (f0 (oR (f0 h0) 0)) 0), (oR (f0 (oR (f0 (oR (f0 h0) 0)) 0)) 1), (oR (f0 (oR (f0 (oR (f0 h0) 0)) 0)) 3), (oR (f0 (oR (f0 (oR (f0 h0) 0)) 0)) 4), (oR (f0 (oR (f0 (oR (f0 h0) 0)) 0)) 6)] f0 f)
set_option maxHeartbeats 4000000 in
set_option maxRecDepth 100000 in
theorem c_X11_heed_u (l : Launch) (G : va_G) (cI cJ cZ cD cR cT : ClassId) (kp : Nat → Nat) (L : List Nat) (f0 : Nat → va_E) (hTH : TH cI cJ cZ cD cR cT kp L f0) (sz : Nat) (h0 : Nat) (u1 : Int32) (u2 : Int32) (rh0 : RK kp L h0 11) : Met l yX11_heed (Cond.code yX11_heed cX11_heed 4 (some .int) :: wTab) ({ frames := 2, cells := 0, slots := 0, locals := 61 }) (va_Pc [.ref h0, .int u1, .int u2] (PreW G (tys6 cI cJ cZ cD cR cT) (va_pl L f0) sz)) (QT (po_X11_heed_u kp L f0 h0 u1 u2) G cI cJ cZ cD cR cT (va_A (va_pl L f0) sz) kp L) 0 0 (va_A (va_pl L f0) sz) := by
  refine metT (by decide) (Nat.le_of_ble_eq_true rfl) hTH ?_
  intro p e s m below meth c A ls E hW hl
  obtain ⟨hx, hb, -, hml, hown, hts, -, -, -⟩ := id E
  have hF : FM kp L ms_X11_heed_u f0 f0 := FM.rf
  have hl : lv_has ls 4 [(0, .ref h0), (1, .int u1), (2, .int u2)] := hl
  obtain ⟨N0, mN0⟩ : ∃ x : Nat, oR (f0 h0) 0 = x := ⟨_, rfl⟩
  have rN0 : RK kp L N0 0 := by rw [← mN0]; exact th_ref hTH rh0 (by decide) (by decide) rfl
  obtain ⟨N00, mN00⟩ : ∃ x : Nat, oR (f0 N0) 0 = x := ⟨_, rfl⟩
  have rN00 : RK kp L N00 4 := by rw [← mN00]; exact th_ref hTH rN0 (by decide) (by decide) rfl
  obtain ⟨N001, mN001⟩ : ∃ x : Nat, oR (f0 N00) 1 = x := ⟨_, rfl⟩
  have rN001 : RK kp L N001 341 := by rw [← mN001]; exact th_ref hTH rN00 (by decide) (by decide) rfl
  obtain ⟨N003, mN003⟩ : ∃ x : Nat, oR (f0 N00) 3 = x := ⟨_, rfl⟩
  have rN003 : RK kp L N003 343 := by rw [← mN003]; exact th_ref hTH rN00 (by decide) (by decide) rfl
  obtain ⟨N004, mN004⟩ : ∃ x : Nat, oR (f0 N00) 4 = x := ⟨_, rfl⟩
  have rN004 : RK kp L N004 344 := by rw [← mN004]; exact th_ref hTH rN00 (by decide) (by decide) rfl
  obtain ⟨N006, mN006⟩ : ∃ x : Nat, oR (f0 N00) 6 = x := ⟨_, rfl⟩
  have rN006 : RK kp L N006 346 := by rw [← mN006]; exact th_ref hTH rN00 (by decide) (by decide) rfl
  obtain ⟨vc, mvc⟩ : ∃ x : Int32, oI (f0 N00) 0 = x := ⟨_, rfl⟩
  have bvc : (0 : Int) ≤ vc.toInt ∧ vc.toInt ≤ 40 := by rw [← mvc]; exact th_iv hW rN00 (by decide) (by decide) rfl
  refine lv_aload_n hx hb dX11_heed_0 rfl (lv_at hl 0 rfl) ?_
  refine fg_RX11_12 E hW rh0 dX11_heed_1 (fun a1 m2 r3 => ?_)
  obtain rfl : N0 = a1 := (mN0).symm.trans m2
  refine fg_RX11_63 E hW rN0 dX11_heed_4 (fun a4 m5 r6 => ?_)
  obtain rfl : N00 = a4 := (mN00).symm.trans m5
  refine lv_astore_n (lv' := [(3, .ref N00), (0, .ref h0), (1, .int u1), (2, .int u2)]) hx hb dX11_heed_7 rfl hl (by decide) rfl (fun ls hl => ?_)
  refine lv_aload_n hx hb dX11_heed_8 rfl (lv_at hl 0 rfl) ?_
  refine lv_iload_n hx hb dX11_heed_9 rfl (lv_at hl 2 rfl) ?_
  have hW0 := hW.2.2.2
  refine t_callV (As := [.int u1]) (rest := []) E hW (c_X4_has_u l G cI cJ cZ cD cR cT kp L f0 hW.2.2.2 _ N00 u1 rN00) rN00 (by decide) rfl wk_X4_has tw_619 rfl ⟨Nat.le_of_ble_eq_true rfl, Nat.le_of_ble_eq_true rfl⟩ ⟨rfl, rfl⟩ hl.1 rfl (Nat.le_of_ble_eq_true rfl) dX11_heed_10 ⟨Nat.le_of_ble_eq_true rfl, Nat.le_of_ble_eq_true rfl⟩ (fun v7 f8 H locs q9 hW => ?_)
  obtain ⟨⟨x11, rfl, p12⟩, g10⟩ := q9
  rw [mvc] at p12
  have m14 : P8 f8 N00 = P8 f0 N00 := (p8_fm hW0 rN00 g10 rfl).trans (rfl : P8 f0 N00 = P8 f0 N00)
  have z13 : WU kp L [N00, N001, N003, N004, N006] f0 f8 := wu_fm (wu_rf : WU kp L [N00, N001, N003, N004, N006] f0 f0) g10 rfl
  have hF := FM.tr hF g10 rfl
  refine q_if_eq (tgt := 29) hx hb dX11_heed_13 (by decide) rfl (fun c15 => ?_) (fun c15 => ?_)
  · refine lv_aload_n hx hb dX11_heed_29 rfl (lv_at hl 1 rfl) ?_
    refine lv_bipush (v := (-2)) hx hb dX11_heed_30 (by decide) ?_
    have hW0 := hW.2.2.2
    refine t_callV (As := [.int (-2)]) (rest := []) E hW (c_X11_refuse_x l G cI cJ cZ cD cR cT kp L f8 hW.2.2.2 _ h0 (-2) rh0 (by decide)) rh0 (by decide) rfl wk_X11_refuse tw_603 rfl ⟨Nat.le_of_ble_eq_true rfl, Nat.le_of_ble_eq_true rfl⟩ ⟨rfl, rfl⟩ hl.1 rfl (Nat.le_of_ble_eq_true rfl) dX11_heed_32 ⟨Nat.le_of_ble_eq_true rfl, Nat.le_of_ble_eq_true rfl⟩ (fun v16 f17 H locs q18 hW => ?_)
    obtain ⟨⟨x20, rfl, p21⟩, g19⟩ := q18
    have p21 : x20.toInt = (-2 : Int) := p21
    have m23 : P8 f17 N00 = P8 f0 N00 := (p8_fm hW0 rN00 g19 rfl).trans m14
    have z22 : WU kp L [N00, N001, N003, N004, N006] f0 f17 := wu_fm z13 g19 rfl
    have hF := FM.tr hF g19 rfl
    exact e_I E hW rfl ⟨⟨_, rfl, (by rw [mN0, mN00]; have e : (P8 f0 N00).1 = vc.toInt := congrArg Int32.toInt mvc; first | exact sHeed_1 e (by omega) (by omega) m23 | exact sHeed_2 e (by omega) (by omega) (by omega) m23 | exact sHeed_3 e (by omega) (by omega) (by omega) m23)⟩, hF, (by rw [mN0, mN00, mN001, mN003, mN004, mN006]; exact z22)⟩ dX11_heed_35
  · have q24 : 0 ≤ u1.toInt ∧ u1.toInt ≤ 39 := by omega
    refine lv_iload_n hx hb dX11_heed_16 rfl (lv_at hl 3 rfl) ?_
    refine lv_iconst (v := (-1)) hx hb dX11_heed_17 (by decide) ?_
    refine q_icmp_eq (Y := -1) (tgt := 36) hx hb dX11_heed_18 (by decide) rfl rfl (fun c25 => ?_) (fun c25 => ?_)
    · refine lv_iload_n hx hb dX11_heed_36 rfl (lv_at hl 2 rfl) ?_
      refine lv_iload_n hx hb dX11_heed_37 rfl (lv_at hl 3 rfl) ?_
      refine q_icmp_ne (tgt := 48) hx hb dX11_heed_38 (by decide) rfl rfl (fun c26 => ?_) (fun c26 => ?_)
      · refine lv_aload_n hx hb dX11_heed_48 rfl (lv_at hl 0 rfl) ?_
        refine fg_RX11_84 E hW rN00 dX11_heed_49 (fun a27 m28 r29 => ?_)
        obtain rfl : N004 = a27 := (((fm_R g10 rN00 rfl).trans mN004)).symm.trans m28
        refine lv_iload_n hx hb dX11_heed_52 rfl (lv_at hl 2 rfl) ?_
        refine lv_iload_n hx hb dX11_heed_53 rfl (lv_at hl 3 rfl) ?_
        have hW0 := hW.2.2.2
        refine gs_344 E hW rN004 ⟨by omega, by omega⟩ (by omega) dX11_heed_54 (fun f30 H locs e31 n32 g33 hW => ?_)
        have z34 : WU kp L [N00, N001, N003, N004, N006] f0 f30 := wu_put z13 n32 (by simp)
        have hF := FM.tr hF g33 rfl
        refine lv_aload_n hx hb dX11_heed_55 rfl (lv_at hl 1 rfl) ?_
        refine lv_iconst (v := 0) hx hb dX11_heed_56 (by decide) ?_
        have hW0 := hW.2.2.2
        refine t_callV (As := [.int 0]) (rest := []) E hW (c_X11_accept_x l G cI cJ cZ cD cR cT kp L f30 hW.2.2.2 _ h0 0 rh0) rh0 (by decide) rfl wk_X11_accept tw_611 rfl ⟨Nat.le_of_ble_eq_true rfl, Nat.le_of_ble_eq_true rfl⟩ ⟨rfl, rfl⟩ hl.1 rfl (Nat.le_of_ble_eq_true rfl) dX11_heed_57 ⟨Nat.le_of_ble_eq_true rfl, Nat.le_of_ble_eq_true rfl⟩ (fun v35 f36 H locs q37 hW => ?_)
        obtain ⟨⟨x39, rfl, p40⟩, g38⟩ := q37
        have p40 : x39.toInt = (0 : Int) := p40
        have m41 : aI (f36 N001) = aI (f0 N001) := ((congrArg aI (fm_A g38 rN001 (by decide) rfl)).trans ((congrArg aI (fm_A g33 rN001 (by decide) rfl)).trans ((congrArg aI (fm_A g10 rN001 (by decide) rfl)).trans (rfl : aI (f0 N001) = aI (f0 N001)))))
        have m42 : aI (f36 N003) = aI (f0 N003) := ((congrArg aI (fm_A g38 rN003 (by decide) rfl)).trans ((congrArg aI (fm_A g33 rN003 (by decide) rfl)).trans ((congrArg aI (fm_A g10 rN003 (by decide) rfl)).trans (rfl : aI (f0 N003) = aI (f0 N003)))))
        have m43 : aI (f36 N006) = aI (f0 N006) := ((congrArg aI (fm_A g38 rN006 (by decide) rfl)).trans ((congrArg aI (fm_A g33 rN006 (by decide) rfl)).trans ((congrArg aI (fm_A g10 rN006 (by decide) rfl)).trans (rfl : aI (f0 N006) = aI (f0 N006)))))
        have m44 : aI (f36 N004) = upd (aI (f0 N004)) (u1 : Int32).toNatClampNeg u2 := ((congrArg aI (fm_A g38 rN004 (by decide) rfl)).trans (e31.trans (congrArg (fun z => upd z (u1 : Int32).toNatClampNeg u2) ((congrArg aI (fm_A g10 rN004 (by decide) rfl)).trans (rfl : aI (f0 N004) = aI (f0 N004))))))
        have z45 : WU kp L [N00, N001, N003, N004, N006] f0 f36 := wu_fm z34 g38 rfl
        have hF := FM.tr hF g38 rfl
        exact e_I E hW rfl ⟨⟨_, rfl, (by rw [mN0, mN00]; have e : (P8 f0 N00).1 = vc.toInt := congrArg Int32.toInt mvc; first | exact sHeed_1 e (by omega) (by omega) (p8_heed mN001 mN003 mN004 mN006 ((fm_R g38 rN00 rfl).trans ((fm_R g33 rN00 rfl).trans ((fm_R g10 rN00 rfl).trans mN001))) ((fm_R g38 rN00 rfl).trans ((fm_R g33 rN00 rfl).trans ((fm_R g10 rN00 rfl).trans mN003))) ((fm_R g38 rN00 rfl).trans ((fm_R g33 rN00 rfl).trans m28)) ((fm_R g38 rN00 rfl).trans ((fm_R g33 rN00 rfl).trans ((fm_R g10 rN00 rfl).trans mN006))) (by omega) mvc ((fm_I g38 rN00 rfl).trans ((fm_I g33 rN00 rfl).trans ((fm_I g10 rN00 rfl).trans mvc))) m41 m42 m44 m43) | exact sHeed_2 e (by omega) (by omega) (by omega) (p8_heed mN001 mN003 mN004 mN006 ((fm_R g38 rN00 rfl).trans ((fm_R g33 rN00 rfl).trans ((fm_R g10 rN00 rfl).trans mN001))) ((fm_R g38 rN00 rfl).trans ((fm_R g33 rN00 rfl).trans ((fm_R g10 rN00 rfl).trans mN003))) ((fm_R g38 rN00 rfl).trans ((fm_R g33 rN00 rfl).trans m28)) ((fm_R g38 rN00 rfl).trans ((fm_R g33 rN00 rfl).trans ((fm_R g10 rN00 rfl).trans mN006))) (by omega) mvc ((fm_I g38 rN00 rfl).trans ((fm_I g33 rN00 rfl).trans ((fm_I g10 rN00 rfl).trans mvc))) m41 m42 m44 m43) | exact sHeed_3 e (by omega) (by omega) (by omega) (p8_heed mN001 mN003 mN004 mN006 ((fm_R g38 rN00 rfl).trans ((fm_R g33 rN00 rfl).trans ((fm_R g10 rN00 rfl).trans mN001))) ((fm_R g38 rN00 rfl).trans ((fm_R g33 rN00 rfl).trans ((fm_R g10 rN00 rfl).trans mN003))) ((fm_R g38 rN00 rfl).trans ((fm_R g33 rN00 rfl).trans m28)) ((fm_R g38 rN00 rfl).trans ((fm_R g33 rN00 rfl).trans ((fm_R g10 rN00 rfl).trans mN006))) (by omega) mvc ((fm_I g38 rN00 rfl).trans ((fm_I g33 rN00 rfl).trans ((fm_I g10 rN00 rfl).trans mvc))) m41 m42 m44 m43))⟩, hF, (by rw [mN0, mN00, mN001, mN003, mN004, mN006]; exact z45)⟩ dX11_heed_60
      · exfalso; omega
    · refine lv_aload_n hx hb dX11_heed_21 rfl (lv_at hl 0 rfl) ?_
      refine lv_iload_n hx hb dX11_heed_22 rfl (lv_at hl 3 rfl) ?_
      have hW0 := hW.2.2.2
      refine t_callV (As := [.int u2]) (rest := []) E hW (c_X4_has_u l G cI cJ cZ cD cR cT kp L f8 hW.2.2.2 _ N00 u2 rN00) rN00 (by decide) rfl wk_X4_has tw_619 rfl ⟨Nat.le_of_ble_eq_true rfl, Nat.le_of_ble_eq_true rfl⟩ ⟨rfl, rfl⟩ hl.1 rfl (Nat.le_of_ble_eq_true rfl) dX11_heed_23 ⟨Nat.le_of_ble_eq_true rfl, Nat.le_of_ble_eq_true rfl⟩ (fun v46 f47 H locs q48 hW => ?_)
      obtain ⟨⟨x50, rfl, p51⟩, g49⟩ := q48
      rw [((fm_I g10 rN00 rfl).trans mvc)] at p51
      have m53 : P8 f47 N00 = P8 f0 N00 := (p8_fm hW0 rN00 g49 rfl).trans m14
      have z52 : WU kp L [N00, N001, N003, N004, N006] f0 f47 := wu_fm z13 g49 rfl
      have hF := FM.tr hF g49 rfl
      refine q_if_ne (tgt := 36) hx hb dX11_heed_26 (by decide) rfl (fun c54 => ?_) (fun c54 => ?_)
      · have q55 : 0 ≤ u2.toInt ∧ u2.toInt ≤ 39 := by omega
        refine lv_iload_n hx hb dX11_heed_36 rfl (lv_at hl 2 rfl) ?_
        refine lv_iload_n hx hb dX11_heed_37 rfl (lv_at hl 3 rfl) ?_
        refine q_icmp_ne (tgt := 48) hx hb dX11_heed_38 (by decide) rfl rfl (fun c56 => ?_) (fun c56 => ?_)
        · refine lv_aload_n hx hb dX11_heed_48 rfl (lv_at hl 0 rfl) ?_
          refine fg_RX11_84 E hW rN00 dX11_heed_49 (fun a57 m58 r59 => ?_)
          obtain rfl : N004 = a57 := (((fm_R g49 rN00 rfl).trans ((fm_R g10 rN00 rfl).trans mN004))).symm.trans m58
          refine lv_iload_n hx hb dX11_heed_52 rfl (lv_at hl 2 rfl) ?_
          refine lv_iload_n hx hb dX11_heed_53 rfl (lv_at hl 3 rfl) ?_
          have hW0 := hW.2.2.2
          refine gs_344 E hW rN004 ⟨by omega, by omega⟩ (by omega) dX11_heed_54 (fun f60 H locs e61 n62 g63 hW => ?_)
          have m64 : aI (f60 N001) = aI (f0 N001) := ((congrArg aI (fm_A g63 rN001 (by decide) rfl)).trans ((congrArg aI (fm_A g49 rN001 (by decide) rfl)).trans ((congrArg aI (fm_A g10 rN001 (by decide) rfl)).trans (rfl : aI (f0 N001) = aI (f0 N001)))))
          have m65 : aI (f60 N003) = aI (f0 N003) := ((congrArg aI (fm_A g63 rN003 (by decide) rfl)).trans ((congrArg aI (fm_A g49 rN003 (by decide) rfl)).trans ((congrArg aI (fm_A g10 rN003 (by decide) rfl)).trans (rfl : aI (f0 N003) = aI (f0 N003)))))
          have m66 : aI (f60 N006) = aI (f0 N006) := ((congrArg aI (fm_A g63 rN006 (by decide) rfl)).trans ((congrArg aI (fm_A g49 rN006 (by decide) rfl)).trans ((congrArg aI (fm_A g10 rN006 (by decide) rfl)).trans (rfl : aI (f0 N006) = aI (f0 N006)))))
          have z67 : WU kp L [N00, N001, N003, N004, N006] f0 f60 := wu_put z52 n62 (by simp)
          have hF := FM.tr hF g63 rfl
          refine lv_aload_n hx hb dX11_heed_55 rfl (lv_at hl 1 rfl) ?_
          refine lv_iconst (v := 0) hx hb dX11_heed_56 (by decide) ?_
          have hW0 := hW.2.2.2
          refine t_callV (As := [.int 0]) (rest := []) E hW (c_X11_accept_x l G cI cJ cZ cD cR cT kp L f60 hW.2.2.2 _ h0 0 rh0) rh0 (by decide) rfl wk_X11_accept tw_611 rfl ⟨Nat.le_of_ble_eq_true rfl, Nat.le_of_ble_eq_true rfl⟩ ⟨rfl, rfl⟩ hl.1 rfl (Nat.le_of_ble_eq_true rfl) dX11_heed_57 ⟨Nat.le_of_ble_eq_true rfl, Nat.le_of_ble_eq_true rfl⟩ (fun v68 f69 H locs q70 hW => ?_)
          obtain ⟨⟨x72, rfl, p73⟩, g71⟩ := q70
          have p73 : x72.toInt = (0 : Int) := p73
          have m74 : aI (f69 N004) = upd (aI (f0 N004)) (u1 : Int32).toNatClampNeg u2 := ((congrArg aI (fm_A g71 rN004 (by decide) rfl)).trans (e61.trans (congrArg (fun z => upd z (u1 : Int32).toNatClampNeg u2) ((congrArg aI (fm_A g49 rN004 (by decide) rfl)).trans ((congrArg aI (fm_A g10 rN004 (by decide) rfl)).trans (rfl : aI (f0 N004) = aI (f0 N004)))))))
          have z75 : WU kp L [N00, N001, N003, N004, N006] f0 f69 := wu_fm z67 g71 rfl
          have hF := FM.tr hF g71 rfl
          exact e_I E hW rfl ⟨⟨_, rfl, (by rw [mN0, mN00]; have e : (P8 f0 N00).1 = vc.toInt := congrArg Int32.toInt mvc; first | exact sHeed_1 e (by omega) (by omega) (p8_heed mN001 mN003 mN004 mN006 ((fm_R g71 rN00 rfl).trans ((fm_R g63 rN00 rfl).trans ((fm_R g49 rN00 rfl).trans ((fm_R g10 rN00 rfl).trans mN001)))) ((fm_R g71 rN00 rfl).trans ((fm_R g63 rN00 rfl).trans ((fm_R g49 rN00 rfl).trans ((fm_R g10 rN00 rfl).trans mN003)))) ((fm_R g71 rN00 rfl).trans ((fm_R g63 rN00 rfl).trans m58)) ((fm_R g71 rN00 rfl).trans ((fm_R g63 rN00 rfl).trans ((fm_R g49 rN00 rfl).trans ((fm_R g10 rN00 rfl).trans mN006)))) (by omega) mvc ((fm_I g71 rN00 rfl).trans ((fm_I g63 rN00 rfl).trans ((fm_I g49 rN00 rfl).trans ((fm_I g10 rN00 rfl).trans mvc)))) ((congrArg aI (fm_A g71 rN001 (by decide) rfl)).trans m64) ((congrArg aI (fm_A g71 rN003 (by decide) rfl)).trans m65) m74 ((congrArg aI (fm_A g71 rN006 (by decide) rfl)).trans m66)) | exact sHeed_2 e (by omega) (by omega) (by omega) (p8_heed mN001 mN003 mN004 mN006 ((fm_R g71 rN00 rfl).trans ((fm_R g63 rN00 rfl).trans ((fm_R g49 rN00 rfl).trans ((fm_R g10 rN00 rfl).trans mN001)))) ((fm_R g71 rN00 rfl).trans ((fm_R g63 rN00 rfl).trans ((fm_R g49 rN00 rfl).trans ((fm_R g10 rN00 rfl).trans mN003)))) ((fm_R g71 rN00 rfl).trans ((fm_R g63 rN00 rfl).trans m58)) ((fm_R g71 rN00 rfl).trans ((fm_R g63 rN00 rfl).trans ((fm_R g49 rN00 rfl).trans ((fm_R g10 rN00 rfl).trans mN006)))) (by omega) mvc ((fm_I g71 rN00 rfl).trans ((fm_I g63 rN00 rfl).trans ((fm_I g49 rN00 rfl).trans ((fm_I g10 rN00 rfl).trans mvc)))) ((congrArg aI (fm_A g71 rN001 (by decide) rfl)).trans m64) ((congrArg aI (fm_A g71 rN003 (by decide) rfl)).trans m65) m74 ((congrArg aI (fm_A g71 rN006 (by decide) rfl)).trans m66)) | exact sHeed_3 e (by omega) (by omega) (by omega) (p8_heed mN001 mN003 mN004 mN006 ((fm_R g71 rN00 rfl).trans ((fm_R g63 rN00 rfl).trans ((fm_R g49 rN00 rfl).trans ((fm_R g10 rN00 rfl).trans mN001)))) ((fm_R g71 rN00 rfl).trans ((fm_R g63 rN00 rfl).trans ((fm_R g49 rN00 rfl).trans ((fm_R g10 rN00 rfl).trans mN003)))) ((fm_R g71 rN00 rfl).trans ((fm_R g63 rN00 rfl).trans m58)) ((fm_R g71 rN00 rfl).trans ((fm_R g63 rN00 rfl).trans ((fm_R g49 rN00 rfl).trans ((fm_R g10 rN00 rfl).trans mN006)))) (by omega) mvc ((fm_I g71 rN00 rfl).trans ((fm_I g63 rN00 rfl).trans ((fm_I g49 rN00 rfl).trans ((fm_I g10 rN00 rfl).trans mvc)))) ((congrArg aI (fm_A g71 rN001 (by decide) rfl)).trans m64) ((congrArg aI (fm_A g71 rN003 (by decide) rfl)).trans m65) m74 ((congrArg aI (fm_A g71 rN006 (by decide) rfl)).trans m66)))⟩, hF, (by rw [mN0, mN00, mN001, mN003, mN004, mN006]; exact z75)⟩ dX11_heed_60
        · refine lv_aload_n hx hb dX11_heed_41 rfl (lv_at hl 1 rfl) ?_
          refine lv_bipush (v := (-3)) hx hb dX11_heed_42 (by decide) ?_
          have hW0 := hW.2.2.2
          refine t_callV (As := [.int (-3)]) (rest := []) E hW (c_X11_refuse_x l G cI cJ cZ cD cR cT kp L f47 hW.2.2.2 _ h0 (-3) rh0 (by decide)) rh0 (by decide) rfl wk_X11_refuse tw_603 rfl ⟨Nat.le_of_ble_eq_true rfl, Nat.le_of_ble_eq_true rfl⟩ ⟨rfl, rfl⟩ hl.1 rfl (Nat.le_of_ble_eq_true rfl) dX11_heed_44 ⟨Nat.le_of_ble_eq_true rfl, Nat.le_of_ble_eq_true rfl⟩ (fun v76 f77 H locs q78 hW => ?_)
          obtain ⟨⟨x80, rfl, p81⟩, g79⟩ := q78
          have p81 : x80.toInt = (-3 : Int) := p81
          have m82 : aI (f77 N001) = aI (f0 N001) := ((congrArg aI (fm_A g79 rN001 (by decide) rfl)).trans ((congrArg aI (fm_A g49 rN001 (by decide) rfl)).trans ((congrArg aI (fm_A g10 rN001 (by decide) rfl)).trans (rfl : aI (f0 N001) = aI (f0 N001)))))
          have m83 : aI (f77 N003) = aI (f0 N003) := ((congrArg aI (fm_A g79 rN003 (by decide) rfl)).trans ((congrArg aI (fm_A g49 rN003 (by decide) rfl)).trans ((congrArg aI (fm_A g10 rN003 (by decide) rfl)).trans (rfl : aI (f0 N003) = aI (f0 N003)))))
          have m84 : aI (f77 N004) = aI (f0 N004) := ((congrArg aI (fm_A g79 rN004 (by decide) rfl)).trans ((congrArg aI (fm_A g49 rN004 (by decide) rfl)).trans ((congrArg aI (fm_A g10 rN004 (by decide) rfl)).trans (rfl : aI (f0 N004) = aI (f0 N004)))))
          have m85 : aI (f77 N006) = aI (f0 N006) := ((congrArg aI (fm_A g79 rN006 (by decide) rfl)).trans ((congrArg aI (fm_A g49 rN006 (by decide) rfl)).trans ((congrArg aI (fm_A g10 rN006 (by decide) rfl)).trans (rfl : aI (f0 N006) = aI (f0 N006)))))
          have m87 : P8 f77 N00 = P8 f0 N00 := (p8_fm hW0 rN00 g79 rfl).trans m53
          have z86 : WU kp L [N00, N001, N003, N004, N006] f0 f77 := wu_fm z52 g79 rfl
          have hF := FM.tr hF g79 rfl
          exact e_I E hW rfl ⟨⟨_, rfl, (by rw [mN0, mN00]; have e : (P8 f0 N00).1 = vc.toInt := congrArg Int32.toInt mvc; first | exact sHeed_1 e (by omega) (by omega) m87 | exact sHeed_2 e (by omega) (by omega) (by omega) m87 | exact sHeed_3 e (by omega) (by omega) (by omega) m87)⟩, hF, (by rw [mN0, mN00, mN001, mN003, mN004, mN006]; exact z86)⟩ dX11_heed_47
      · refine lv_aload_n hx hb dX11_heed_29 rfl (lv_at hl 1 rfl) ?_
        refine lv_bipush (v := (-2)) hx hb dX11_heed_30 (by decide) ?_
        have hW0 := hW.2.2.2
        refine t_callV (As := [.int (-2)]) (rest := []) E hW (c_X11_refuse_x l G cI cJ cZ cD cR cT kp L f47 hW.2.2.2 _ h0 (-2) rh0 (by decide)) rh0 (by decide) rfl wk_X11_refuse tw_603 rfl ⟨Nat.le_of_ble_eq_true rfl, Nat.le_of_ble_eq_true rfl⟩ ⟨rfl, rfl⟩ hl.1 rfl (Nat.le_of_ble_eq_true rfl) dX11_heed_32 ⟨Nat.le_of_ble_eq_true rfl, Nat.le_of_ble_eq_true rfl⟩ (fun v88 f89 H locs q90 hW => ?_)
        obtain ⟨⟨x92, rfl, p93⟩, g91⟩ := q90
        have p93 : x92.toInt = (-2 : Int) := p93
        have m94 : aI (f89 N001) = aI (f0 N001) := ((congrArg aI (fm_A g91 rN001 (by decide) rfl)).trans ((congrArg aI (fm_A g49 rN001 (by decide) rfl)).trans ((congrArg aI (fm_A g10 rN001 (by decide) rfl)).trans (rfl : aI (f0 N001) = aI (f0 N001)))))
        have m95 : aI (f89 N003) = aI (f0 N003) := ((congrArg aI (fm_A g91 rN003 (by decide) rfl)).trans ((congrArg aI (fm_A g49 rN003 (by decide) rfl)).trans ((congrArg aI (fm_A g10 rN003 (by decide) rfl)).trans (rfl : aI (f0 N003) = aI (f0 N003)))))
        have m96 : aI (f89 N004) = aI (f0 N004) := ((congrArg aI (fm_A g91 rN004 (by decide) rfl)).trans ((congrArg aI (fm_A g49 rN004 (by decide) rfl)).trans ((congrArg aI (fm_A g10 rN004 (by decide) rfl)).trans (rfl : aI (f0 N004) = aI (f0 N004)))))
        have m97 : aI (f89 N006) = aI (f0 N006) := ((congrArg aI (fm_A g91 rN006 (by decide) rfl)).trans ((congrArg aI (fm_A g49 rN006 (by decide) rfl)).trans ((congrArg aI (fm_A g10 rN006 (by decide) rfl)).trans (rfl : aI (f0 N006) = aI (f0 N006)))))
        have m99 : P8 f89 N00 = P8 f0 N00 := (p8_fm hW0 rN00 g91 rfl).trans m53
        have z98 : WU kp L [N00, N001, N003, N004, N006] f0 f89 := wu_fm z52 g91 rfl
        have hF := FM.tr hF g91 rfl
        exact e_I E hW rfl ⟨⟨_, rfl, (by rw [mN0, mN00]; have e : (P8 f0 N00).1 = vc.toInt := congrArg Int32.toInt mvc; first | exact sHeed_1 e (by omega) (by omega) m99 | exact sHeed_2 e (by omega) (by omega) (by omega) m99 | exact sHeed_3 e (by omega) (by omega) (by omega) m99)⟩, hF, (by rw [mN0, mN00, mN001, mN003, mN004, mN006]; exact z98)⟩ dX11_heed_35
def ms_X11_goes_u : List (Nat × Nat) := [(11, 15), (346, 0)]
def po_X11_goes_u (kp : Nat → Nat) (L : List Nat) (f0 : Nat → va_E) (h0 : Nat) (u1 : Int32) (u2 : Int32) : Option Value → (Nat → va_E) → Prop := fun v f => (∃ r : Int32, v = some (.int r) ∧ ((r.toInt, P8 f (oR (f0 (oR (f0 h0) 0)) 0)) = sGoes (P8 f0 (oR (f0 (oR (f0 h0) 0)) 0)) u1.toInt u2.toInt)) ∧ FM kp L ms_X11_goes_u f0 f ∧ (WU kp L [(oR (f0 (oR (f0 h0) 0)) 0), (oR (f0 (oR (f0 (oR (f0 h0) 0)) 0)) 1), (oR (f0 (oR (f0 (oR (f0 h0) 0)) 0)) 3), (oR (f0 (oR (f0 (oR (f0 h0) 0)) 0)) 4), (oR (f0 (oR (f0 (oR (f0 h0) 0)) 0)) 6)] f0 f)
set_option maxHeartbeats 4000000 in
set_option maxRecDepth 100000 in
theorem c_X11_goes_u (l : Launch) (G : va_G) (cI cJ cZ cD cR cT : ClassId) (kp : Nat → Nat) (L : List Nat) (f0 : Nat → va_E) (hTH : TH cI cJ cZ cD cR cT kp L f0) (sz : Nat) (h0 : Nat) (u1 : Int32) (u2 : Int32) (rh0 : RK kp L h0 11) : Met l yX11_goes (Cond.code yX11_goes cX11_goes 4 (some .int) :: wTab) ({ frames := 2, cells := 0, slots := 0, locals := 62 }) (va_Pc [.ref h0, .int u1, .int u2] (PreW G (tys6 cI cJ cZ cD cR cT) (va_pl L f0) sz)) (QT (po_X11_goes_u kp L f0 h0 u1 u2) G cI cJ cZ cD cR cT (va_A (va_pl L f0) sz) kp L) 0 0 (va_A (va_pl L f0) sz) := by
  refine metT (by decide) (Nat.le_of_ble_eq_true rfl) hTH ?_
  intro p e s m below meth c A ls E hW hl
  obtain ⟨hx, hb, -, hml, hown, hts, -, -, -⟩ := id E
  have hF : FM kp L ms_X11_goes_u f0 f0 := FM.rf
  have hl : lv_has ls 4 [(0, .ref h0), (1, .int u1), (2, .int u2)] := hl
  obtain ⟨N0, mN0⟩ : ∃ x : Nat, oR (f0 h0) 0 = x := ⟨_, rfl⟩
  have rN0 : RK kp L N0 0 := by rw [← mN0]; exact th_ref hTH rh0 (by decide) (by decide) rfl
  obtain ⟨N00, mN00⟩ : ∃ x : Nat, oR (f0 N0) 0 = x := ⟨_, rfl⟩
  have rN00 : RK kp L N00 4 := by rw [← mN00]; exact th_ref hTH rN0 (by decide) (by decide) rfl
  obtain ⟨N001, mN001⟩ : ∃ x : Nat, oR (f0 N00) 1 = x := ⟨_, rfl⟩
  have rN001 : RK kp L N001 341 := by rw [← mN001]; exact th_ref hTH rN00 (by decide) (by decide) rfl
  obtain ⟨N003, mN003⟩ : ∃ x : Nat, oR (f0 N00) 3 = x := ⟨_, rfl⟩
  have rN003 : RK kp L N003 343 := by rw [← mN003]; exact th_ref hTH rN00 (by decide) (by decide) rfl
  obtain ⟨N004, mN004⟩ : ∃ x : Nat, oR (f0 N00) 4 = x := ⟨_, rfl⟩
  have rN004 : RK kp L N004 344 := by rw [← mN004]; exact th_ref hTH rN00 (by decide) (by decide) rfl
  obtain ⟨N006, mN006⟩ : ∃ x : Nat, oR (f0 N00) 6 = x := ⟨_, rfl⟩
  have rN006 : RK kp L N006 346 := by rw [← mN006]; exact th_ref hTH rN00 (by decide) (by decide) rfl
  obtain ⟨vc, mvc⟩ : ∃ x : Int32, oI (f0 N00) 0 = x := ⟨_, rfl⟩
  have bvc : (0 : Int) ≤ vc.toInt ∧ vc.toInt ≤ 40 := by rw [← mvc]; exact th_iv hW rN00 (by decide) (by decide) rfl
  obtain ⟨py, mpy⟩ : ∃ x : Int32, aI (f0 N006) (u1 : Int32).toNatClampNeg = x := ⟨_, rfl⟩
  refine lv_aload_n hx hb dX11_goes_0 rfl (lv_at hl 0 rfl) ?_
  refine fg_RX11_12 E hW rh0 dX11_goes_1 (fun a1 m2 r3 => ?_)
  obtain rfl : N0 = a1 := (mN0).symm.trans m2
  refine fg_RX11_63 E hW rN0 dX11_goes_4 (fun a4 m5 r6 => ?_)
  obtain rfl : N00 = a4 := (mN00).symm.trans m5
  refine lv_astore_n (lv' := [(3, .ref N00), (0, .ref h0), (1, .int u1), (2, .int u2)]) hx hb dX11_goes_7 rfl hl (by decide) rfl (fun ls hl => ?_)
  refine lv_iload_n hx hb dX11_goes_8 rfl (lv_at hl 3 rfl) ?_
  refine lv_iconst (v := 0) hx hb dX11_goes_9 (by decide) ?_
  refine lv_iconst (v := 4) hx hb dX11_goes_10 (by decide) ?_
  have hW0 := hW.2.2.2
  refine t_callS (As := [.int u2, .int 0, .int 4]) (rest := []) E hW (c_X11_within l G cI cJ cZ cD cR cT kp L f0 hW.2.2.2 _ u2 0 4 (by decide)) wk_X11_within tw_599 rfl ⟨Nat.le_of_ble_eq_true rfl, Nat.le_of_ble_eq_true rfl⟩ ⟨rfl, rfl⟩ hl.1 rfl (Nat.le_of_ble_eq_true rfl) dX11_goes_11 ⟨Nat.le_of_ble_eq_true rfl, Nat.le_of_ble_eq_true rfl⟩ (fun v7 f8 H locs q9 hW => ?_)
  obtain ⟨⟨x11, rfl, p12⟩, g10⟩ := q9
  have p12 : (x11.toInt = 1 ∧ (0 : Int) ≤ u2.toInt ∧ u2.toInt ≤ (4 : Int)) ∨ (x11.toInt = 0 ∧ (u2.toInt < (0 : Int) ∨ (4 : Int) < u2.toInt)) := p12
  have m14 : P8 f8 N00 = P8 f0 N00 := (p8_fm hW0 rN00 g10 rfl).trans (rfl : P8 f0 N00 = P8 f0 N00)
  have z13 : WU kp L [N00, N001, N003, N004, N006] f0 f8 := wu_fm (wu_rf : WU kp L [N00, N001, N003, N004, N006] f0 f0) g10 rfl
  have hF := FM.tr hF g10 rfl
  refine q_if_ne (tgt := 23) hx hb dX11_goes_14 (by decide) rfl (fun c15 => ?_) (fun c15 => ?_)
  · have q16 : (0 : Int) ≤ u2.toInt ∧ u2.toInt ≤ (4 : Int) := by omega
    clear p12
    refine lv_aload_n hx hb dX11_goes_23 rfl (lv_at hl 0 rfl) ?_
    refine lv_iload_n hx hb dX11_goes_24 rfl (lv_at hl 2 rfl) ?_
    have hW0 := hW.2.2.2
    refine t_callV (As := [.int u1]) (rest := []) E hW (c_X4_has_u l G cI cJ cZ cD cR cT kp L f8 hW.2.2.2 _ N00 u1 rN00) rN00 (by decide) rfl wk_X4_has tw_619 rfl ⟨Nat.le_of_ble_eq_true rfl, Nat.le_of_ble_eq_true rfl⟩ ⟨rfl, rfl⟩ hl.1 rfl (Nat.le_of_ble_eq_true rfl) dX11_goes_25 ⟨Nat.le_of_ble_eq_true rfl, Nat.le_of_ble_eq_true rfl⟩ (fun v17 f18 H locs q19 hW => ?_)
    obtain ⟨⟨x21, rfl, p22⟩, g20⟩ := q19
    rw [((fm_I g10 rN00 rfl).trans mvc)] at p22
    have m23 : aI (f18 N006) (u1 : Int32).toNatClampNeg = py := ((congrArg (fun z => aI z (u1 : Int32).toNatClampNeg) (fm_A g20 rN006 (by decide) rfl)).trans ((congrArg (fun z => aI z (u1 : Int32).toNatClampNeg) (fm_A g10 rN006 (by decide) rfl)).trans mpy))
    have m25 : P8 f18 N00 = P8 f0 N00 := (p8_fm hW0 rN00 g20 rfl).trans m14
    have z24 : WU kp L [N00, N001, N003, N004, N006] f0 f18 := wu_fm z13 g20 rfl
    have hF := FM.tr hF g20 rfl
    refine q_if_ne (tgt := 38) hx hb dX11_goes_28 (by decide) rfl (fun c26 => ?_) (fun c26 => ?_)
    · have q27 : 0 ≤ u1.toInt ∧ u1.toInt ≤ 39 := by omega
      refine lv_aload_n hx hb dX11_goes_38 rfl (lv_at hl 0 rfl) ?_
      refine fg_RX11_87 E hW rN00 dX11_goes_39 (fun a28 m29 r30 => ?_)
      obtain rfl : N006 = a28 := (((fm_R g20 rN00 rfl).trans ((fm_R g10 rN00 rfl).trans mN006))).symm.trans m29
      refine lv_iload_n hx hb dX11_goes_42 rfl (lv_at hl 2 rfl) ?_
      refine gl_346 E hW rN006 ⟨by omega, by omega⟩ dX11_goes_43 (fun y31 m32 => ?_)
      obtain rfl : py = y31 := (m23).symm.trans m32
      refine lv_iconst (v := 4) hx hb dX11_goes_44 (by decide) ?_
      refine q_icmp_ne (Y := 4) (tgt := 55) hx hb dX11_goes_45 (by decide) rfl rfl (fun c34 => ?_) (fun c34 => ?_)
      · refine lv_aload_n hx hb dX11_goes_55 rfl (lv_at hl 0 rfl) ?_
        refine fg_RX11_87 E hW rN00 dX11_goes_56 (fun a35 m36 r37 => ?_)
        obtain rfl : N006 = a35 := (m29).symm.trans m36
        refine lv_iload_n hx hb dX11_goes_59 rfl (lv_at hl 2 rfl) ?_
        refine lv_iload_n hx hb dX11_goes_60 rfl (lv_at hl 3 rfl) ?_
        have hW0 := hW.2.2.2
        refine gs_346 E hW rN006 ⟨by omega, by omega⟩ dX11_goes_61 (fun f38 H locs e39 n40 g41 hW => ?_)
        have m42 : aI (f38 N001) = aI (f0 N001) := ((congrArg aI (fm_A g41 rN001 (by decide) rfl)).trans ((congrArg aI (fm_A g20 rN001 (by decide) rfl)).trans ((congrArg aI (fm_A g10 rN001 (by decide) rfl)).trans (rfl : aI (f0 N001) = aI (f0 N001)))))
        have m43 : aI (f38 N003) = aI (f0 N003) := ((congrArg aI (fm_A g41 rN003 (by decide) rfl)).trans ((congrArg aI (fm_A g20 rN003 (by decide) rfl)).trans ((congrArg aI (fm_A g10 rN003 (by decide) rfl)).trans (rfl : aI (f0 N003) = aI (f0 N003)))))
        have m44 : aI (f38 N004) = aI (f0 N004) := ((congrArg aI (fm_A g41 rN004 (by decide) rfl)).trans ((congrArg aI (fm_A g20 rN004 (by decide) rfl)).trans ((congrArg aI (fm_A g10 rN004 (by decide) rfl)).trans (rfl : aI (f0 N004) = aI (f0 N004)))))
        have z45 : WU kp L [N00, N001, N003, N004, N006] f0 f38 := wu_put z24 n40 (by simp)
        have hF := FM.tr hF g41 rfl
        refine lv_aload_n hx hb dX11_goes_62 rfl (lv_at hl 1 rfl) ?_
        refine lv_iconst (v := 0) hx hb dX11_goes_63 (by decide) ?_
        have hW0 := hW.2.2.2
        refine t_callV (As := [.int 0]) (rest := []) E hW (c_X11_accept_x l G cI cJ cZ cD cR cT kp L f38 hW.2.2.2 _ h0 0 rh0) rh0 (by decide) rfl wk_X11_accept tw_611 rfl ⟨Nat.le_of_ble_eq_true rfl, Nat.le_of_ble_eq_true rfl⟩ ⟨rfl, rfl⟩ hl.1 rfl (Nat.le_of_ble_eq_true rfl) dX11_goes_64 ⟨Nat.le_of_ble_eq_true rfl, Nat.le_of_ble_eq_true rfl⟩ (fun v46 f47 H locs q48 hW => ?_)
        obtain ⟨⟨x50, rfl, p51⟩, g49⟩ := q48
        have p51 : x50.toInt = (0 : Int) := p51
        have m52 : aI (f47 N006) = upd (aI (f0 N006)) (u1 : Int32).toNatClampNeg u2 := ((congrArg aI (fm_A g49 rN006 (by decide) rfl)).trans (e39.trans (congrArg (fun z => upd z (u1 : Int32).toNatClampNeg u2) ((congrArg aI (fm_A g20 rN006 (by decide) rfl)).trans ((congrArg aI (fm_A g10 rN006 (by decide) rfl)).trans (rfl : aI (f0 N006) = aI (f0 N006)))))))
        have z53 : WU kp L [N00, N001, N003, N004, N006] f0 f47 := wu_fm z45 g49 rfl
        have hF := FM.tr hF g49 rfl
        exact e_I E hW rfl ⟨⟨_, rfl, (by rw [mN0, mN00]; have e : (P8 f0 N00).1 = vc.toInt := congrArg Int32.toInt mvc; first | exact sGoes_1 (by omega) (by omega) (p8_goes mN001 mN003 mN004 mN006 ((fm_R g49 rN00 rfl).trans ((fm_R g41 rN00 rfl).trans ((fm_R g20 rN00 rfl).trans ((fm_R g10 rN00 rfl).trans mN001)))) ((fm_R g49 rN00 rfl).trans ((fm_R g41 rN00 rfl).trans ((fm_R g20 rN00 rfl).trans ((fm_R g10 rN00 rfl).trans mN003)))) ((fm_R g49 rN00 rfl).trans ((fm_R g41 rN00 rfl).trans ((fm_R g20 rN00 rfl).trans ((fm_R g10 rN00 rfl).trans mN004)))) ((fm_R g49 rN00 rfl).trans ((fm_R g41 rN00 rfl).trans m36)) (by omega) mvc ((fm_I g49 rN00 rfl).trans ((fm_I g41 rN00 rfl).trans ((fm_I g20 rN00 rfl).trans ((fm_I g10 rN00 rfl).trans mvc)))) ((congrArg aI (fm_A g49 rN001 (by decide) rfl)).trans m42) ((congrArg aI (fm_A g49 rN003 (by decide) rfl)).trans m43) ((congrArg aI (fm_A g49 rN004 (by decide) rfl)).trans m44) m52) | exact sGoes_2 e (by omega) (by omega) (by omega) (p8_goes mN001 mN003 mN004 mN006 ((fm_R g49 rN00 rfl).trans ((fm_R g41 rN00 rfl).trans ((fm_R g20 rN00 rfl).trans ((fm_R g10 rN00 rfl).trans mN001)))) ((fm_R g49 rN00 rfl).trans ((fm_R g41 rN00 rfl).trans ((fm_R g20 rN00 rfl).trans ((fm_R g10 rN00 rfl).trans mN003)))) ((fm_R g49 rN00 rfl).trans ((fm_R g41 rN00 rfl).trans ((fm_R g20 rN00 rfl).trans ((fm_R g10 rN00 rfl).trans mN004)))) ((fm_R g49 rN00 rfl).trans ((fm_R g41 rN00 rfl).trans m36)) (by omega) mvc ((fm_I g49 rN00 rfl).trans ((fm_I g41 rN00 rfl).trans ((fm_I g20 rN00 rfl).trans ((fm_I g10 rN00 rfl).trans mvc)))) ((congrArg aI (fm_A g49 rN001 (by decide) rfl)).trans m42) ((congrArg aI (fm_A g49 rN003 (by decide) rfl)).trans m43) ((congrArg aI (fm_A g49 rN004 (by decide) rfl)).trans m44) m52) | exact sGoes_3 e (by omega) (by omega) ((p8_dead mN006 (by omega) mpy).trans (decide_eq_true (by omega))) (by omega) (p8_goes mN001 mN003 mN004 mN006 ((fm_R g49 rN00 rfl).trans ((fm_R g41 rN00 rfl).trans ((fm_R g20 rN00 rfl).trans ((fm_R g10 rN00 rfl).trans mN001)))) ((fm_R g49 rN00 rfl).trans ((fm_R g41 rN00 rfl).trans ((fm_R g20 rN00 rfl).trans ((fm_R g10 rN00 rfl).trans mN003)))) ((fm_R g49 rN00 rfl).trans ((fm_R g41 rN00 rfl).trans ((fm_R g20 rN00 rfl).trans ((fm_R g10 rN00 rfl).trans mN004)))) ((fm_R g49 rN00 rfl).trans ((fm_R g41 rN00 rfl).trans m36)) (by omega) mvc ((fm_I g49 rN00 rfl).trans ((fm_I g41 rN00 rfl).trans ((fm_I g20 rN00 rfl).trans ((fm_I g10 rN00 rfl).trans mvc)))) ((congrArg aI (fm_A g49 rN001 (by decide) rfl)).trans m42) ((congrArg aI (fm_A g49 rN003 (by decide) rfl)).trans m43) ((congrArg aI (fm_A g49 rN004 (by decide) rfl)).trans m44) m52) | exact sGoes_4 e (by omega) (by omega) ((p8_dead mN006 (by omega) mpy).trans (decide_eq_false (by omega))) (by omega) (p8_goes mN001 mN003 mN004 mN006 ((fm_R g49 rN00 rfl).trans ((fm_R g41 rN00 rfl).trans ((fm_R g20 rN00 rfl).trans ((fm_R g10 rN00 rfl).trans mN001)))) ((fm_R g49 rN00 rfl).trans ((fm_R g41 rN00 rfl).trans ((fm_R g20 rN00 rfl).trans ((fm_R g10 rN00 rfl).trans mN003)))) ((fm_R g49 rN00 rfl).trans ((fm_R g41 rN00 rfl).trans ((fm_R g20 rN00 rfl).trans ((fm_R g10 rN00 rfl).trans mN004)))) ((fm_R g49 rN00 rfl).trans ((fm_R g41 rN00 rfl).trans m36)) (by omega) mvc ((fm_I g49 rN00 rfl).trans ((fm_I g41 rN00 rfl).trans ((fm_I g20 rN00 rfl).trans ((fm_I g10 rN00 rfl).trans mvc)))) ((congrArg aI (fm_A g49 rN001 (by decide) rfl)).trans m42) ((congrArg aI (fm_A g49 rN003 (by decide) rfl)).trans m43) ((congrArg aI (fm_A g49 rN004 (by decide) rfl)).trans m44) m52))⟩, hF, (by rw [mN0, mN00, mN001, mN003, mN004, mN006]; exact z53)⟩ dX11_goes_67
      · refine lv_aload_n hx hb dX11_goes_48 rfl (lv_at hl 1 rfl) ?_
        refine lv_bipush (v := (-3)) hx hb dX11_goes_49 (by decide) ?_
        have hW0 := hW.2.2.2
        refine t_callV (As := [.int (-3)]) (rest := []) E hW (c_X11_refuse_x l G cI cJ cZ cD cR cT kp L f18 hW.2.2.2 _ h0 (-3) rh0 (by decide)) rh0 (by decide) rfl wk_X11_refuse tw_603 rfl ⟨Nat.le_of_ble_eq_true rfl, Nat.le_of_ble_eq_true rfl⟩ ⟨rfl, rfl⟩ hl.1 rfl (Nat.le_of_ble_eq_true rfl) dX11_goes_51 ⟨Nat.le_of_ble_eq_true rfl, Nat.le_of_ble_eq_true rfl⟩ (fun v54 f55 H locs q56 hW => ?_)
        obtain ⟨⟨x58, rfl, p59⟩, g57⟩ := q56
        have p59 : x58.toInt = (-3 : Int) := p59
        have m60 : aI (f55 N001) = aI (f0 N001) := ((congrArg aI (fm_A g57 rN001 (by decide) rfl)).trans ((congrArg aI (fm_A g20 rN001 (by decide) rfl)).trans ((congrArg aI (fm_A g10 rN001 (by decide) rfl)).trans (rfl : aI (f0 N001) = aI (f0 N001)))))
        have m61 : aI (f55 N003) = aI (f0 N003) := ((congrArg aI (fm_A g57 rN003 (by decide) rfl)).trans ((congrArg aI (fm_A g20 rN003 (by decide) rfl)).trans ((congrArg aI (fm_A g10 rN003 (by decide) rfl)).trans (rfl : aI (f0 N003) = aI (f0 N003)))))
        have m62 : aI (f55 N004) = aI (f0 N004) := ((congrArg aI (fm_A g57 rN004 (by decide) rfl)).trans ((congrArg aI (fm_A g20 rN004 (by decide) rfl)).trans ((congrArg aI (fm_A g10 rN004 (by decide) rfl)).trans (rfl : aI (f0 N004) = aI (f0 N004)))))
        have m63 : aI (f55 N006) = aI (f0 N006) := ((congrArg aI (fm_A g57 rN006 (by decide) rfl)).trans ((congrArg aI (fm_A g20 rN006 (by decide) rfl)).trans ((congrArg aI (fm_A g10 rN006 (by decide) rfl)).trans (rfl : aI (f0 N006) = aI (f0 N006)))))
        have m65 : P8 f55 N00 = P8 f0 N00 := (p8_fm hW0 rN00 g57 rfl).trans m25
        have z64 : WU kp L [N00, N001, N003, N004, N006] f0 f55 := wu_fm z24 g57 rfl
        have hF := FM.tr hF g57 rfl
        exact e_I E hW rfl ⟨⟨_, rfl, (by rw [mN0, mN00]; have e : (P8 f0 N00).1 = vc.toInt := congrArg Int32.toInt mvc; first | exact sGoes_1 (by omega) (by omega) m65 | exact sGoes_2 e (by omega) (by omega) (by omega) m65 | exact sGoes_3 e (by omega) (by omega) ((p8_dead mN006 (by omega) mpy).trans (decide_eq_true (by omega))) (by omega) m65 | exact sGoes_4 e (by omega) (by omega) ((p8_dead mN006 (by omega) mpy).trans (decide_eq_false (by omega))) (by omega) m65)⟩, hF, (by rw [mN0, mN00, mN001, mN003, mN004, mN006]; exact z64)⟩ dX11_goes_54
    · refine lv_aload_n hx hb dX11_goes_31 rfl (lv_at hl 1 rfl) ?_
      refine lv_bipush (v := (-2)) hx hb dX11_goes_32 (by decide) ?_
      have hW0 := hW.2.2.2
      refine t_callV (As := [.int (-2)]) (rest := []) E hW (c_X11_refuse_x l G cI cJ cZ cD cR cT kp L f18 hW.2.2.2 _ h0 (-2) rh0 (by decide)) rh0 (by decide) rfl wk_X11_refuse tw_603 rfl ⟨Nat.le_of_ble_eq_true rfl, Nat.le_of_ble_eq_true rfl⟩ ⟨rfl, rfl⟩ hl.1 rfl (Nat.le_of_ble_eq_true rfl) dX11_goes_34 ⟨Nat.le_of_ble_eq_true rfl, Nat.le_of_ble_eq_true rfl⟩ (fun v66 f67 H locs q68 hW => ?_)
      obtain ⟨⟨x70, rfl, p71⟩, g69⟩ := q68
      have p71 : x70.toInt = (-2 : Int) := p71
      have m72 : aI (f67 N001) = aI (f0 N001) := ((congrArg aI (fm_A g69 rN001 (by decide) rfl)).trans ((congrArg aI (fm_A g20 rN001 (by decide) rfl)).trans ((congrArg aI (fm_A g10 rN001 (by decide) rfl)).trans (rfl : aI (f0 N001) = aI (f0 N001)))))
      have m73 : aI (f67 N003) = aI (f0 N003) := ((congrArg aI (fm_A g69 rN003 (by decide) rfl)).trans ((congrArg aI (fm_A g20 rN003 (by decide) rfl)).trans ((congrArg aI (fm_A g10 rN003 (by decide) rfl)).trans (rfl : aI (f0 N003) = aI (f0 N003)))))
      have m74 : aI (f67 N004) = aI (f0 N004) := ((congrArg aI (fm_A g69 rN004 (by decide) rfl)).trans ((congrArg aI (fm_A g20 rN004 (by decide) rfl)).trans ((congrArg aI (fm_A g10 rN004 (by decide) rfl)).trans (rfl : aI (f0 N004) = aI (f0 N004)))))
      have m75 : aI (f67 N006) = aI (f0 N006) := ((congrArg aI (fm_A g69 rN006 (by decide) rfl)).trans ((congrArg aI (fm_A g20 rN006 (by decide) rfl)).trans ((congrArg aI (fm_A g10 rN006 (by decide) rfl)).trans (rfl : aI (f0 N006) = aI (f0 N006)))))
      have m77 : P8 f67 N00 = P8 f0 N00 := (p8_fm hW0 rN00 g69 rfl).trans m25
      have z76 : WU kp L [N00, N001, N003, N004, N006] f0 f67 := wu_fm z24 g69 rfl
      have hF := FM.tr hF g69 rfl
      exact e_I E hW rfl ⟨⟨_, rfl, (by rw [mN0, mN00]; have e : (P8 f0 N00).1 = vc.toInt := congrArg Int32.toInt mvc; first | exact sGoes_1 (by omega) (by omega) m77 | exact sGoes_2 e (by omega) (by omega) (by omega) m77 | exact sGoes_3 e (by omega) (by omega) ((p8_dead mN006 (by omega) mpy).trans (decide_eq_true (by omega))) (by omega) m77 | exact sGoes_4 e (by omega) (by omega) ((p8_dead mN006 (by omega) mpy).trans (decide_eq_false (by omega))) (by omega) m77)⟩, hF, (by rw [mN0, mN00, mN001, mN003, mN004, mN006]; exact z76)⟩ dX11_goes_37
  · have q78 : (u2.toInt < (0 : Int) ∨ (4 : Int) < u2.toInt) := by omega
    clear p12
    refine lv_aload_n hx hb dX11_goes_17 rfl (lv_at hl 1 rfl) ?_
    refine lv_iconst (v := (-1)) hx hb dX11_goes_18 (by decide) ?_
    have hW0 := hW.2.2.2
    refine t_callV (As := [.int (-1)]) (rest := []) E hW (c_X11_refuse_x l G cI cJ cZ cD cR cT kp L f8 hW.2.2.2 _ h0 (-1) rh0 (by decide)) rh0 (by decide) rfl wk_X11_refuse tw_603 rfl ⟨Nat.le_of_ble_eq_true rfl, Nat.le_of_ble_eq_true rfl⟩ ⟨rfl, rfl⟩ hl.1 rfl (Nat.le_of_ble_eq_true rfl) dX11_goes_19 ⟨Nat.le_of_ble_eq_true rfl, Nat.le_of_ble_eq_true rfl⟩ (fun v79 f80 H locs q81 hW => ?_)
    obtain ⟨⟨x83, rfl, p84⟩, g82⟩ := q81
    have p84 : x83.toInt = (-1 : Int) := p84
    have m85 : aI (f80 N006) (u1 : Int32).toNatClampNeg = py := ((congrArg (fun z => aI z (u1 : Int32).toNatClampNeg) (fm_A g82 rN006 (by decide) rfl)).trans ((congrArg (fun z => aI z (u1 : Int32).toNatClampNeg) (fm_A g10 rN006 (by decide) rfl)).trans mpy))
    have m87 : P8 f80 N00 = P8 f0 N00 := (p8_fm hW0 rN00 g82 rfl).trans m14
    have z86 : WU kp L [N00, N001, N003, N004, N006] f0 f80 := wu_fm z13 g82 rfl
    have hF := FM.tr hF g82 rfl
    exact e_I E hW rfl ⟨⟨_, rfl, (by rw [mN0, mN00]; have e : (P8 f0 N00).1 = vc.toInt := congrArg Int32.toInt mvc; first | exact sGoes_1 (by omega) (by omega) m87 | exact sGoes_2 e (by omega) (by omega) (by omega) m87 | exact sGoes_3 e (by omega) (by omega) ((p8_dead mN006 (by omega) mpy).trans (decide_eq_true (by omega))) (by omega) m87 | exact sGoes_4 e (by omega) (by omega) ((p8_dead mN006 (by omega) mpy).trans (decide_eq_false (by omega))) (by omega) m87)⟩, hF, (by rw [mN0, mN00, mN001, mN003, mN004, mN006]; exact z86)⟩ dX11_goes_22
def ms_X3_addOffer_u : List (Nat × Nat) := [(3, 3), (284, 0), (285, 0)]
def po_X3_addOffer_u (kp : Nat → Nat) (L : List Nat) (f0 : Nat → va_E) (h0 : Nat) (u1 : Int32) (u2 : Int32) : Option Value → (Nat → va_E) → Prop := fun v f => (∃ r : Int32, v = some (.int r) ∧ (((oI (f0 h0) 3).toInt < 9 ∧ r.toInt = (oI (f0 h0) 3).toInt + 1) ∨ (9 ≤ (oI (f0 h0) 3).toInt ∧ r.toInt = -1))) ∧ FM kp L ms_X3_addOffer_u f0 f ∧ (((oI (f0 h0) 3).toInt < 9 ∧ (oI (f h0) 3).toInt = (oI (f0 h0) 3).toInt + 1) ∨ (9 ≤ (oI (f0 h0) 3).toInt ∧ (oI (f h0) 3).toInt = (oI (f0 h0) 3).toInt)) ∧ ((oI (f0 h0) 3).toInt < 9 → L8 f h0 = addO (L8 f0 h0) u1.toInt u2.toInt) ∧ (WU kp L [h0, (oR (f0 h0) 4), (oR (f0 h0) 5)] f0 f)
set_option maxHeartbeats 4000000 in
set_option maxRecDepth 100000 in
theorem c_X3_addOffer_u (l : Launch) (G : va_G) (cI cJ cZ cD cR cT : ClassId) (kp : Nat → Nat) (L : List Nat) (f0 : Nat → va_E) (hTH : TH cI cJ cZ cD cR cT kp L f0) (sz : Nat) (h0 : Nat) (u1 : Int32) (u2 : Int32) (rh0 : RK kp L h0 3) (pu1 : (-1000 : Int) ≤ u1.toInt ∧ u1.toInt ≤ 1000) (pu2 : (-1000 : Int) ≤ u2.toInt ∧ u2.toInt ≤ 1000) : Met l yX3_addOffer (Cond.code yX3_addOffer cX3_addOffer 3 (some .int) :: wTab) ({ frames := 1, cells := 0, slots := 0, locals := 40 }) (va_Pc [.ref h0, .int u1, .int u2] (PreW G (tys6 cI cJ cZ cD cR cT) (va_pl L f0) sz)) (QT (po_X3_addOffer_u kp L f0 h0 u1 u2) G cI cJ cZ cD cR cT (va_A (va_pl L f0) sz) kp L) 0 0 (va_A (va_pl L f0) sz) := by
  refine metT (by decide) (Nat.le_of_ble_eq_true rfl) hTH ?_
  intro p e s m below meth c A ls E hW hl
  obtain ⟨hx, hb, -, hml, hown, hts, -, -, -⟩ := id E
  have hF : FM kp L ms_X3_addOffer_u f0 f0 := FM.rf
  have hl : lv_has ls 3 [(0, .ref h0), (1, .int u1), (2, .int u2)] := hl
  obtain ⟨N4, mN4⟩ : ∃ x : Nat, oR (f0 h0) 4 = x := ⟨_, rfl⟩
  have rN4 : RK kp L N4 284 := by rw [← mN4]; exact th_ref hTH rh0 (by decide) (by decide) rfl
  obtain ⟨N5, mN5⟩ : ∃ x : Nat, oR (f0 h0) 5 = x := ⟨_, rfl⟩
  have rN5 : RK kp L N5 285 := by rw [← mN5]; exact th_ref hTH rh0 (by decide) (by decide) rfl
  obtain ⟨vc, mvc⟩ : ∃ x : Int32, oI (f0 h0) 3 = x := ⟨_, rfl⟩
  have bvc : (0 : Int) ≤ vc.toInt ∧ vc.toInt ≤ 9 := by rw [← mvc]; exact th_iv hW rh0 (by decide) (by decide) rfl
  obtain ⟨vb, mvb⟩ : ∃ x : Int32, oI (f0 h0) 1 = x := ⟨_, rfl⟩
  refine lv_aload_n hx hb dX3_addOffer_0 rfl (lv_at hl 0 rfl) ?_
  refine fg_RX3_22 E hW rh0 dX3_addOffer_1 (fun y1 m2 b3 => ?_)
  obtain rfl : vc = y1 := (mvc).symm.trans m2
  refine lv_bipush (v := 9) hx hb dX3_addOffer_4 (by decide) ?_
  refine q_icmp_lt (Y := 9) (tgt := 11) hx hb dX3_addOffer_6 (by decide) rfl rfl (fun c4 => ?_) (fun c4 => ?_)
  · refine lv_aload_n hx hb dX3_addOffer_11 rfl (lv_at hl 0 rfl) ?_
    refine fg_RX3_15 E hW rh0 dX3_addOffer_12 (fun a5 m6 r7 => ?_)
    obtain rfl : N4 = a5 := (mN4).symm.trans m6
    refine lv_aload_n hx hb dX3_addOffer_15 rfl (lv_at hl 0 rfl) ?_
    refine fg_RX3_22 E hW rh0 dX3_addOffer_16 (fun y8 m9 b10 => ?_)
    obtain rfl : vc = y8 := (m2).symm.trans m9
    refine lv_iload_n hx hb dX3_addOffer_19 rfl (lv_at hl 1 rfl) ?_
    have hW0 := hW.2.2.2
    refine gs_284 E hW rN4 ⟨by omega, by omega⟩ dX3_addOffer_20 (fun f11 H locs e12 n13 g14 hW => ?_)
    have z15 : WU kp L [h0, N4, N5] f0 f11 := wu_put (wu_rf : WU kp L [h0, N4, N5] f0 f0) n13 (by simp)
    have hF := FM.tr hF g14 rfl
    refine lv_aload_n hx hb dX3_addOffer_21 rfl (lv_at hl 0 rfl) ?_
    refine fg_RX3_19 E hW rh0 dX3_addOffer_22 (fun a16 m17 r18 => ?_)
    obtain rfl : N5 = a16 := (((fm_R g14 rh0 rfl).trans mN5)).symm.trans m17
    refine lv_aload_n hx hb dX3_addOffer_25 rfl (lv_at hl 0 rfl) ?_
    refine fg_RX3_22 E hW rh0 dX3_addOffer_26 (fun y19 m20 b21 => ?_)
    obtain rfl : vc = y19 := (((fm_I g14 rh0 rfl).trans m9)).symm.trans m20
    refine lv_iload_n hx hb dX3_addOffer_29 rfl (lv_at hl 2 rfl) ?_
    have hW0 := hW.2.2.2
    refine gs_285 E hW rN5 ⟨by omega, by omega⟩ dX3_addOffer_30 (fun f22 H locs e23 n24 g25 hW => ?_)
    have z26 : WU kp L [h0, N4, N5] f0 f22 := wu_put z15 n24 (by simp)
    have hF := FM.tr hF g25 rfl
    refine lv_aload_n hx hb dX3_addOffer_31 rfl (lv_at hl 0 rfl) ?_
    refine lv_dup hx hb dX3_addOffer_32 rfl ?_
    refine fg_RX3_22 E hW rh0 dX3_addOffer_33 (fun y27 m28 b29 => ?_)
    obtain rfl : vc = y27 := (((fm_I g25 rh0 rfl).trans m20)).symm.trans m28
    refine lv_iconst (v := 1) hx hb dX3_addOffer_36 (by decide) ?_
    refine q_iadd (Y := 1) hx hb dX3_addOffer_37 rfl rfl (by omega) (fun x30 h31 => ?_)
    have hW0 := hW.2.2.2
    refine fp_RX3_22 E hW rh0 (by omega) dX3_addOffer_38 (fun f32 H locs e33 n34 g35 hW => ?_)
    have m36 : aI (f32 N4) (vc : Int32).toNatClampNeg = u1 := ((congrArg (fun z => aI z (vc : Int32).toNatClampNeg) (fm_A g35 rN4 (by decide) rfl)).trans ((congrArg (fun z => aI z (vc : Int32).toNatClampNeg) (fm_A g25 rN4 (by decide) rfl)).trans (show aI (f11 N4) (vc : Int32).toNatClampNeg = u1 from by rw [e12]; exact up_s)))
    have m37 : aI (f32 N4) = upd (aI (f0 N4)) (vc : Int32).toNatClampNeg u1 := ((congrArg aI (fm_A g35 rN4 (by decide) rfl)).trans ((congrArg aI (fm_A g25 rN4 (by decide) rfl)).trans (e12.trans (congrArg (fun z => upd z (vc : Int32).toNatClampNeg u1) (rfl : aI (f0 N4) = aI (f0 N4))))))
    have m38 : aI (f32 N5) = upd (aI (f0 N5)) (vc : Int32).toNatClampNeg u2 := ((congrArg aI (fm_A g35 rN5 (by decide) rfl)).trans (e23.trans (congrArg (fun z => upd z (vc : Int32).toNatClampNeg u2) ((congrArg aI (fm_A g14 rN5 (by decide) rfl)).trans (rfl : aI (f0 N5) = aI (f0 N5))))))
    have z39 : WU kp L [h0, N4, N5] f0 f32 := wu_put z26 n34 (by simp)
    have hF := FM.tr hF g35 rfl
    refine lv_aload_n hx hb dX3_addOffer_41 rfl (lv_at hl 0 rfl) ?_
    refine fg_RX3_22 E hW rh0 dX3_addOffer_42 (fun y40 m41 b42 => ?_)
    obtain rfl : x30 = y40 := (e33).symm.trans m41
    exact e_I E hW rfl ⟨⟨_, rfl, (by rw [mvc]; omega)⟩, hF, (by rw [m41, mvc]; omega), (fun q => l8_add mN4 mN5 ((fm_R g35 rh0 rfl).trans ((fm_R g25 rh0 rfl).trans ((fm_R g14 rh0 rfl).trans m6))) ((fm_R g35 rh0 rfl).trans ((fm_R g25 rh0 rfl).trans m17)) (by omega) mvc (by rw [m41]; omega) ((((fm_I g35 rh0 rfl).trans ((fm_I g25 rh0 rfl).trans ((fm_I g14 rh0 rfl).trans mvb)))).trans mvb.symm) m37 m38), (by rw [mN4, mN5]; exact z39)⟩ dX3_addOffer_45
  · refine lv_iconst (v := (-1)) hx hb dX3_addOffer_9 (by decide) ?_
    exact e_I E hW rfl ⟨⟨_, rfl, (by rw [mvc]; have hk : ((-1) : Int32).toInt = -1 := rfl; omega)⟩, hF, (by rw [mvc]; omega), (fun q => absurd q (by rw [mvc]; omega)), (by rw [mN4, mN5]; exact (wu_rf : WU kp L [h0, N4, N5] f0 f0))⟩ dX3_addOffer_10
def ms_X11_offer_u : List (Nat × Nat) := [(3, 3), (11, 15), (284, 0), (285, 0)]
def po_X11_offer_u (kp : Nat → Nat) (L : List Nat) (f0 : Nat → va_E) (h0 : Nat) (u1 : Int32) (u2 : Int32) : Option Value → (Nat → va_E) → Prop := fun v f => (∃ r : Int32, v = some (.int r) ∧ ((r.toInt, L8 f (oR (f0 (oR (f0 h0) 0)) 5)) = sOffer (L8 f0 (oR (f0 (oR (f0 h0) 0)) 5)) u1.toInt u2.toInt)) ∧ FM kp L ms_X11_offer_u f0 f ∧ (WU kp L [(oR (f0 (oR (f0 h0) 0)) 5), (oR (f0 (oR (f0 (oR (f0 h0) 0)) 5)) 4), (oR (f0 (oR (f0 (oR (f0 h0) 0)) 5)) 5)] f0 f)
set_option maxHeartbeats 4000000 in
set_option maxRecDepth 100000 in
theorem c_X11_offer_u (l : Launch) (G : va_G) (cI cJ cZ cD cR cT : ClassId) (kp : Nat → Nat) (L : List Nat) (f0 : Nat → va_E) (hTH : TH cI cJ cZ cD cR cT kp L f0) (sz : Nat) (h0 : Nat) (u1 : Int32) (u2 : Int32) (rh0 : RK kp L h0 11) : Met l yX11_offer (Cond.code yX11_offer cX11_offer 3 (some .int) :: wTab) ({ frames := 2, cells := 0, slots := 0, locals := 62 }) (va_Pc [.ref h0, .int u1, .int u2] (PreW G (tys6 cI cJ cZ cD cR cT) (va_pl L f0) sz)) (QT (po_X11_offer_u kp L f0 h0 u1 u2) G cI cJ cZ cD cR cT (va_A (va_pl L f0) sz) kp L) 0 0 (va_A (va_pl L f0) sz) := by
  refine metT (by decide) (Nat.le_of_ble_eq_true rfl) hTH ?_
  intro p e s m below meth c A ls E hW hl
  obtain ⟨hx, hb, -, hml, hown, hts, -, -, -⟩ := id E
  have hF : FM kp L ms_X11_offer_u f0 f0 := FM.rf
  have hl : lv_has ls 3 [(0, .ref h0), (1, .int u1), (2, .int u2)] := hl
  obtain ⟨N0, mN0⟩ : ∃ x : Nat, oR (f0 h0) 0 = x := ⟨_, rfl⟩
  have rN0 : RK kp L N0 0 := by rw [← mN0]; exact th_ref hTH rh0 (by decide) (by decide) rfl
  obtain ⟨N05, mN05⟩ : ∃ x : Nat, oR (f0 N0) 5 = x := ⟨_, rfl⟩
  have rN05 : RK kp L N05 3 := by rw [← mN05]; exact th_ref hTH rN0 (by decide) (by decide) rfl
  obtain ⟨N054, mN054⟩ : ∃ x : Nat, oR (f0 N05) 4 = x := ⟨_, rfl⟩
  have rN054 : RK kp L N054 284 := by rw [← mN054]; exact th_ref hTH rN05 (by decide) (by decide) rfl
  obtain ⟨N055, mN055⟩ : ∃ x : Nat, oR (f0 N05) 5 = x := ⟨_, rfl⟩
  have rN055 : RK kp L N055 285 := by rw [← mN055]; exact th_ref hTH rN05 (by decide) (by decide) rfl
  obtain ⟨vc, mvc⟩ : ∃ x : Int32, oI (f0 N05) 3 = x := ⟨_, rfl⟩
  have bvc : (0 : Int) ≤ vc.toInt ∧ vc.toInt ≤ 9 := by rw [← mvc]; exact th_iv hW rN05 (by decide) (by decide) rfl
  refine lv_iload_n hx hb dX11_offer_0 rfl (lv_at hl 1 rfl) ?_
  refine lv_sipush (v := (-1000)) hx hb dX11_offer_1 (by decide) ?_
  refine lv_sipush (v := 1000) hx hb dX11_offer_4 (by decide) ?_
  have hW0 := hW.2.2.2
  refine t_callS (As := [.int u1, .int (-1000), .int 1000]) (rest := []) E hW (c_X11_within l G cI cJ cZ cD cR cT kp L f0 hW.2.2.2 _ u1 (-1000) 1000 (by decide)) wk_X11_within tw_599 rfl ⟨Nat.le_of_ble_eq_true rfl, Nat.le_of_ble_eq_true rfl⟩ ⟨rfl, rfl⟩ hl.1 rfl (Nat.le_of_ble_eq_true rfl) dX11_offer_7 ⟨Nat.le_of_ble_eq_true rfl, Nat.le_of_ble_eq_true rfl⟩ (fun v1 f2 H locs q3 hW => ?_)
  obtain ⟨⟨x5, rfl, p6⟩, g4⟩ := q3
  have p6 : (x5.toInt = 1 ∧ (-1000 : Int) ≤ u1.toInt ∧ u1.toInt ≤ (1000 : Int)) ∨ (x5.toInt = 0 ∧ (u1.toInt < (-1000 : Int) ∨ (1000 : Int) < u1.toInt)) := p6
  have m8 : L8 f2 N05 = L8 f0 N05 := (l8_fm hW0 rN05 g4 rfl).trans (rfl : L8 f0 N05 = L8 f0 N05)
  have z7 : WU kp L [N05, N054, N055] f0 f2 := wu_fm (wu_rf : WU kp L [N05, N054, N055] f0 f0) g4 rfl
  have hF := FM.tr hF g4 rfl
  refine q_if_eq (tgt := 26) hx hb dX11_offer_10 (by decide) rfl (fun c9 => ?_) (fun c9 => ?_)
  · have q10 : (u1.toInt < (-1000 : Int) ∨ (1000 : Int) < u1.toInt) := by omega
    clear p6
    refine lv_aload_n hx hb dX11_offer_26 rfl (lv_at hl 0 rfl) ?_
    refine lv_iconst (v := (-1)) hx hb dX11_offer_27 (by decide) ?_
    have hW0 := hW.2.2.2
    refine t_callV (As := [.int (-1)]) (rest := []) E hW (c_X11_refuse_x l G cI cJ cZ cD cR cT kp L f2 hW.2.2.2 _ h0 (-1) rh0 (by decide)) rh0 (by decide) rfl wk_X11_refuse tw_603 rfl ⟨Nat.le_of_ble_eq_true rfl, Nat.le_of_ble_eq_true rfl⟩ ⟨rfl, rfl⟩ hl.1 rfl (Nat.le_of_ble_eq_true rfl) dX11_offer_28 ⟨Nat.le_of_ble_eq_true rfl, Nat.le_of_ble_eq_true rfl⟩ (fun v11 f12 H locs q13 hW => ?_)
    obtain ⟨⟨x15, rfl, p16⟩, g14⟩ := q13
    have p16 : x15.toInt = (-1 : Int) := p16
    have m18 : L8 f12 N05 = L8 f0 N05 := (l8_fm hW0 rN05 g14 rfl).trans m8
    have z17 : WU kp L [N05, N054, N055] f0 f12 := wu_fm z7 g14 rfl
    have hF := FM.tr hF g14 rfl
    exact e_I E hW rfl ⟨⟨_, rfl, (by rw [mN0, mN05]; have e : (L8 f0 N05).1 = vc.toInt := congrArg Int32.toInt mvc; first | exact sOffer_1 (by omega) (by omega) m18 | exact sOffer_2 e (by omega) (by omega) (by omega) m18 | exact sOffer_3 e (by omega) (by omega) (by omega) m18)⟩, hF, (by rw [mN0, mN05, mN054, mN055]; exact z17)⟩ dX11_offer_31
  · have q19 : (-1000 : Int) ≤ u1.toInt ∧ u1.toInt ≤ (1000 : Int) := by omega
    clear p6
    refine lv_iload_n hx hb dX11_offer_13 rfl (lv_at hl 2 rfl) ?_
    refine lv_sipush (v := (-1000)) hx hb dX11_offer_14 (by decide) ?_
    refine lv_sipush (v := 1000) hx hb dX11_offer_17 (by decide) ?_
    have hW0 := hW.2.2.2
    refine t_callS (As := [.int u2, .int (-1000), .int 1000]) (rest := []) E hW (c_X11_within l G cI cJ cZ cD cR cT kp L f2 hW.2.2.2 _ u2 (-1000) 1000 (by decide)) wk_X11_within tw_599 rfl ⟨Nat.le_of_ble_eq_true rfl, Nat.le_of_ble_eq_true rfl⟩ ⟨rfl, rfl⟩ hl.1 rfl (Nat.le_of_ble_eq_true rfl) dX11_offer_20 ⟨Nat.le_of_ble_eq_true rfl, Nat.le_of_ble_eq_true rfl⟩ (fun v20 f21 H locs q22 hW => ?_)
    obtain ⟨⟨x24, rfl, p25⟩, g23⟩ := q22
    have p25 : (x24.toInt = 1 ∧ (-1000 : Int) ≤ u2.toInt ∧ u2.toInt ≤ (1000 : Int)) ∨ (x24.toInt = 0 ∧ (u2.toInt < (-1000 : Int) ∨ (1000 : Int) < u2.toInt)) := p25
    have m27 : L8 f21 N05 = L8 f0 N05 := (l8_fm hW0 rN05 g23 rfl).trans m8
    have z26 : WU kp L [N05, N054, N055] f0 f21 := wu_fm z7 g23 rfl
    have hF := FM.tr hF g23 rfl
    refine q_if_ne (tgt := 32) hx hb dX11_offer_23 (by decide) rfl (fun c28 => ?_) (fun c28 => ?_)
    · have q29 : (-1000 : Int) ≤ u2.toInt ∧ u2.toInt ≤ (1000 : Int) := by omega
      clear p25
      refine lv_aload_n hx hb dX11_offer_32 rfl (lv_at hl 0 rfl) ?_
      refine fg_RX11_12 E hW rh0 dX11_offer_33 (fun a30 m31 r32 => ?_)
      obtain rfl : N0 = a30 := (((fm_R g23 rh0 rfl).trans ((fm_R g4 rh0 rfl).trans mN0))).symm.trans m31
      refine fg_RX11_98 E hW rN0 dX11_offer_36 (fun a33 m34 r35 => ?_)
      obtain rfl : N05 = a33 := (((fm_R g23 rN0 rfl).trans ((fm_R g4 rN0 rfl).trans mN05))).symm.trans m34
      refine fg_RX11_297 E hW rN05 dX11_offer_39 (fun y36 m37 b38 => ?_)
      obtain rfl : vc = y36 := (((fm_I g23 rN05 rfl).trans ((fm_I g4 rN05 rfl).trans mvc))).symm.trans m37
      refine lv_bipush (v := 9) hx hb dX11_offer_42 (by decide) ?_
      refine q_icmp_lt (Y := 9) (tgt := 54) hx hb dX11_offer_44 (by decide) rfl rfl (fun c39 => ?_) (fun c39 => ?_)
      · refine lv_aload_n hx hb dX11_offer_54 rfl (lv_at hl 0 rfl) ?_
        refine lv_aload_n hx hb dX11_offer_55 rfl (lv_at hl 0 rfl) ?_
        refine fg_RX11_12 E hW rh0 dX11_offer_56 (fun a40 m41 r42 => ?_)
        obtain rfl : N0 = a40 := (m31).symm.trans m41
        refine fg_RX11_98 E hW rN0 dX11_offer_59 (fun a43 m44 r45 => ?_)
        obtain rfl : N05 = a43 := (m34).symm.trans m44
        refine lv_iload_n hx hb dX11_offer_62 rfl (lv_at hl 1 rfl) ?_
        refine lv_iload_n hx hb dX11_offer_63 rfl (lv_at hl 2 rfl) ?_
        have hW0 := hW.2.2.2
        refine t_callV (As := [.int u1, .int u2]) (rest := [.ref h0]) E hW (c_X3_addOffer_u l G cI cJ cZ cD cR cT kp L f21 hW.2.2.2 _ N05 u1 u2 rN05 (by omega) (by omega)) rN05 (by decide) rfl wk_X3_addOffer tw_1230 rfl ⟨Nat.le_of_ble_eq_true rfl, Nat.le_of_ble_eq_true rfl⟩ ⟨rfl, rfl⟩ hl.1 rfl (Nat.le_of_ble_eq_true rfl) dX11_offer_64 ⟨Nat.le_of_ble_eq_true rfl, Nat.le_of_ble_eq_true rfl⟩ (fun v46 f47 H locs q48 hW => ?_)
        obtain ⟨⟨x53, rfl, p54⟩, g49, h50, h51, h52⟩ := q48
        rw [m37] at p54
        have hF := FM.tr hF g49 rfl
        have z56 : WU kp L [N05, N054, N055] f0 f47 := wu_call z26 h52 (by rw [((fm_R g23 rN05 rfl).trans ((fm_R g4 rN05 rfl).trans mN054)), ((fm_R g23 rN05 rfl).trans ((fm_R g4 rN05 rfl).trans mN055))]; intro q h; simp only [List.mem_cons, List.not_mem_nil, or_false] at h ⊢; omega)
        obtain ⟨y57, m58⟩ : ∃ x : Int32, oI (f47 N05) 3 = x := ⟨_, rfl⟩
        rw [m58, m37] at h50
        have z59 : L8 f47 N05 = addO (L8 f0 N05) u1.toInt u2.toInt := (h51 (by rw [m37]; omega)).trans (by rw [m27])
        have hW0 := hW.2.2.2
        refine t_callV (As := [.int x53]) (rest := []) E hW (c_X11_accept_x l G cI cJ cZ cD cR cT kp L f47 hW.2.2.2 _ h0 x53 rh0) rh0 (by decide) rfl wk_X11_accept tw_611 rfl ⟨Nat.le_of_ble_eq_true rfl, Nat.le_of_ble_eq_true rfl⟩ ⟨rfl, rfl⟩ hl.1 rfl (Nat.le_of_ble_eq_true rfl) dX11_offer_67 ⟨Nat.le_of_ble_eq_true rfl, Nat.le_of_ble_eq_true rfl⟩ (fun v60 f61 H locs q62 hW => ?_)
        obtain ⟨⟨x64, rfl, p65⟩, g63⟩ := q62
        have m67 : L8 f61 N05 = addO (L8 f0 N05) u1.toInt u2.toInt := (l8_fm hW0 rN05 g63 rfl).trans z59
        have z66 : WU kp L [N05, N054, N055] f0 f61 := wu_fm z56 g63 rfl
        have hF := FM.tr hF g63 rfl
        exact e_I E hW rfl ⟨⟨_, rfl, (by rw [mN0, mN05]; have e : (L8 f0 N05).1 = vc.toInt := congrArg Int32.toInt mvc; first | exact sOffer_1 (by omega) (by omega) m67 | exact sOffer_2 e (by omega) (by omega) (by omega) m67 | exact sOffer_3 e (by omega) (by omega) (by omega) m67)⟩, hF, (by rw [mN0, mN05, mN054, mN055]; exact z66)⟩ dX11_offer_70
      · refine lv_aload_n hx hb dX11_offer_47 rfl (lv_at hl 0 rfl) ?_
        refine lv_bipush (v := (-5)) hx hb dX11_offer_48 (by decide) ?_
        have hW0 := hW.2.2.2
        refine t_callV (As := [.int (-5)]) (rest := []) E hW (c_X11_refuse_x l G cI cJ cZ cD cR cT kp L f21 hW.2.2.2 _ h0 (-5) rh0 (by decide)) rh0 (by decide) rfl wk_X11_refuse tw_603 rfl ⟨Nat.le_of_ble_eq_true rfl, Nat.le_of_ble_eq_true rfl⟩ ⟨rfl, rfl⟩ hl.1 rfl (Nat.le_of_ble_eq_true rfl) dX11_offer_50 ⟨Nat.le_of_ble_eq_true rfl, Nat.le_of_ble_eq_true rfl⟩ (fun v68 f69 H locs q70 hW => ?_)
        obtain ⟨⟨x72, rfl, p73⟩, g71⟩ := q70
        have p73 : x72.toInt = (-5 : Int) := p73
        have m75 : L8 f69 N05 = L8 f0 N05 := (l8_fm hW0 rN05 g71 rfl).trans m27
        have z74 : WU kp L [N05, N054, N055] f0 f69 := wu_fm z26 g71 rfl
        have hF := FM.tr hF g71 rfl
        exact e_I E hW rfl ⟨⟨_, rfl, (by rw [mN0, mN05]; have e : (L8 f0 N05).1 = vc.toInt := congrArg Int32.toInt mvc; first | exact sOffer_1 (by omega) (by omega) m75 | exact sOffer_2 e (by omega) (by omega) (by omega) m75 | exact sOffer_3 e (by omega) (by omega) (by omega) m75)⟩, hF, (by rw [mN0, mN05, mN054, mN055]; exact z74)⟩ dX11_offer_53
    · have q76 : (u2.toInt < (-1000 : Int) ∨ (1000 : Int) < u2.toInt) := by omega
      clear p25
      refine lv_aload_n hx hb dX11_offer_26 rfl (lv_at hl 0 rfl) ?_
      refine lv_iconst (v := (-1)) hx hb dX11_offer_27 (by decide) ?_
      have hW0 := hW.2.2.2
      refine t_callV (As := [.int (-1)]) (rest := []) E hW (c_X11_refuse_x l G cI cJ cZ cD cR cT kp L f21 hW.2.2.2 _ h0 (-1) rh0 (by decide)) rh0 (by decide) rfl wk_X11_refuse tw_603 rfl ⟨Nat.le_of_ble_eq_true rfl, Nat.le_of_ble_eq_true rfl⟩ ⟨rfl, rfl⟩ hl.1 rfl (Nat.le_of_ble_eq_true rfl) dX11_offer_28 ⟨Nat.le_of_ble_eq_true rfl, Nat.le_of_ble_eq_true rfl⟩ (fun v77 f78 H locs q79 hW => ?_)
      obtain ⟨⟨x81, rfl, p82⟩, g80⟩ := q79
      have p82 : x81.toInt = (-1 : Int) := p82
      have m84 : L8 f78 N05 = L8 f0 N05 := (l8_fm hW0 rN05 g80 rfl).trans m27
      have z83 : WU kp L [N05, N054, N055] f0 f78 := wu_fm z26 g80 rfl
      have hF := FM.tr hF g80 rfl
      exact e_I E hW rfl ⟨⟨_, rfl, (by rw [mN0, mN05]; have e : (L8 f0 N05).1 = vc.toInt := congrArg Int32.toInt mvc; first | exact sOffer_1 (by omega) (by omega) m84 | exact sOffer_2 e (by omega) (by omega) (by omega) m84 | exact sOffer_3 e (by omega) (by omega) (by omega) m84)⟩, hF, (by rw [mN0, mN05, mN054, mN055]; exact z83)⟩ dX11_offer_31
def ms_X11_brave_u : List (Nat × Nat) := [(3, 1), (11, 15)]
def po_X11_brave_u (kp : Nat → Nat) (L : List Nat) (f0 : Nat → va_E) (h0 : Nat) (u1 : Int32) : Option Value → (Nat → va_E) → Prop := fun v f => (∃ r : Int32, v = some (.int r) ∧ ((r.toInt, L8 f (oR (f0 (oR (f0 h0) 0)) 5)) = sBrave (L8 f0 (oR (f0 (oR (f0 h0) 0)) 5)) u1.toInt)) ∧ FM kp L ms_X11_brave_u f0 f ∧ (WU kp L [(oR (f0 (oR (f0 h0) 0)) 5), (oR (f0 (oR (f0 (oR (f0 h0) 0)) 5)) 4), (oR (f0 (oR (f0 (oR (f0 h0) 0)) 5)) 5)] f0 f)
set_option maxHeartbeats 4000000 in
set_option maxRecDepth 100000 in
theorem c_X11_brave_u (l : Launch) (G : va_G) (cI cJ cZ cD cR cT : ClassId) (kp : Nat → Nat) (L : List Nat) (f0 : Nat → va_E) (hTH : TH cI cJ cZ cD cR cT kp L f0) (sz : Nat) (h0 : Nat) (u1 : Int32) (rh0 : RK kp L h0 11) : Met l yX11_brave (Cond.code yX11_brave cX11_brave 3 (some .int) :: wTab) ({ frames := 2, cells := 0, slots := 0, locals := 62 }) (va_Pc [.ref h0, .int u1] (PreW G (tys6 cI cJ cZ cD cR cT) (va_pl L f0) sz)) (QT (po_X11_brave_u kp L f0 h0 u1) G cI cJ cZ cD cR cT (va_A (va_pl L f0) sz) kp L) 0 0 (va_A (va_pl L f0) sz) := by
  refine metT (by decide) (Nat.le_of_ble_eq_true rfl) hTH ?_
  intro p e s m below meth c A ls E hW hl
  obtain ⟨hx, hb, -, hml, hown, hts, -, -, -⟩ := id E
  have hF : FM kp L ms_X11_brave_u f0 f0 := FM.rf
  have hl : lv_has ls 3 [(0, .ref h0), (1, .int u1)] := hl
  obtain ⟨N0, mN0⟩ : ∃ x : Nat, oR (f0 h0) 0 = x := ⟨_, rfl⟩
  have rN0 : RK kp L N0 0 := by rw [← mN0]; exact th_ref hTH rh0 (by decide) (by decide) rfl
  obtain ⟨N05, mN05⟩ : ∃ x : Nat, oR (f0 N0) 5 = x := ⟨_, rfl⟩
  have rN05 : RK kp L N05 3 := by rw [← mN05]; exact th_ref hTH rN0 (by decide) (by decide) rfl
  obtain ⟨N054, mN054⟩ : ∃ x : Nat, oR (f0 N05) 4 = x := ⟨_, rfl⟩
  have rN054 : RK kp L N054 284 := by rw [← mN054]; exact th_ref hTH rN05 (by decide) (by decide) rfl
  obtain ⟨N055, mN055⟩ : ∃ x : Nat, oR (f0 N05) 5 = x := ⟨_, rfl⟩
  have rN055 : RK kp L N055 285 := by rw [← mN055]; exact th_ref hTH rN05 (by decide) (by decide) rfl
  obtain ⟨vb, mvb⟩ : ∃ x : Int32, oI (f0 N05) 1 = x := ⟨_, rfl⟩
  refine lv_iload_n hx hb dX11_brave_0 rfl (lv_at hl 1 rfl) ?_
  refine lv_iconst (v := 0) hx hb dX11_brave_1 (by decide) ?_
  refine lv_bipush (v := 101) hx hb dX11_brave_2 (by decide) ?_
  have hW0 := hW.2.2.2
  refine t_callS (As := [.int u1, .int 0, .int 101]) (rest := []) E hW (c_X11_within l G cI cJ cZ cD cR cT kp L f0 hW.2.2.2 _ u1 0 101 (by decide)) wk_X11_within tw_599 rfl ⟨Nat.le_of_ble_eq_true rfl, Nat.le_of_ble_eq_true rfl⟩ ⟨rfl, rfl⟩ hl.1 rfl (Nat.le_of_ble_eq_true rfl) dX11_brave_4 ⟨Nat.le_of_ble_eq_true rfl, Nat.le_of_ble_eq_true rfl⟩ (fun v1 f2 H locs q3 hW => ?_)
  obtain ⟨⟨x5, rfl, p6⟩, g4⟩ := q3
  have p6 : (x5.toInt = 1 ∧ (0 : Int) ≤ u1.toInt ∧ u1.toInt ≤ (101 : Int)) ∨ (x5.toInt = 0 ∧ (u1.toInt < (0 : Int) ∨ (101 : Int) < u1.toInt)) := p6
  have m8 : L8 f2 N05 = L8 f0 N05 := (l8_fm hW0 rN05 g4 rfl).trans (rfl : L8 f0 N05 = L8 f0 N05)
  have z7 : WU kp L [N05, N054, N055] f0 f2 := wu_fm (wu_rf : WU kp L [N05, N054, N055] f0 f0) g4 rfl
  have hF := FM.tr hF g4 rfl
  refine q_if_ne (tgt := 16) hx hb dX11_brave_7 (by decide) rfl (fun c9 => ?_) (fun c9 => ?_)
  · have q10 : (0 : Int) ≤ u1.toInt ∧ u1.toInt ≤ (101 : Int) := by omega
    clear p6
    refine lv_aload_n hx hb dX11_brave_16 rfl (lv_at hl 0 rfl) ?_
    refine fg_RX11_12 E hW rh0 dX11_brave_17 (fun a11 m12 r13 => ?_)
    obtain rfl : N0 = a11 := (((fm_R g4 rh0 rfl).trans mN0)).symm.trans m12
    refine fg_RX11_98 E hW rN0 dX11_brave_20 (fun a14 m15 r16 => ?_)
    obtain rfl : N05 = a14 := (((fm_R g4 rN0 rfl).trans mN05)).symm.trans m15
    refine fg_RX11_282 E hW rN05 dX11_brave_23 (fun y17 m18 => ?_)
    obtain rfl : vb = y17 := (((fm_I g4 rN05 rfl).trans mvb)).symm.trans m18
    refine lv_istore_n (lv' := [(2, .int vb), (0, .ref h0), (1, .int u1)]) hx hb dX11_brave_26 rfl hl (by decide) rfl (fun ls hl => ?_)
    refine lv_aload_n hx hb dX11_brave_27 rfl (lv_at hl 1 rfl) ?_
    refine fg_RX11_12 E hW rh0 dX11_brave_28 (fun a20 m21 r22 => ?_)
    obtain rfl : N0 = a20 := (m12).symm.trans m21
    refine fg_RX11_98 E hW rN0 dX11_brave_31 (fun a23 m24 r25 => ?_)
    obtain rfl : N05 = a23 := (m15).symm.trans m24
    refine lv_iload_n hx hb dX11_brave_34 rfl (lv_at hl 2 rfl) ?_
    have hW0 := hW.2.2.2
    refine fp_RX11_282 E hW rN05 dX11_brave_35 (fun f26 H locs e27 n28 g29 hW => ?_)
    have z30 : WU kp L [N05, N054, N055] f0 f26 := wu_put z7 n28 (by simp)
    have hF := FM.tr hF g29 rfl
    refine lv_aload_n hx hb dX11_brave_38 rfl (lv_at hl 1 rfl) ?_
    refine lv_iload_n hx hb dX11_brave_39 rfl (lv_at hl 0 rfl) ?_
    have hW0 := hW.2.2.2
    refine t_callV (As := [.int vb]) (rest := []) E hW (c_X11_accept_x l G cI cJ cZ cD cR cT kp L f26 hW.2.2.2 _ h0 vb rh0) rh0 (by decide) rfl wk_X11_accept tw_611 rfl ⟨Nat.le_of_ble_eq_true rfl, Nat.le_of_ble_eq_true rfl⟩ ⟨rfl, rfl⟩ hl.1 rfl (Nat.le_of_ble_eq_true rfl) dX11_brave_40 ⟨Nat.le_of_ble_eq_true rfl, Nat.le_of_ble_eq_true rfl⟩ (fun v31 f32 H locs q33 hW => ?_)
    obtain ⟨⟨x35, rfl, p36⟩, g34⟩ := q33
    have z37 : WU kp L [N05, N054, N055] f0 f32 := wu_fm z30 g34 rfl
    have hF := FM.tr hF g34 rfl
    exact e_I E hW rfl ⟨⟨_, rfl, (by rw [mN0, mN05]; have e : (L8 f0 N05).2.1 = vb.toInt := congrArg Int32.toInt mvb; first | exact sBrave_1 (by omega) (by omega) (l8_brave hTH rN05 hF rfl ((fm_I g34 rN05 rfl).trans e27)) | exact sBrave_2 e (by omega) (by omega) (l8_brave hTH rN05 hF rfl ((fm_I g34 rN05 rfl).trans e27)))⟩, hF, (by rw [mN0, mN05, mN054, mN055]; exact z37)⟩ dX11_brave_43
  · have q38 : (u1.toInt < (0 : Int) ∨ (101 : Int) < u1.toInt) := by omega
    clear p6
    refine lv_aload_n hx hb dX11_brave_10 rfl (lv_at hl 0 rfl) ?_
    refine lv_iconst (v := (-1)) hx hb dX11_brave_11 (by decide) ?_
    have hW0 := hW.2.2.2
    refine t_callV (As := [.int (-1)]) (rest := []) E hW (c_X11_refuse_x l G cI cJ cZ cD cR cT kp L f2 hW.2.2.2 _ h0 (-1) rh0 (by decide)) rh0 (by decide) rfl wk_X11_refuse tw_603 rfl ⟨Nat.le_of_ble_eq_true rfl, Nat.le_of_ble_eq_true rfl⟩ ⟨rfl, rfl⟩ hl.1 rfl (Nat.le_of_ble_eq_true rfl) dX11_brave_12 ⟨Nat.le_of_ble_eq_true rfl, Nat.le_of_ble_eq_true rfl⟩ (fun v39 f40 H locs q41 hW => ?_)
    obtain ⟨⟨x43, rfl, p44⟩, g42⟩ := q41
    have p44 : x43.toInt = (-1 : Int) := p44
    have m46 : L8 f40 N05 = L8 f0 N05 := (l8_fm hW0 rN05 g42 rfl).trans m8
    have z45 : WU kp L [N05, N054, N055] f0 f40 := wu_fm z7 g42 rfl
    have hF := FM.tr hF g42 rfl
    exact e_I E hW rfl ⟨⟨_, rfl, (by rw [mN0, mN05]; have e : (L8 f0 N05).2.1 = vb.toInt := congrArg Int32.toInt mvb; first | exact sBrave_1 (by omega) (by omega) m46 | exact sBrave_2 e (by omega) (by omega) m46)⟩, hF, (by rw [mN0, mN05, mN054, mN055]; exact z45)⟩ dX11_brave_15
def ms_X0_putOut_u : List (Nat × Nat) := [(0, 12), (164, 0), (166, 0), (167, 0), (346, 0), (347, 0)]
def po_X0_putOut_u (kp : Nat → Nat) (L : List Nat) (f0 : Nat → va_E) (h0 : Nat) (u1 : Int32) (u2 : Int32) : Option Value → (Nat → va_E) → Prop := fun v f => v = none ∧ FM kp L ms_X0_putOut_u f0 f ∧ (WU kp L [] f0 f)
set_option maxHeartbeats 4000000 in
set_option maxRecDepth 100000 in
theorem c_X0_putOut_u (l : Launch) (G : va_G) (cI cJ cZ cD cR cT : ClassId) (kp : Nat → Nat) (L : List Nat) (f0 : Nat → va_E) (hTH : TH cI cJ cZ cD cR cT kp L f0) (sz : Nat) (h0 : Nat) (u1 : Int32) (u2 : Int32) (rh0 : RK kp L h0 0) (pu1 : (0 : Int) ≤ u1.toInt ∧ u1.toInt ≤ 39) (pu2 : (0 : Int) ≤ u2.toInt ∧ u2.toInt ≤ 39) : Met l yX0_putOut (Cond.code yX0_putOut cX0_putOut 3 none :: wTab) ({ frames := 2, cells := 0, slots := 0, locals := 62 }) (va_Pc [.ref h0, .int u1, .int u2] (PreW G (tys6 cI cJ cZ cD cR cT) (va_pl L f0) sz)) (QT (po_X0_putOut_u kp L f0 h0 u1 u2) G cI cJ cZ cD cR cT (va_A (va_pl L f0) sz) kp L) 0 0 (va_A (va_pl L f0) sz) := by
  refine metT (by decide) (Nat.le_of_ble_eq_true rfl) hTH ?_
  intro p e s m below meth c A ls E hW hl
  obtain ⟨hx, hb, -, hml, hown, hts, -, -, -⟩ := id E
  have hF : FM kp L ms_X0_putOut_u f0 f0 := FM.rf
  have hl : lv_has ls 3 [(0, .ref h0), (1, .int u1), (2, .int u2)] := hl
  refine lv_aload_n hx hb dX0_putOut_0 rfl (lv_at hl 0 rfl) ?_
  refine lv_dup hx hb dX0_putOut_1 rfl ?_
  refine fg_RX0_100 E hW rh0 dX0_putOut_2 (fun y1 m2 => ?_)
  refine lv_iconst (v := 1) hx hb dX0_putOut_5 (by decide) ?_
  refine u_iadd hx hb dX0_putOut_6 (fun x4 => ?_)
  have hW0 := hW.2.2.2
  refine fp_RX0_100 E hW rh0 dX0_putOut_7 (fun f5 H locs e6 n7 g8 hW => ?_)
  have z9 : WU kp L [] f0 f5 := wu_fm (wu_rf : WU kp L [] f0 f0) g8 rfl
  have hF := FM.tr hF g8 rfl
  refine lv_aload_n hx hb dX0_putOut_10 rfl (lv_at hl 0 rfl) ?_
  refine fg_RX0_21 E hW rh0 dX0_putOut_11 (fun a10 m11 r12 => ?_)
  refine fg_RX0_124 E hW r12 dX0_putOut_14 (fun a13 m14 r15 => ?_)
  refine lv_iload_n hx hb dX0_putOut_17 rfl (lv_at hl 1 rfl) ?_
  refine lv_iconst (v := (-1)) hx hb dX0_putOut_18 (by decide) ?_
  have hW0 := hW.2.2.2
  refine gs_164 E hW r15 ⟨by omega, by omega⟩ (by decide) dX0_putOut_19 (fun f16 H locs e17 n18 g19 hW => ?_)
  have z20 : WU kp L [] f0 f16 := wu_fm z9 g19 rfl
  have hF := FM.tr hF g19 rfl
  refine lv_aload_n hx hb dX0_putOut_20 rfl (lv_at hl 0 rfl) ?_
  refine fg_RX0_21 E hW rh0 dX0_putOut_21 (fun a21 m22 r23 => ?_)
  obtain rfl : a10 = a21 := (((fm_R g19 rh0 rfl).trans m11)).symm.trans m22
  refine fg_RX0_127 E hW r12 dX0_putOut_24 (fun a24 m25 r26 => ?_)
  refine lv_iload_n hx hb dX0_putOut_27 rfl (lv_at hl 1 rfl) ?_
  refine lv_iconst (v := 0) hx hb dX0_putOut_28 (by decide) ?_
  have hW0 := hW.2.2.2
  refine gs_166 E hW r26 ⟨by omega, by omega⟩ dX0_putOut_29 (fun f27 H locs e28 n29 g30 hW => ?_)
  have z31 : WU kp L [] f0 f27 := wu_fm z20 g30 rfl
  have hF := FM.tr hF g30 rfl
  refine lv_aload_n hx hb dX0_putOut_30 rfl (lv_at hl 0 rfl) ?_
  refine fg_RX0_21 E hW rh0 dX0_putOut_31 (fun a32 m33 r34 => ?_)
  obtain rfl : a10 = a32 := (((fm_R g30 rh0 rfl).trans m22)).symm.trans m33
  refine fg_RX0_256 E hW r12 dX0_putOut_34 (fun a35 m36 r37 => ?_)
  refine lv_iload_n hx hb dX0_putOut_37 rfl (lv_at hl 1 rfl) ?_
  refine lv_iconst (v := 1) hx hb dX0_putOut_38 (by decide) ?_
  have hW0 := hW.2.2.2
  refine gs_167 E hW r37 ⟨by omega, by omega⟩ dX0_putOut_39 (fun f38 H locs e39 n40 g41 hW => ?_)
  have m42 : aI (f38 a13) (u1 : Int32).toNatClampNeg = (-1) := ((congrArg (fun z => aI z (u1 : Int32).toNatClampNeg) (fm_A g41 r15 (by decide) rfl)).trans ((congrArg (fun z => aI z (u1 : Int32).toNatClampNeg) (fm_A g30 r15 (by decide) rfl)).trans (show aI (f16 a13) (u1 : Int32).toNatClampNeg = (-1) from by rw [e17]; exact up_s)))
  have z43 : WU kp L [] f0 f38 := wu_fm z31 g41 rfl
  have hF := FM.tr hF g41 rfl
  refine lv_aload_n hx hb dX0_putOut_40 rfl (lv_at hl 0 rfl) ?_
  refine fg_RX0_12 E hW rh0 dX0_putOut_41 (fun a44 m45 r46 => ?_)
  refine fg_RX0_182 E hW r46 dX0_putOut_44 (fun a47 m48 r49 => ?_)
  refine lv_iload_n hx hb dX0_putOut_47 rfl (lv_at hl 2 rfl) ?_
  refine gl_346 E hW r49 ⟨by omega, by omega⟩ dX0_putOut_48 (fun y50 m51 => ?_)
  refine q_if_ne (tgt := 86) hx hb dX0_putOut_49 (by decide) rfl (fun c53 => ?_) (fun c53 => ?_)
  · exact e_V E hW rfl ⟨rfl, hF, z43⟩ dX0_putOut_86
  · refine lv_aload_n hx hb dX0_putOut_52 rfl (lv_at hl 0 rfl) ?_
    refine fg_RX0_21 E hW rh0 dX0_putOut_53 (fun a54 m55 r56 => ?_)
    obtain rfl : a10 = a54 := (((fm_R g41 rh0 rfl).trans m33)).symm.trans m55
    refine lv_iload_n hx hb dX0_putOut_56 rfl (lv_at hl 2 rfl) ?_
    have hW0 := hW.2.2.2
    refine t_callV (As := [.int u2]) (rest := []) E hW (c_X1_isHeldBy l G cI cJ cZ cD cR cT kp L f38 hW.2.2.2 _ a10 u2 r12 (by omega)) r12 (by decide) rfl wk_X1_isHeldBy tw_728 rfl ⟨Nat.le_of_ble_eq_true rfl, Nat.le_of_ble_eq_true rfl⟩ ⟨rfl, rfl⟩ hl.1 rfl (Nat.le_of_ble_eq_true rfl) dX0_putOut_57 ⟨Nat.le_of_ble_eq_true rfl, Nat.le_of_ble_eq_true rfl⟩ (fun v57 f58 H locs q59 hW => ?_)
    obtain ⟨⟨x61, rfl, p62⟩, g60⟩ := q59
    have m63 : aI (f58 a24) (u1 : Int32).toNatClampNeg = 0 := ((congrArg (fun z => aI z (u1 : Int32).toNatClampNeg) (fm_A g60 r26 (by decide) rfl)).trans ((congrArg (fun z => aI z (u1 : Int32).toNatClampNeg) (fm_A g41 r26 (by decide) rfl)).trans (show aI (f27 a24) (u1 : Int32).toNatClampNeg = 0 from by rw [e28]; exact up_s)))
    have z64 : WU kp L [] f0 f58 := wu_fm z43 g60 rfl
    have hF := FM.tr hF g60 rfl
    refine q_if_ne (tgt := 86) hx hb dX0_putOut_60 (by decide) rfl (fun c65 => ?_) (fun c65 => ?_)
    · exact e_V E hW rfl ⟨rfl, hF, z64⟩ dX0_putOut_86
    · refine lv_aload_n hx hb dX0_putOut_63 rfl (lv_at hl 0 rfl) ?_
      refine fg_RX0_12 E hW rh0 dX0_putOut_64 (fun a66 m67 r68 => ?_)
      obtain rfl : a44 = a66 := (((fm_R g60 rh0 rfl).trans m45)).symm.trans m67
      refine fg_RX0_182 E hW r46 dX0_putOut_67 (fun a69 m70 r71 => ?_)
      obtain rfl : a47 = a69 := (((fm_R g60 r46 rfl).trans m48)).symm.trans m70
      refine lv_iload_n hx hb dX0_putOut_70 rfl (lv_at hl 2 rfl) ?_
      refine lv_iconst (v := 1) hx hb dX0_putOut_71 (by decide) ?_
      have hW0 := hW.2.2.2
      refine gs_346 E hW r49 ⟨by omega, by omega⟩ dX0_putOut_72 (fun f72 H locs e73 n74 g75 hW => ?_)
      have m76 : aI (f72 a13) (u1 : Int32).toNatClampNeg = (-1) := ((congrArg (fun z => aI z (u1 : Int32).toNatClampNeg) (fm_A g75 r15 (by decide) rfl)).trans ((congrArg (fun z => aI z (u1 : Int32).toNatClampNeg) (fm_A g60 r15 (by decide) rfl)).trans m42))
      have m77 : aI (f72 a35) (u1 : Int32).toNatClampNeg = 1 := ((congrArg (fun z => aI z (u1 : Int32).toNatClampNeg) (fm_A g75 r37 (by decide) rfl)).trans ((congrArg (fun z => aI z (u1 : Int32).toNatClampNeg) (fm_A g60 r37 (by decide) rfl)).trans (show aI (f38 a35) (u1 : Int32).toNatClampNeg = 1 from by rw [e39]; exact up_s)))
      have hk79 : (1 : Int32).toInt = 1 := rfl
      have z78 : WU kp L [] f0 f72 := wu_dead z64 r49 n74 e73 (by rw [((congrArg (fun z => aI z (u2 : Int32).toNatClampNeg) (fm_A g60 r49 (by decide) rfl)).trans m51)]; omega)
      have hF := FM.tr hF g75 rfl
      refine lv_aload_n hx hb dX0_putOut_73 rfl (lv_at hl 0 rfl) ?_
      refine fg_RX0_12 E hW rh0 dX0_putOut_74 (fun a80 m81 r82 => ?_)
      obtain rfl : a44 = a80 := (((fm_R g75 rh0 rfl).trans m67)).symm.trans m81
      refine fg_RX0_130 E hW r46 dX0_putOut_77 (fun a83 m84 r85 => ?_)
      refine lv_iload_n hx hb dX0_putOut_80 rfl (lv_at hl 2 rfl) ?_
      refine lv_aload_n hx hb dX0_putOut_81 rfl (lv_at hl 0 rfl) ?_
      refine fg_RX0_93 E hW rh0 dX0_putOut_82 (fun y86 m87 b88 => ?_)
      have hW0 := hW.2.2.2
      refine gs_347 E hW r85 ⟨by omega, by omega⟩ dX0_putOut_85 (fun f89 H locs e90 n91 g92 hW => ?_)
      have m93 : aI (f89 a24) (u1 : Int32).toNatClampNeg = 0 := ((congrArg (fun z => aI z (u1 : Int32).toNatClampNeg) (fm_A g92 r26 (by decide) rfl)).trans ((congrArg (fun z => aI z (u1 : Int32).toNatClampNeg) (fm_A g75 r26 (by decide) rfl)).trans m63))
      have z94 : WU kp L [] f0 f89 := wu_fm z78 g92 rfl
      have hF := FM.tr hF g92 rfl
      exact e_V E hW rfl ⟨rfl, hF, z94⟩ dX0_putOut_86
def ms_X0_advanceWrit_u : List (Nat × Nat) := [(0, 12), (164, 0), (166, 0), (167, 0), (346, 0), (347, 0), (703, 0), (704, 0), (706, 0)]
def po_X0_advanceWrit_u (kp : Nat → Nat) (L : List Nat) (f0 : Nat → va_E) (h0 : Nat) (u1 : Int32) : Option Value → (Nat → va_E) → Prop := fun v f => v = none ∧ FM kp L ms_X0_advanceWrit_u f0 f ∧ (WU kp L [] f0 f)
set_option maxHeartbeats 4000000 in
set_option maxRecDepth 100000 in
theorem c_X0_advanceWrit_u (l : Launch) (G : va_G) (cI cJ cZ cD cR cT : ClassId) (kp : Nat → Nat) (L : List Nat) (f0 : Nat → va_E) (hTH : TH cI cJ cZ cD cR cT kp L f0) (sz : Nat) (h0 : Nat) (u1 : Int32) (rh0 : RK kp L h0 0) (pu1 : (0 : Int) ≤ u1.toInt ∧ u1.toInt ≤ 59) : Met l yX0_advanceWrit (Cond.code yX0_advanceWrit cX0_advanceWrit 3 none :: wTab) ({ frames := 3, cells := 0, slots := 0, locals := 87 }) (va_Pc [.ref h0, .int u1] (PreW G (tys6 cI cJ cZ cD cR cT) (va_pl L f0) sz)) (QT (po_X0_advanceWrit_u kp L f0 h0 u1) G cI cJ cZ cD cR cT (va_A (va_pl L f0) sz) kp L) 0 0 (va_A (va_pl L f0) sz) := by
  refine metT (by decide) (Nat.le_of_ble_eq_true rfl) hTH ?_
  intro p e s m below meth c A ls E hW hl
  obtain ⟨hx, hb, -, hml, hown, hts, -, -, -⟩ := id E
  have hF : FM kp L ms_X0_advanceWrit_u f0 f0 := FM.rf
  have hl : lv_has ls 3 [(0, .ref h0), (1, .int u1)] := hl
  refine lv_aload_n hx hb dX0_advanceWrit_0 rfl (lv_at hl 0 rfl) ?_
  refine fg_RX0_28 E hW rh0 dX0_advanceWrit_1 (fun a1 m2 r3 => ?_)
  refine fg_RX0_235 E hW r3 dX0_advanceWrit_4 (fun a4 m5 r6 => ?_)
  refine lv_iload_n hx hb dX0_advanceWrit_7 rfl (lv_at hl 1 rfl) ?_
  refine gl_701 E hW r6 ⟨by omega, by omega⟩ dX0_advanceWrit_8 (fun y7 m8 b9 => ?_)
  refine lv_istore_n (lv' := [(2, .int y7), (0, .ref h0), (1, .int u1)]) hx hb dX0_advanceWrit_9 rfl hl (by decide) rfl (fun ls hl => ?_)
  refine lv_aload_n hx hb dX0_advanceWrit_10 rfl (lv_at hl 1 rfl) ?_
  refine fg_RX0_21 E hW rh0 dX0_advanceWrit_11 (fun a10 m11 r12 => ?_)
  refine fg_RX0_188 E hW r12 dX0_advanceWrit_14 (fun a13 m14 r15 => ?_)
  refine lv_iload_n hx hb dX0_advanceWrit_17 rfl (lv_at hl 0 rfl) ?_
  refine gl_165 E hW r15 ⟨by omega, by omega⟩ dX0_advanceWrit_18 (fun y16 m17 => ?_)
  refine q_if_eq (tgt := 43) hx hb dX0_advanceWrit_19 (by decide) rfl (fun c19 => ?_) (fun c19 => ?_)
  · refine lv_aload_n hx hb dX0_advanceWrit_43 rfl (lv_at hl 1 rfl) ?_
    refine fg_RX0_28 E hW rh0 dX0_advanceWrit_44 (fun a20 m21 r22 => ?_)
    obtain rfl : a1 = a20 := (m2).symm.trans m21
    refine fg_RX0_151 E hW r3 dX0_advanceWrit_47 (fun a23 m24 r25 => ?_)
    refine lv_iload_n hx hb dX0_advanceWrit_50 rfl (lv_at hl 2 rfl) ?_
    refine lv_iconst (v := 0) hx hb dX0_advanceWrit_51 (by decide) ?_
    have hW0 := hW.2.2.2
    refine gs_706 E hW r25 ⟨by omega, by omega⟩ dX0_advanceWrit_52 (fun f26 H locs e27 n28 g29 hW => ?_)
    have z30 : WU kp L [] f0 f26 := wu_fm (wu_rf : WU kp L [] f0 f0) g29 rfl
    have hF := FM.tr hF g29 rfl
    exact e_V E hW rfl ⟨rfl, hF, z30⟩ dX0_advanceWrit_53
  · refine lv_aload_n hx hb dX0_advanceWrit_22 rfl (lv_at hl 1 rfl) ?_
    refine fg_RX0_21 E hW rh0 dX0_advanceWrit_23 (fun a31 m32 r33 => ?_)
    obtain rfl : a10 = a31 := (m11).symm.trans m32
    refine fg_RX0_124 E hW r12 dX0_advanceWrit_26 (fun a34 m35 r36 => ?_)
    refine lv_iload_n hx hb dX0_advanceWrit_29 rfl (lv_at hl 0 rfl) ?_
    refine gl_164 E hW r36 ⟨by omega, by omega⟩ dX0_advanceWrit_30 (fun y37 m38 b39 => ?_)
    refine lv_aload_n hx hb dX0_advanceWrit_31 rfl (lv_at hl 1 rfl) ?_
    refine fg_RX0_28 E hW rh0 dX0_advanceWrit_32 (fun a40 m41 r42 => ?_)
    obtain rfl : a1 = a40 := (m2).symm.trans m41
    refine fg_RX0_238 E hW r3 dX0_advanceWrit_35 (fun a43 m44 r45 => ?_)
    refine lv_iload_n hx hb dX0_advanceWrit_38 rfl (lv_at hl 2 rfl) ?_
    refine gl_702 E hW r45 ⟨by omega, by omega⟩ dX0_advanceWrit_39 (fun y46 m47 b48 => ?_)
    refine q_icmp_eq (tgt := 54) hx hb dX0_advanceWrit_40 (by decide) rfl rfl (fun c49 => ?_) (fun c49 => ?_)
    · refine lv_aload_n hx hb dX0_advanceWrit_54 rfl (lv_at hl 1 rfl) ?_
      refine fg_RX0_28 E hW rh0 dX0_advanceWrit_55 (fun a50 m51 r52 => ?_)
      obtain rfl : a1 = a50 := (m41).symm.trans m51
      refine fg_RX0_239 E hW r3 dX0_advanceWrit_58 (fun a53 m54 r55 => ?_)
      refine lv_iload_n hx hb dX0_advanceWrit_61 rfl (lv_at hl 2 rfl) ?_
      refine gl_705 E hW r55 ⟨by omega, by omega⟩ dX0_advanceWrit_62 (fun y56 m57 => ?_)
      refine lv_aload_n hx hb dX0_advanceWrit_63 rfl (lv_at hl 1 rfl) ?_
      refine fg_RX0_93 E hW rh0 dX0_advanceWrit_64 (fun y59 m60 b61 => ?_)
      refine q_icmp_eq (tgt := 85) hx hb dX0_advanceWrit_67 (by decide) rfl rfl (fun c62 => ?_) (fun c62 => ?_)
      · exact e_V E hW rfl ⟨rfl, hF, (wu_rf : WU kp L [] f0 f0)⟩ dX0_advanceWrit_85
      · refine lv_aload_n hx hb dX0_advanceWrit_70 rfl (lv_at hl 1 rfl) ?_
        refine fg_RX0_28 E hW rh0 dX0_advanceWrit_71 (fun a63 m64 r65 => ?_)
        obtain rfl : a1 = a63 := (m51).symm.trans m64
        refine lv_iload_n hx hb dX0_advanceWrit_74 rfl (lv_at hl 0 rfl) ?_
        refine lv_aload_n hx hb dX0_advanceWrit_75 rfl (lv_at hl 1 rfl) ?_
        refine fg_RX0_93 E hW rh0 dX0_advanceWrit_76 (fun y66 m67 b68 => ?_)
        obtain rfl : y59 = y66 := (m60).symm.trans m67
        have hW0 := hW.2.2.2
        refine t_callV (As := [.int y7, .int y59]) (rest := []) E hW (c_X10_isGuarded l G cI cJ cZ cD cR cT kp L f0 hW.2.2.2 _ a1 y7 y59 r3 (by omega) (by omega)) r3 (by decide) rfl wk_X10_isGuarded tw_1150 rfl ⟨Nat.le_of_ble_eq_true rfl, Nat.le_of_ble_eq_true rfl⟩ ⟨rfl, rfl⟩ hl.1 rfl (Nat.le_of_ble_eq_true rfl) dX0_advanceWrit_79 ⟨Nat.le_of_ble_eq_true rfl, Nat.le_of_ble_eq_true rfl⟩ (fun v69 f70 H locs q71 hW => ?_)
        obtain ⟨⟨x73, rfl, p74⟩, g72⟩ := q71
        have z75 : WU kp L [] f0 f70 := wu_fm (wu_rf : WU kp L [] f0 f0) g72 rfl
        have hF := FM.tr hF g72 rfl
        refine q_if_eq (tgt := 86) hx hb dX0_advanceWrit_82 (by decide) rfl (fun c76 => ?_) (fun c76 => ?_)
        · refine lv_aload_n hx hb dX0_advanceWrit_86 rfl (lv_at hl 1 rfl) ?_
          refine fg_RX0_28 E hW rh0 dX0_advanceWrit_87 (fun a77 m78 r79 => ?_)
          obtain rfl : a1 = a77 := (((fm_R g72 rh0 rfl).trans m64)).symm.trans m78
          refine fg_RX0_246 E hW r3 dX0_advanceWrit_90 (fun a80 m81 r82 => ?_)
          refine lv_iload_n hx hb dX0_advanceWrit_93 rfl (lv_at hl 2 rfl) ?_
          refine lv_dup2_11 hx hb dX0_advanceWrit_94 rfl rfl ?_
          refine gl_704 E hW r82 ⟨by omega, by omega⟩ dX0_advanceWrit_95 (fun y83 m84 => ?_)
          refine lv_iconst (v := 1) hx hb dX0_advanceWrit_96 (by decide) ?_
          refine u_isub hx hb dX0_advanceWrit_97 (fun x86 => ?_)
          have hW0 := hW.2.2.2
          refine gs_704 E hW r82 ⟨by omega, by omega⟩ dX0_advanceWrit_98 (fun f87 H locs e88 n89 g90 hW => ?_)
          have m91 : aI (f87 a4) (u1 : Int32).toNatClampNeg = y7 := ((congrArg (fun z => aI z (u1 : Int32).toNatClampNeg) (fm_A g90 r6 (by decide) rfl)).trans ((congrArg (fun z => aI z (u1 : Int32).toNatClampNeg) (fm_A g72 r6 (by decide) rfl)).trans m8))
          have m92 : aI (f87 a13) (y7 : Int32).toNatClampNeg = y16 := ((congrArg (fun z => aI z (y7 : Int32).toNatClampNeg) (fm_A g90 r15 (by decide) rfl)).trans ((congrArg (fun z => aI z (y7 : Int32).toNatClampNeg) (fm_A g72 r15 (by decide) rfl)).trans m17))
          have m93 : aI (f87 a34) (y7 : Int32).toNatClampNeg = y37 := ((congrArg (fun z => aI z (y7 : Int32).toNatClampNeg) (fm_A g90 r36 (by decide) rfl)).trans ((congrArg (fun z => aI z (y7 : Int32).toNatClampNeg) (fm_A g72 r36 (by decide) rfl)).trans m38))
          have m94 : aI (f87 a43) (u1 : Int32).toNatClampNeg = y46 := ((congrArg (fun z => aI z (u1 : Int32).toNatClampNeg) (fm_A g90 r45 (by decide) rfl)).trans ((congrArg (fun z => aI z (u1 : Int32).toNatClampNeg) (fm_A g72 r45 (by decide) rfl)).trans m47))
          have m95 : aI (f87 a53) (u1 : Int32).toNatClampNeg = y56 := ((congrArg (fun z => aI z (u1 : Int32).toNatClampNeg) (fm_A g90 r55 (by decide) rfl)).trans ((congrArg (fun z => aI z (u1 : Int32).toNatClampNeg) (fm_A g72 r55 (by decide) rfl)).trans m57))
          have z96 : WU kp L [] f0 f87 := wu_fm z75 g90 rfl
          have hF := FM.tr hF g90 rfl
          refine lv_aload_n hx hb dX0_advanceWrit_99 rfl (lv_at hl 1 rfl) ?_
          refine fg_RX0_28 E hW rh0 dX0_advanceWrit_100 (fun a97 m98 r99 => ?_)
          obtain rfl : a1 = a97 := (((fm_R g90 rh0 rfl).trans m78)).symm.trans m98
          refine fg_RX0_246 E hW r3 dX0_advanceWrit_103 (fun a100 m101 r102 => ?_)
          obtain rfl : a80 = a100 := (((fm_R g90 r3 rfl).trans m81)).symm.trans m101
          refine lv_iload_n hx hb dX0_advanceWrit_106 rfl (lv_at hl 2 rfl) ?_
          refine gl_704 E hW r82 ⟨by omega, by omega⟩ dX0_advanceWrit_107 (fun y103 m104 => ?_)
          obtain rfl : x86 = y103 := ((show aI (f87 a80) (u1 : Int32).toNatClampNeg = x86 from by rw [e88]; exact up_s)).symm.trans m104
          refine q_if_le (tgt := 112) hx hb dX0_advanceWrit_108 (by decide) rfl (fun c106 => ?_) (fun c106 => ?_)
          · refine lv_aload_n hx hb dX0_advanceWrit_112 rfl (lv_at hl 1 rfl) ?_
            refine fg_RX0_28 E hW rh0 dX0_advanceWrit_113 (fun a107 m108 r109 => ?_)
            obtain rfl : a1 = a107 := (m98).symm.trans m108
            refine fg_RX0_249 E hW r3 dX0_advanceWrit_116 (fun a110 m111 r112 => ?_)
            refine lv_iload_n hx hb dX0_advanceWrit_119 rfl (lv_at hl 2 rfl) ?_
            refine lv_dup2_11 hx hb dX0_advanceWrit_120 rfl rfl ?_
            refine gl_703 E hW r112 ⟨by omega, by omega⟩ dX0_advanceWrit_121 (fun y113 m114 => ?_)
            refine lv_iconst (v := 1) hx hb dX0_advanceWrit_122 (by decide) ?_
            refine u_iadd hx hb dX0_advanceWrit_123 (fun x116 => ?_)
            have hW0 := hW.2.2.2
            refine gs_703 E hW r112 ⟨by omega, by omega⟩ dX0_advanceWrit_124 (fun f117 H locs e118 n119 g120 hW => ?_)
            have z121 : WU kp L [] f0 f117 := wu_fm z96 g120 rfl
            have hF := FM.tr hF g120 rfl
            refine lv_aload_n hx hb dX0_advanceWrit_125 rfl (lv_at hl 1 rfl) ?_
            refine fg_RX0_28 E hW rh0 dX0_advanceWrit_126 (fun a122 m123 r124 => ?_)
            obtain rfl : a1 = a122 := (((fm_R g120 rh0 rfl).trans m108)).symm.trans m123
            refine fg_RX0_249 E hW r3 dX0_advanceWrit_129 (fun a125 m126 r127 => ?_)
            obtain rfl : a110 = a125 := (((fm_R g120 r3 rfl).trans m111)).symm.trans m126
            refine lv_iload_n hx hb dX0_advanceWrit_132 rfl (lv_at hl 2 rfl) ?_
            refine gl_703 E hW r112 ⟨by omega, by omega⟩ dX0_advanceWrit_133 (fun y128 m129 => ?_)
            obtain rfl : x116 = y128 := ((show aI (f117 a110) (u1 : Int32).toNatClampNeg = x116 from by rw [e118]; exact up_s)).symm.trans m129
            refine lv_iconst (v := 3) hx hb dX0_advanceWrit_134 (by decide) ?_
            refine q_icmp_le (Y := 3) (tgt := 165) hx hb dX0_advanceWrit_135 (by decide) rfl rfl (fun c131 => ?_) (fun c131 => ?_)
            · refine lv_aload_n hx hb dX0_advanceWrit_165 rfl (lv_at hl 1 rfl) ?_
              refine fg_RX0_28 E hW rh0 dX0_advanceWrit_166 (fun a132 m133 r134 => ?_)
              obtain rfl : a1 = a132 := (m123).symm.trans m133
              refine fg_RX0_246 E hW r3 dX0_advanceWrit_169 (fun a135 m136 r137 => ?_)
              obtain rfl : a80 = a135 := (((fm_R g120 r3 rfl).trans m101)).symm.trans m136
              refine lv_iload_n hx hb dX0_advanceWrit_172 rfl (lv_at hl 2 rfl) ?_
              refine lv_aload_n hx hb dX0_advanceWrit_173 rfl (lv_at hl 1 rfl) ?_
              refine fg_RX0_42 E hW rh0 dX0_advanceWrit_174 (fun a138 m139 r140 => ?_)
              refine lv_aload_n hx hb dX0_advanceWrit_177 rfl (lv_at hl 1 rfl) ?_
              refine fg_RX0_28 E hW rh0 dX0_advanceWrit_178 (fun a141 m142 r143 => ?_)
              obtain rfl : a1 = a141 := (m133).symm.trans m142
              refine fg_RX0_249 E hW r3 dX0_advanceWrit_181 (fun a144 m145 r146 => ?_)
              obtain rfl : a110 = a144 := (m126).symm.trans m145
              refine lv_iload_n hx hb dX0_advanceWrit_184 rfl (lv_at hl 2 rfl) ?_
              refine gl_703 E hW r112 ⟨by omega, by omega⟩ dX0_advanceWrit_185 (fun y147 m148 => ?_)
              obtain rfl : x116 = y147 := (m129).symm.trans m148
              have hW0 := hW.2.2.2
              refine t_callV (As := [.int x116]) (rest := [.int u1, .ref a80]) E hW (c_X2_weeksOf l G cI cJ cZ cD cR cT kp L f117 hW.2.2.2 _ a138 x116 r140 (by omega)) r140 (by decide) rfl wk_X2_weeksOf tw_1144 rfl ⟨Nat.le_of_ble_eq_true rfl, Nat.le_of_ble_eq_true rfl⟩ ⟨rfl, rfl⟩ hl.1 rfl (Nat.le_of_ble_eq_true rfl) dX0_advanceWrit_186 ⟨Nat.le_of_ble_eq_true rfl, Nat.le_of_ble_eq_true rfl⟩ (fun v150 f151 H locs q152 hW => ?_)
              obtain ⟨⟨x154, rfl, p155⟩, g153⟩ := q152
              clear p155
              have m156 : aI (f151 a4) (u1 : Int32).toNatClampNeg = y7 := ((congrArg (fun z => aI z (u1 : Int32).toNatClampNeg) (fm_A g153 r6 (by decide) rfl)).trans ((congrArg (fun z => aI z (u1 : Int32).toNatClampNeg) (fm_A g120 r6 (by decide) rfl)).trans m91))
              have m157 : aI (f151 a13) (y7 : Int32).toNatClampNeg = y16 := ((congrArg (fun z => aI z (y7 : Int32).toNatClampNeg) (fm_A g153 r15 (by decide) rfl)).trans ((congrArg (fun z => aI z (y7 : Int32).toNatClampNeg) (fm_A g120 r15 (by decide) rfl)).trans m92))
              have m158 : aI (f151 a34) (y7 : Int32).toNatClampNeg = y37 := ((congrArg (fun z => aI z (y7 : Int32).toNatClampNeg) (fm_A g153 r36 (by decide) rfl)).trans ((congrArg (fun z => aI z (y7 : Int32).toNatClampNeg) (fm_A g120 r36 (by decide) rfl)).trans m93))
              have m159 : aI (f151 a43) (u1 : Int32).toNatClampNeg = y46 := ((congrArg (fun z => aI z (u1 : Int32).toNatClampNeg) (fm_A g153 r45 (by decide) rfl)).trans ((congrArg (fun z => aI z (u1 : Int32).toNatClampNeg) (fm_A g120 r45 (by decide) rfl)).trans m94))
              have m160 : aI (f151 a53) (u1 : Int32).toNatClampNeg = y56 := ((congrArg (fun z => aI z (u1 : Int32).toNatClampNeg) (fm_A g153 r55 (by decide) rfl)).trans ((congrArg (fun z => aI z (u1 : Int32).toNatClampNeg) (fm_A g120 r55 (by decide) rfl)).trans m95))
              have m161 : aI (f151 a80) (u1 : Int32).toNatClampNeg = x86 := ((congrArg (fun z => aI z (u1 : Int32).toNatClampNeg) (fm_A g153 r82 (by decide) rfl)).trans ((congrArg (fun z => aI z (u1 : Int32).toNatClampNeg) (fm_A g120 r82 (by decide) rfl)).trans m104))
              have z162 : WU kp L [] f0 f151 := wu_fm z121 g153 rfl
              have hF := FM.tr hF g153 rfl
              have hW0 := hW.2.2.2
              refine gs_704 E hW r82 ⟨by omega, by omega⟩ dX0_advanceWrit_189 (fun f163 H locs e164 n165 g166 hW => ?_)
              have m167 : aI (f163 a110) (u1 : Int32).toNatClampNeg = x116 := ((congrArg (fun z => aI z (u1 : Int32).toNatClampNeg) (fm_A g166 r112 (by decide) rfl)).trans ((congrArg (fun z => aI z (u1 : Int32).toNatClampNeg) (fm_A g153 r112 (by decide) rfl)).trans m148))
              have z168 : WU kp L [] f0 f163 := wu_fm z162 g166 rfl
              have hF := FM.tr hF g166 rfl
              exact e_V E hW rfl ⟨rfl, hF, z168⟩ dX0_advanceWrit_190
            · refine lv_aload_n hx hb dX0_advanceWrit_138 rfl (lv_at hl 1 rfl) ?_
              refine fg_RX0_28 E hW rh0 dX0_advanceWrit_139 (fun a169 m170 r171 => ?_)
              obtain rfl : a1 = a169 := (m123).symm.trans m170
              refine fg_RX0_151 E hW r3 dX0_advanceWrit_142 (fun a172 m173 r174 => ?_)
              refine lv_iload_n hx hb dX0_advanceWrit_145 rfl (lv_at hl 2 rfl) ?_
              refine lv_iconst (v := 0) hx hb dX0_advanceWrit_146 (by decide) ?_
              have hW0 := hW.2.2.2
              refine gs_706 E hW r174 ⟨by omega, by omega⟩ dX0_advanceWrit_147 (fun f175 H locs e176 n177 g178 hW => ?_)
              have m179 : aI (f175 a4) (u1 : Int32).toNatClampNeg = y7 := ((congrArg (fun z => aI z (u1 : Int32).toNatClampNeg) (fm_A g178 r6 (by decide) rfl)).trans ((congrArg (fun z => aI z (u1 : Int32).toNatClampNeg) (fm_A g120 r6 (by decide) rfl)).trans m91))
              have m180 : aI (f175 a13) (y7 : Int32).toNatClampNeg = y16 := ((congrArg (fun z => aI z (y7 : Int32).toNatClampNeg) (fm_A g178 r15 (by decide) rfl)).trans ((congrArg (fun z => aI z (y7 : Int32).toNatClampNeg) (fm_A g120 r15 (by decide) rfl)).trans m92))
              have m181 : aI (f175 a34) (y7 : Int32).toNatClampNeg = y37 := ((congrArg (fun z => aI z (y7 : Int32).toNatClampNeg) (fm_A g178 r36 (by decide) rfl)).trans ((congrArg (fun z => aI z (y7 : Int32).toNatClampNeg) (fm_A g120 r36 (by decide) rfl)).trans m93))
              have m182 : aI (f175 a43) (u1 : Int32).toNatClampNeg = y46 := ((congrArg (fun z => aI z (u1 : Int32).toNatClampNeg) (fm_A g178 r45 (by decide) rfl)).trans ((congrArg (fun z => aI z (u1 : Int32).toNatClampNeg) (fm_A g120 r45 (by decide) rfl)).trans m94))
              have m183 : aI (f175 a53) (u1 : Int32).toNatClampNeg = y56 := ((congrArg (fun z => aI z (u1 : Int32).toNatClampNeg) (fm_A g178 r55 (by decide) rfl)).trans ((congrArg (fun z => aI z (u1 : Int32).toNatClampNeg) (fm_A g120 r55 (by decide) rfl)).trans m95))
              have m184 : aI (f175 a80) (u1 : Int32).toNatClampNeg = x86 := ((congrArg (fun z => aI z (u1 : Int32).toNatClampNeg) (fm_A g178 r82 (by decide) rfl)).trans ((congrArg (fun z => aI z (u1 : Int32).toNatClampNeg) (fm_A g120 r82 (by decide) rfl)).trans m104))
              have z185 : WU kp L [] f0 f175 := wu_fm z121 g178 rfl
              have hF := FM.tr hF g178 rfl
              refine lv_aload_n hx hb dX0_advanceWrit_148 rfl (lv_at hl 1 rfl) ?_
              refine lv_iload_n hx hb dX0_advanceWrit_149 rfl (lv_at hl 0 rfl) ?_
              refine lv_aload_n hx hb dX0_advanceWrit_150 rfl (lv_at hl 1 rfl) ?_
              refine fg_RX0_28 E hW rh0 dX0_advanceWrit_151 (fun a186 m187 r188 => ?_)
              obtain rfl : a1 = a186 := (((fm_R g178 rh0 rfl).trans m170)).symm.trans m187
              refine fg_RX0_238 E hW r3 dX0_advanceWrit_154 (fun a189 m190 r191 => ?_)
              obtain rfl : a43 = a189 := (((fm_R g178 r3 rfl).trans ((fm_R g120 r3 rfl).trans ((fm_R g90 r3 rfl).trans ((fm_R g72 r3 rfl).trans m44))))).symm.trans m190
              refine lv_iload_n hx hb dX0_advanceWrit_157 rfl (lv_at hl 2 rfl) ?_
              refine gl_702 E hW r45 ⟨by omega, by omega⟩ dX0_advanceWrit_158 (fun y192 m193 b194 => ?_)
              obtain rfl : y46 = y192 := (m182).symm.trans m193
              have hW0 := hW.2.2.2
              refine t_callV (As := [.int y7, .int y46]) (rest := []) E hW (c_X0_putOut_u l G cI cJ cZ cD cR cT kp L f175 hW.2.2.2 _ h0 y7 y46 rh0 (by omega) (by omega)) rh0 (by decide) rfl wk_X0_putOut tw_1154 rfl ⟨Nat.le_of_ble_eq_true rfl, Nat.le_of_ble_eq_true rfl⟩ ⟨rfl, rfl⟩ hl.1 rfl (Nat.le_of_ble_eq_true rfl) dX0_advanceWrit_159 ⟨Nat.le_of_ble_eq_true rfl, Nat.le_of_ble_eq_true rfl⟩ (fun v195 f196 H locs q197 hW => ?_)
              obtain ⟨rfl, g198, h199⟩ := q197
              have m200 : aI (f196 a110) (u1 : Int32).toNatClampNeg = x116 := ((congrArg (fun z => aI z (u1 : Int32).toNatClampNeg) (fm_A g198 r112 (by decide) rfl)).trans ((congrArg (fun z => aI z (u1 : Int32).toNatClampNeg) (fm_A g178 r112 (by decide) rfl)).trans m129))
              have hF := FM.tr hF g198 rfl
              have z202 : WU kp L [] f0 f196 := wu_call z185 h199 (fun q h => absurd h List.not_mem_nil)
              refine lv_goto (tgt := 190) hx hb dX0_advanceWrit_162 (by decide) ?_
              exact e_V E hW rfl ⟨rfl, hF, z202⟩ dX0_advanceWrit_190
          · exact e_V E hW rfl ⟨rfl, hF, z96⟩ dX0_advanceWrit_111
        · exact e_V E hW rfl ⟨rfl, hF, z75⟩ dX0_advanceWrit_85
    · refine lv_aload_n hx hb dX0_advanceWrit_43 rfl (lv_at hl 1 rfl) ?_
      refine fg_RX0_28 E hW rh0 dX0_advanceWrit_44 (fun a203 m204 r205 => ?_)
      obtain rfl : a1 = a203 := (m41).symm.trans m204
      refine fg_RX0_151 E hW r3 dX0_advanceWrit_47 (fun a206 m207 r208 => ?_)
      refine lv_iload_n hx hb dX0_advanceWrit_50 rfl (lv_at hl 2 rfl) ?_
      refine lv_iconst (v := 0) hx hb dX0_advanceWrit_51 (by decide) ?_
      have hW0 := hW.2.2.2
      refine gs_706 E hW r208 ⟨by omega, by omega⟩ dX0_advanceWrit_52 (fun f209 H locs e210 n211 g212 hW => ?_)
      have z213 : WU kp L [] f0 f209 := wu_fm (wu_rf : WU kp L [] f0 f0) g212 rfl
      have hF := FM.tr hF g212 rfl
      exact e_V E hW rfl ⟨rfl, hF, z213⟩ dX0_advanceWrit_53
def ms_X0_passWeek_u : List (Nat × Nat) := [(0, 6), (0, 12), (0, 13), (0, 14), (3, 0), (10, 0), (115, 0), (164, 0), (165, 0), (166, 0), (167, 0), (169, 0), (171, 0), (222, 0), (223, 0), (342, 0), (345, 0), (346, 0), (347, 0), (348, 0), (349, 0), (701, 0), (702, 0), (703, 0), (704, 0), (705, 0), (706, 0)]
def po_X0_passWeek_u (kp : Nat → Nat) (L : List Nat) (f0 : Nat → va_E) (h0 : Nat) : Option Value → (Nat → va_E) → Prop := fun v f => v = none ∧ FM kp L ms_X0_passWeek_u f0 f ∧ (WU kp L [] f0 f)
set_option maxHeartbeats 4000000 in
set_option maxRecDepth 100000 in
theorem c_X0_passWeek_u (l : Launch) (G : va_G) (cI cJ cZ cD cR cT : ClassId) (kp : Nat → Nat) (L : List Nat) (f0 : Nat → va_E) (hTH : TH cI cJ cZ cD cR cT kp L f0) (sz : Nat) (h0 : Nat) (rh0 : RK kp L h0 0) : Met l yX0_passWeek (Cond.code yX0_passWeek cX0_passWeek 2 none :: wTab) ({ frames := 6, cells := 0, slots := 0, locals := 170 }) (va_Pc [.ref h0] (PreW G (tys6 cI cJ cZ cD cR cT) (va_pl L f0) sz)) (QT (po_X0_passWeek_u kp L f0 h0) G cI cJ cZ cD cR cT (va_A (va_pl L f0) sz) kp L) 0 0 (va_A (va_pl L f0) sz) := by
  refine metT (by decide) (Nat.le_of_ble_eq_true rfl) hTH ?_
  intro p e s m below meth c A ls E hW hl
  obtain ⟨hx, hb, -, hml, hown, hts, -, -, -⟩ := id E
  have hF : FM kp L ms_X0_passWeek_u f0 f0 := FM.rf
  have hl : lv_has ls 2 [(0, .ref h0)] := hl
  refine lv_aload_n hx hb dX0_passWeek_0 rfl (lv_at hl 0 rfl) ?_
  refine fg_RX0_93 E hW rh0 dX0_passWeek_1 (fun y1 m2 b3 => ?_)
  refine lv_sipush (v := 399) hx hb dX0_passWeek_4 (by decide) ?_
  refine q_icmp_lt (Y := 399) (tgt := 11) hx hb dX0_passWeek_7 (by decide) rfl rfl (fun c4 => ?_) (fun c4 => ?_)
  · refine lv_aload_n hx hb dX0_passWeek_11 rfl (lv_at hl 0 rfl) ?_
    have hW0 := hW.2.2.2
    refine t_callV (As := []) (rest := []) E hW (c_X0_lookAtNow l G cI cJ cZ cD cR cT kp L f0 hW.2.2.2 _ h0 rh0) rh0 (by decide) rfl wk_X0_lookAtNow tw_1118 rfl ⟨Nat.le_of_ble_eq_true rfl, Nat.le_of_ble_eq_true rfl⟩ ⟨rfl, rfl⟩ hl.1 rfl (Nat.le_of_ble_eq_true rfl) dX0_passWeek_12 ⟨Nat.le_of_ble_eq_true rfl, Nat.le_of_ble_eq_true rfl⟩ (fun v5 f6 H locs q7 hW => ?_)
    obtain ⟨rfl, g8⟩ := q7
    have z9 : WU kp L [] f0 f6 := wu_fm (wu_rf : WU kp L [] f0 f0) g8 rfl
    have hF := FM.tr hF g8 rfl
    refine lv_aload_n hx hb dX0_passWeek_15 rfl (lv_at hl 0 rfl) ?_
    have hW0 := hW.2.2.2
    refine t_callV (As := []) (rest := []) E hW (c_X0_reap l G cI cJ cZ cD cR cT kp L f6 hW.2.2.2 _ h0 rh0) rh0 (by decide) rfl wk_X0_reap tw_1119 rfl ⟨Nat.le_of_ble_eq_true rfl, Nat.le_of_ble_eq_true rfl⟩ ⟨rfl, rfl⟩ hl.1 rfl (Nat.le_of_ble_eq_true rfl) dX0_passWeek_16 ⟨Nat.le_of_ble_eq_true rfl, Nat.le_of_ble_eq_true rfl⟩ (fun v10 f11 H locs q12 hW => ?_)
    obtain ⟨rfl, g13⟩ := q12
    have z14 : WU kp L [] f0 f11 := wu_fm z9 g13 rfl
    have hF := FM.tr hF g13 rfl
    refine lv_aload_n hx hb dX0_passWeek_19 rfl (lv_at hl 0 rfl) ?_
    refine fg_RX0_93 E hW rh0 dX0_passWeek_20 (fun y15 m16 b17 => ?_)
    obtain rfl : y1 = y15 := (((fm_I g13 rh0 rfl).trans ((fm_I g8 rh0 rfl).trans m2))).symm.trans m16
    refine q_if_eq (tgt := 55) hx hb dX0_passWeek_23 (by decide) rfl (fun c18 => ?_) (fun c18 => ?_)
    · refine lv_iconst (v := 0) hx hb dX0_passWeek_55 (by decide) ?_
      refine lv_istore_n (lv' := [(1, .int 0), (0, .ref h0)]) hx hb dX0_passWeek_56 rfl hl (by decide) rfl (fun ls hl => ?_)
      have L849 : ∀ (n : Nat), ∀ (f844 : Nat → va_E) (y846 : Int32) (m845 : oI (f844 h0) 6 = y1) (b847 : (0 : Int) ≤ y846.toInt ∧ y846.toInt ≤ 60) (z848 : WU kp L [] f0 f844) (hm : (61 : Int) - y846.toInt ≤ n) (H : Heap) (locs : List Loc) (ls : Array Slot), WS G cI cJ cZ cD cR cT A kp L f844 s H locs → FM kp L ms_X0_passWeek_u f0 f844 → lv_has ls 2 [(1, .int y846), (0, .ref h0)] → W p l e ({ frames := 6, cells := 0, slots := 0, locals := 170 }) s m ([.ref h0] : List Value).toArray below meth c H locs 0 0 (MQ below (QT (po_X0_passWeek_u kp L f0 h0) G cI cJ cZ cD cR cT A kp L) ([.ref h0] : List Value).toArray s 0 0 A) (F0 m 57 ls []) := by
        intro n
        induction n with
        | zero =>
          intro f844 y846 m845 b847 z848 hm H locs ls hW hF hl
          have hz := i32_b y846
          exfalso; omega
        | succ n ih =>
          intro f844 y846 m845 b847 z848 hm H locs ls hW hF hl
          have ih57 := ih
          refine lv_iload_n hx hb dX0_passWeek_57 rfl (lv_at hl 0 rfl) ?_
          refine lv_aload_n hx hb dX0_passWeek_58 rfl (lv_at hl 1 rfl) ?_
          refine fg_RX0_28 E hW rh0 dX0_passWeek_59 (fun a850 m851 r852 => ?_)
          refine fg_RX0_148 E hW r852 dX0_passWeek_62 (fun y853 m854 b855 => ?_)
          refine q_icmp_ge (tgt := 92) hx hb dX0_passWeek_65 (by decide) rfl rfl (fun c856 => ?_) (fun c856 => ?_)
          · refine lv_aload_n hx hb dX0_passWeek_92 rfl (lv_at hl 1 rfl) ?_
            have hW0 := hW.2.2.2
            refine t_callV (As := []) (rest := []) E hW (c_X0_payDraws l G cI cJ cZ cD cR cT kp L f844 hW.2.2.2 _ h0 rh0) rh0 (by decide) rfl wk_X0_payDraws tw_1158 rfl ⟨Nat.le_of_ble_eq_true rfl, Nat.le_of_ble_eq_true rfl⟩ ⟨rfl, rfl⟩ hl.1 rfl (Nat.le_of_ble_eq_true rfl) dX0_passWeek_93 ⟨Nat.le_of_ble_eq_true rfl, Nat.le_of_ble_eq_true rfl⟩ (fun v857 f858 H locs q859 hW => ?_)
            obtain ⟨rfl, g860⟩ := q859
            have z861 : WU kp L [] f0 f858 := wu_fm z848 g860 rfl
            have hF := FM.tr hF g860 rfl
            refine lv_aload_n hx hb dX0_passWeek_96 rfl (lv_at hl 1 rfl) ?_
            refine fg_RX0_64 E hW rh0 dX0_passWeek_97 (fun y862 m863 b864 => ?_)
            refine q_if_eq (tgt := 113) hx hb dX0_passWeek_100 (by decide) rfl (fun c865 => ?_) (fun c865 => ?_)
            · refine lv_aload_n hx hb dX0_passWeek_113 rfl (lv_at hl 1 rfl) ?_
              have hW0 := hW.2.2.2
              refine t_callV (As := []) (rest := []) E hW (c_X0_renewBans l G cI cJ cZ cD cR cT kp L f858 hW.2.2.2 _ h0 rh0) rh0 (by decide) rfl wk_X0_renewBans tw_1171 rfl ⟨Nat.le_of_ble_eq_true rfl, Nat.le_of_ble_eq_true rfl⟩ ⟨rfl, rfl⟩ hl.1 rfl (Nat.le_of_ble_eq_true rfl) dX0_passWeek_114 ⟨Nat.le_of_ble_eq_true rfl, Nat.le_of_ble_eq_true rfl⟩ (fun v866 f867 H locs q868 hW => ?_)
              obtain ⟨rfl, g869⟩ := q868
              have z870 : WU kp L [] f0 f867 := wu_fm z861 g869 rfl
              have hF := FM.tr hF g869 rfl
              refine lv_aload_n hx hb dX0_passWeek_117 rfl (lv_at hl 1 rfl) ?_
              refine lv_dup hx hb dX0_passWeek_118 rfl ?_
              refine fg_RX0_93 E hW rh0 dX0_passWeek_119 (fun y871 m872 b873 => ?_)
              obtain rfl : y1 = y871 := (((fm_I g869 rh0 rfl).trans ((fm_I g860 rh0 rfl).trans m845))).symm.trans m872
              refine lv_iconst (v := 1) hx hb dX0_passWeek_122 (by decide) ?_
              refine q_iadd (Y := 1) hx hb dX0_passWeek_123 rfl rfl (by omega) (fun x874 h875 => ?_)
              have hW0 := hW.2.2.2
              refine fp_RX0_93 E hW rh0 (by omega) dX0_passWeek_124 (fun f876 H locs e877 n878 g879 hW => ?_)
              have z880 : WU kp L [] f0 f876 := wu_fm z870 g879 rfl
              have hF := FM.tr hF g879 rfl
              exact e_V E hW rfl ⟨rfl, hF, z880⟩ dX0_passWeek_127
            · refine lv_aload_n hx hb dX0_passWeek_103 rfl (lv_at hl 1 rfl) ?_
              refine fg_RX0_42 E hW rh0 dX0_passWeek_104 (fun a881 m882 r883 => ?_)
              have hW0 := hW.2.2.2
              refine t_callV (As := []) (rest := []) E hW (c_X2_asksBanned l G cI cJ cZ cD cR cT kp L f858 hW.2.2.2 _ a881 r883) r883 (by decide) rfl wk_X2_asksBanned tw_1167 rfl ⟨Nat.le_of_ble_eq_true rfl, Nat.le_of_ble_eq_true rfl⟩ ⟨rfl, rfl⟩ hl.1 rfl (Nat.le_of_ble_eq_true rfl) dX0_passWeek_107 ⟨Nat.le_of_ble_eq_true rfl, Nat.le_of_ble_eq_true rfl⟩ (fun v884 f885 H locs q886 hW => ?_)
              obtain ⟨⟨x888, rfl, p889⟩, g887⟩ := q886
              have z890 : WU kp L [] f0 f885 := wu_fm z861 g887 rfl
              have hF := FM.tr hF g887 rfl
              refine q_if_eq (tgt := 117) hx hb dX0_passWeek_110 (by decide) rfl (fun c891 => ?_) (fun c891 => ?_)
              · refine lv_aload_n hx hb dX0_passWeek_117 rfl (lv_at hl 1 rfl) ?_
                refine lv_dup hx hb dX0_passWeek_118 rfl ?_
                refine fg_RX0_93 E hW rh0 dX0_passWeek_119 (fun y892 m893 b894 => ?_)
                obtain rfl : y1 = y892 := (((fm_I g887 rh0 rfl).trans ((fm_I g860 rh0 rfl).trans m845))).symm.trans m893
                refine lv_iconst (v := 1) hx hb dX0_passWeek_122 (by decide) ?_
                refine q_iadd (Y := 1) hx hb dX0_passWeek_123 rfl rfl (by omega) (fun x895 h896 => ?_)
                have hW0 := hW.2.2.2
                refine fp_RX0_93 E hW rh0 (by omega) dX0_passWeek_124 (fun f897 H locs e898 n899 g900 hW => ?_)
                have z901 : WU kp L [] f0 f897 := wu_fm z890 g900 rfl
                have hF := FM.tr hF g900 rfl
                exact e_V E hW rfl ⟨rfl, hF, z901⟩ dX0_passWeek_127
              · refine lv_aload_n hx hb dX0_passWeek_113 rfl (lv_at hl 1 rfl) ?_
                have hW0 := hW.2.2.2
                refine t_callV (As := []) (rest := []) E hW (c_X0_renewBans l G cI cJ cZ cD cR cT kp L f885 hW.2.2.2 _ h0 rh0) rh0 (by decide) rfl wk_X0_renewBans tw_1171 rfl ⟨Nat.le_of_ble_eq_true rfl, Nat.le_of_ble_eq_true rfl⟩ ⟨rfl, rfl⟩ hl.1 rfl (Nat.le_of_ble_eq_true rfl) dX0_passWeek_114 ⟨Nat.le_of_ble_eq_true rfl, Nat.le_of_ble_eq_true rfl⟩ (fun v902 f903 H locs q904 hW => ?_)
                obtain ⟨rfl, g905⟩ := q904
                have z906 : WU kp L [] f0 f903 := wu_fm z890 g905 rfl
                have hF := FM.tr hF g905 rfl
                refine lv_aload_n hx hb dX0_passWeek_117 rfl (lv_at hl 1 rfl) ?_
                refine lv_dup hx hb dX0_passWeek_118 rfl ?_
                refine fg_RX0_93 E hW rh0 dX0_passWeek_119 (fun y907 m908 b909 => ?_)
                obtain rfl : y1 = y907 := (((fm_I g905 rh0 rfl).trans ((fm_I g887 rh0 rfl).trans ((fm_I g860 rh0 rfl).trans m845)))).symm.trans m908
                refine lv_iconst (v := 1) hx hb dX0_passWeek_122 (by decide) ?_
                refine q_iadd (Y := 1) hx hb dX0_passWeek_123 rfl rfl (by omega) (fun x910 h911 => ?_)
                have hW0 := hW.2.2.2
                refine fp_RX0_93 E hW rh0 (by omega) dX0_passWeek_124 (fun f912 H locs e913 n914 g915 hW => ?_)
                have z916 : WU kp L [] f0 f912 := wu_fm z906 g915 rfl
                have hF := FM.tr hF g915 rfl
                exact e_V E hW rfl ⟨rfl, hF, z916⟩ dX0_passWeek_127
          · refine lv_aload_n hx hb dX0_passWeek_68 rfl (lv_at hl 1 rfl) ?_
            refine fg_RX0_28 E hW rh0 dX0_passWeek_69 (fun a917 m918 r919 => ?_)
            obtain rfl : a850 = a917 := (m851).symm.trans m918
            refine fg_RX0_151 E hW r852 dX0_passWeek_72 (fun a920 m921 r922 => ?_)
            refine lv_iload_n hx hb dX0_passWeek_75 rfl (lv_at hl 0 rfl) ?_
            refine gl_706 E hW r922 ⟨by omega, by omega⟩ dX0_passWeek_76 (fun y923 m924 => ?_)
            refine lv_iconst (v := 1) hx hb dX0_passWeek_77 (by decide) ?_
            refine q_icmp_ne (Y := 1) (tgt := 86) hx hb dX0_passWeek_78 (by decide) rfl rfl (fun c926 => ?_) (fun c926 => ?_)
            · refine q_iinc hx hb dX0_passWeek_86 hl (k := 0) rfl rfl rfl (by omega) (by decide) (fun i927 ls h928 hl => ?_)
              have hl : lv_has ls 2 [(1, .int i927), (0, .ref h0)] := hl
              refine lv_goto (tgt := 57) hx hb dX0_passWeek_89 (by decide) ?_
              exact ih57 f844 i927 m845 (by omega) z848 (by omega) _ _ _ hW hF (lv_sub hl [0, 1] rfl)
            · refine lv_aload_n hx hb dX0_passWeek_81 rfl (lv_at hl 1 rfl) ?_
              refine lv_iload_n hx hb dX0_passWeek_82 rfl (lv_at hl 0 rfl) ?_
              have hW0 := hW.2.2.2
              refine t_callV (As := [.int y846]) (rest := []) E hW (c_X0_advanceWrit_u l G cI cJ cZ cD cR cT kp L f844 hW.2.2.2 _ h0 y846 rh0 (by omega)) rh0 (by decide) rfl wk_X0_advanceWrit tw_1146 rfl ⟨Nat.le_of_ble_eq_true rfl, Nat.le_of_ble_eq_true rfl⟩ ⟨rfl, rfl⟩ hl.1 rfl (Nat.le_of_ble_eq_true rfl) dX0_passWeek_83 ⟨Nat.le_of_ble_eq_true rfl, Nat.le_of_ble_eq_true rfl⟩ (fun v929 f930 H locs q931 hW => ?_)
              obtain ⟨rfl, g932, h933⟩ := q931
              have hF := FM.tr hF g932 rfl
              have z935 : WU kp L [] f0 f930 := wu_call z848 h933 (fun q h => absurd h List.not_mem_nil)
              refine q_iinc hx hb dX0_passWeek_86 hl (k := 0) rfl rfl rfl (by omega) (by decide) (fun i936 ls h937 hl => ?_)
              have hl : lv_has ls 2 [(1, .int i936), (0, .ref h0)] := hl
              refine lv_goto (tgt := 57) hx hb dX0_passWeek_89 (by decide) ?_
              exact ih57 f930 i936 ((fm_I g932 rh0 rfl).trans m845) (by omega) z935 (by omega) _ _ _ hW hF (lv_sub hl [0, 1] rfl)
      have hk938 : (0 : Int32).toInt = 0 := rfl
      exact L849 61 f11 0 m16 (by decide) z14 (by omega) _ _ _ hW hF (lv_sub hl [0, 1] rfl)
    · refine lv_aload_n hx hb dX0_passWeek_26 rfl (lv_at hl 0 rfl) ?_
      refine fg_RX0_93 E hW rh0 dX0_passWeek_27 (fun y939 m940 b941 => ?_)
      obtain rfl : y1 = y939 := (m16).symm.trans m940
      refine lv_bipush (v := 13) hx hb dX0_passWeek_30 (by decide) ?_
      refine q_irem (Y := 13) hx hb dX0_passWeek_32 rfl rfl (by omega) (by omega) (fun x942 h943 => ?_)
      refine q_if_ne (tgt := 55) hx hb dX0_passWeek_33 (by decide) rfl (fun c944 => ?_) (fun c944 => ?_)
      · refine lv_iconst (v := 0) hx hb dX0_passWeek_55 (by decide) ?_
        refine lv_istore_n (lv' := [(1, .int 0), (0, .ref h0)]) hx hb dX0_passWeek_56 rfl hl (by decide) rfl (fun ls hl => ?_)
        have L1775 : ∀ (n : Nat), ∀ (f1770 : Nat → va_E) (y1772 : Int32) (m1771 : oI (f1770 h0) 6 = y1) (b1773 : (0 : Int) ≤ y1772.toInt ∧ y1772.toInt ≤ 60) (z1774 : WU kp L [] f0 f1770) (hm : (61 : Int) - y1772.toInt ≤ n) (H : Heap) (locs : List Loc) (ls : Array Slot), WS G cI cJ cZ cD cR cT A kp L f1770 s H locs → FM kp L ms_X0_passWeek_u f0 f1770 → lv_has ls 2 [(1, .int y1772), (0, .ref h0)] → W p l e ({ frames := 6, cells := 0, slots := 0, locals := 170 }) s m ([.ref h0] : List Value).toArray below meth c H locs 0 0 (MQ below (QT (po_X0_passWeek_u kp L f0 h0) G cI cJ cZ cD cR cT A kp L) ([.ref h0] : List Value).toArray s 0 0 A) (F0 m 57 ls []) := by
          intro n
          induction n with
          | zero =>
            intro f1770 y1772 m1771 b1773 z1774 hm H locs ls hW hF hl
            have hz := i32_b y1772
            exfalso; omega
          | succ n ih =>
            intro f1770 y1772 m1771 b1773 z1774 hm H locs ls hW hF hl
            have ih57 := ih
            refine lv_iload_n hx hb dX0_passWeek_57 rfl (lv_at hl 0 rfl) ?_
            refine lv_aload_n hx hb dX0_passWeek_58 rfl (lv_at hl 1 rfl) ?_
            refine fg_RX0_28 E hW rh0 dX0_passWeek_59 (fun a1776 m1777 r1778 => ?_)
            refine fg_RX0_148 E hW r1778 dX0_passWeek_62 (fun y1779 m1780 b1781 => ?_)
            refine q_icmp_ge (tgt := 92) hx hb dX0_passWeek_65 (by decide) rfl rfl (fun c1782 => ?_) (fun c1782 => ?_)
            · refine lv_aload_n hx hb dX0_passWeek_92 rfl (lv_at hl 1 rfl) ?_
              have hW0 := hW.2.2.2
              refine t_callV (As := []) (rest := []) E hW (c_X0_payDraws l G cI cJ cZ cD cR cT kp L f1770 hW.2.2.2 _ h0 rh0) rh0 (by decide) rfl wk_X0_payDraws tw_1158 rfl ⟨Nat.le_of_ble_eq_true rfl, Nat.le_of_ble_eq_true rfl⟩ ⟨rfl, rfl⟩ hl.1 rfl (Nat.le_of_ble_eq_true rfl) dX0_passWeek_93 ⟨Nat.le_of_ble_eq_true rfl, Nat.le_of_ble_eq_true rfl⟩ (fun v1783 f1784 H locs q1785 hW => ?_)
              obtain ⟨rfl, g1786⟩ := q1785
              have z1787 : WU kp L [] f0 f1784 := wu_fm z1774 g1786 rfl
              have hF := FM.tr hF g1786 rfl
              refine lv_aload_n hx hb dX0_passWeek_96 rfl (lv_at hl 1 rfl) ?_
              refine fg_RX0_64 E hW rh0 dX0_passWeek_97 (fun y1788 m1789 b1790 => ?_)
              refine q_if_eq (tgt := 113) hx hb dX0_passWeek_100 (by decide) rfl (fun c1791 => ?_) (fun c1791 => ?_)
              · refine lv_aload_n hx hb dX0_passWeek_113 rfl (lv_at hl 1 rfl) ?_
                have hW0 := hW.2.2.2
                refine t_callV (As := []) (rest := []) E hW (c_X0_renewBans l G cI cJ cZ cD cR cT kp L f1784 hW.2.2.2 _ h0 rh0) rh0 (by decide) rfl wk_X0_renewBans tw_1171 rfl ⟨Nat.le_of_ble_eq_true rfl, Nat.le_of_ble_eq_true rfl⟩ ⟨rfl, rfl⟩ hl.1 rfl (Nat.le_of_ble_eq_true rfl) dX0_passWeek_114 ⟨Nat.le_of_ble_eq_true rfl, Nat.le_of_ble_eq_true rfl⟩ (fun v1792 f1793 H locs q1794 hW => ?_)
                obtain ⟨rfl, g1795⟩ := q1794
                have z1796 : WU kp L [] f0 f1793 := wu_fm z1787 g1795 rfl
                have hF := FM.tr hF g1795 rfl
                refine lv_aload_n hx hb dX0_passWeek_117 rfl (lv_at hl 1 rfl) ?_
                refine lv_dup hx hb dX0_passWeek_118 rfl ?_
                refine fg_RX0_93 E hW rh0 dX0_passWeek_119 (fun y1797 m1798 b1799 => ?_)
                obtain rfl : y1 = y1797 := (((fm_I g1795 rh0 rfl).trans ((fm_I g1786 rh0 rfl).trans m1771))).symm.trans m1798
                refine lv_iconst (v := 1) hx hb dX0_passWeek_122 (by decide) ?_
                refine q_iadd (Y := 1) hx hb dX0_passWeek_123 rfl rfl (by omega) (fun x1800 h1801 => ?_)
                have hW0 := hW.2.2.2
                refine fp_RX0_93 E hW rh0 (by omega) dX0_passWeek_124 (fun f1802 H locs e1803 n1804 g1805 hW => ?_)
                have z1806 : WU kp L [] f0 f1802 := wu_fm z1796 g1805 rfl
                have hF := FM.tr hF g1805 rfl
                exact e_V E hW rfl ⟨rfl, hF, z1806⟩ dX0_passWeek_127
              · refine lv_aload_n hx hb dX0_passWeek_103 rfl (lv_at hl 1 rfl) ?_
                refine fg_RX0_42 E hW rh0 dX0_passWeek_104 (fun a1807 m1808 r1809 => ?_)
                have hW0 := hW.2.2.2
                refine t_callV (As := []) (rest := []) E hW (c_X2_asksBanned l G cI cJ cZ cD cR cT kp L f1784 hW.2.2.2 _ a1807 r1809) r1809 (by decide) rfl wk_X2_asksBanned tw_1167 rfl ⟨Nat.le_of_ble_eq_true rfl, Nat.le_of_ble_eq_true rfl⟩ ⟨rfl, rfl⟩ hl.1 rfl (Nat.le_of_ble_eq_true rfl) dX0_passWeek_107 ⟨Nat.le_of_ble_eq_true rfl, Nat.le_of_ble_eq_true rfl⟩ (fun v1810 f1811 H locs q1812 hW => ?_)
                obtain ⟨⟨x1814, rfl, p1815⟩, g1813⟩ := q1812
                have z1816 : WU kp L [] f0 f1811 := wu_fm z1787 g1813 rfl
                have hF := FM.tr hF g1813 rfl
                refine q_if_eq (tgt := 117) hx hb dX0_passWeek_110 (by decide) rfl (fun c1817 => ?_) (fun c1817 => ?_)
                · refine lv_aload_n hx hb dX0_passWeek_117 rfl (lv_at hl 1 rfl) ?_
                  refine lv_dup hx hb dX0_passWeek_118 rfl ?_
                  refine fg_RX0_93 E hW rh0 dX0_passWeek_119 (fun y1818 m1819 b1820 => ?_)
                  obtain rfl : y1 = y1818 := (((fm_I g1813 rh0 rfl).trans ((fm_I g1786 rh0 rfl).trans m1771))).symm.trans m1819
                  refine lv_iconst (v := 1) hx hb dX0_passWeek_122 (by decide) ?_
                  refine q_iadd (Y := 1) hx hb dX0_passWeek_123 rfl rfl (by omega) (fun x1821 h1822 => ?_)
                  have hW0 := hW.2.2.2
                  refine fp_RX0_93 E hW rh0 (by omega) dX0_passWeek_124 (fun f1823 H locs e1824 n1825 g1826 hW => ?_)
                  have z1827 : WU kp L [] f0 f1823 := wu_fm z1816 g1826 rfl
                  have hF := FM.tr hF g1826 rfl
                  exact e_V E hW rfl ⟨rfl, hF, z1827⟩ dX0_passWeek_127
                · refine lv_aload_n hx hb dX0_passWeek_113 rfl (lv_at hl 1 rfl) ?_
                  have hW0 := hW.2.2.2
                  refine t_callV (As := []) (rest := []) E hW (c_X0_renewBans l G cI cJ cZ cD cR cT kp L f1811 hW.2.2.2 _ h0 rh0) rh0 (by decide) rfl wk_X0_renewBans tw_1171 rfl ⟨Nat.le_of_ble_eq_true rfl, Nat.le_of_ble_eq_true rfl⟩ ⟨rfl, rfl⟩ hl.1 rfl (Nat.le_of_ble_eq_true rfl) dX0_passWeek_114 ⟨Nat.le_of_ble_eq_true rfl, Nat.le_of_ble_eq_true rfl⟩ (fun v1828 f1829 H locs q1830 hW => ?_)
                  obtain ⟨rfl, g1831⟩ := q1830
                  have z1832 : WU kp L [] f0 f1829 := wu_fm z1816 g1831 rfl
                  have hF := FM.tr hF g1831 rfl
                  refine lv_aload_n hx hb dX0_passWeek_117 rfl (lv_at hl 1 rfl) ?_
                  refine lv_dup hx hb dX0_passWeek_118 rfl ?_
                  refine fg_RX0_93 E hW rh0 dX0_passWeek_119 (fun y1833 m1834 b1835 => ?_)
                  obtain rfl : y1 = y1833 := (((fm_I g1831 rh0 rfl).trans ((fm_I g1813 rh0 rfl).trans ((fm_I g1786 rh0 rfl).trans m1771)))).symm.trans m1834
                  refine lv_iconst (v := 1) hx hb dX0_passWeek_122 (by decide) ?_
                  refine q_iadd (Y := 1) hx hb dX0_passWeek_123 rfl rfl (by omega) (fun x1836 h1837 => ?_)
                  have hW0 := hW.2.2.2
                  refine fp_RX0_93 E hW rh0 (by omega) dX0_passWeek_124 (fun f1838 H locs e1839 n1840 g1841 hW => ?_)
                  have z1842 : WU kp L [] f0 f1838 := wu_fm z1832 g1841 rfl
                  have hF := FM.tr hF g1841 rfl
                  exact e_V E hW rfl ⟨rfl, hF, z1842⟩ dX0_passWeek_127
            · refine lv_aload_n hx hb dX0_passWeek_68 rfl (lv_at hl 1 rfl) ?_
              refine fg_RX0_28 E hW rh0 dX0_passWeek_69 (fun a1843 m1844 r1845 => ?_)
              obtain rfl : a1776 = a1843 := (m1777).symm.trans m1844
              refine fg_RX0_151 E hW r1778 dX0_passWeek_72 (fun a1846 m1847 r1848 => ?_)
              refine lv_iload_n hx hb dX0_passWeek_75 rfl (lv_at hl 0 rfl) ?_
              refine gl_706 E hW r1848 ⟨by omega, by omega⟩ dX0_passWeek_76 (fun y1849 m1850 => ?_)
              refine lv_iconst (v := 1) hx hb dX0_passWeek_77 (by decide) ?_
              refine q_icmp_ne (Y := 1) (tgt := 86) hx hb dX0_passWeek_78 (by decide) rfl rfl (fun c1852 => ?_) (fun c1852 => ?_)
              · refine q_iinc hx hb dX0_passWeek_86 hl (k := 0) rfl rfl rfl (by omega) (by decide) (fun i1853 ls h1854 hl => ?_)
                have hl : lv_has ls 2 [(1, .int i1853), (0, .ref h0)] := hl
                refine lv_goto (tgt := 57) hx hb dX0_passWeek_89 (by decide) ?_
                exact ih57 f1770 i1853 m1771 (by omega) z1774 (by omega) _ _ _ hW hF (lv_sub hl [0, 1] rfl)
              · refine lv_aload_n hx hb dX0_passWeek_81 rfl (lv_at hl 1 rfl) ?_
                refine lv_iload_n hx hb dX0_passWeek_82 rfl (lv_at hl 0 rfl) ?_
                have hW0 := hW.2.2.2
                refine t_callV (As := [.int y1772]) (rest := []) E hW (c_X0_advanceWrit_u l G cI cJ cZ cD cR cT kp L f1770 hW.2.2.2 _ h0 y1772 rh0 (by omega)) rh0 (by decide) rfl wk_X0_advanceWrit tw_1146 rfl ⟨Nat.le_of_ble_eq_true rfl, Nat.le_of_ble_eq_true rfl⟩ ⟨rfl, rfl⟩ hl.1 rfl (Nat.le_of_ble_eq_true rfl) dX0_passWeek_83 ⟨Nat.le_of_ble_eq_true rfl, Nat.le_of_ble_eq_true rfl⟩ (fun v1855 f1856 H locs q1857 hW => ?_)
                obtain ⟨rfl, g1858, h1859⟩ := q1857
                have hF := FM.tr hF g1858 rfl
                have z1861 : WU kp L [] f0 f1856 := wu_call z1774 h1859 (fun q h => absurd h List.not_mem_nil)
                refine q_iinc hx hb dX0_passWeek_86 hl (k := 0) rfl rfl rfl (by omega) (by decide) (fun i1862 ls h1863 hl => ?_)
                have hl : lv_has ls 2 [(1, .int i1862), (0, .ref h0)] := hl
                refine lv_goto (tgt := 57) hx hb dX0_passWeek_89 (by decide) ?_
                exact ih57 f1856 i1862 ((fm_I g1858 rh0 rfl).trans m1771) (by omega) z1861 (by omega) _ _ _ hW hF (lv_sub hl [0, 1] rfl)
        have hk1864 : (0 : Int32).toInt = 0 := rfl
        exact L1775 61 f11 0 m940 (by decide) z14 (by omega) _ _ _ hW hF (lv_sub hl [0, 1] rfl)
      · refine lv_aload_n hx hb dX0_passWeek_36 rfl (lv_at hl 0 rfl) ?_
        have hW0 := hW.2.2.2
        refine t_callV (As := []) (rest := []) E hW (c_X0_collectRents l G cI cJ cZ cD cR cT kp L f11 hW.2.2.2 _ h0 rh0) rh0 (by decide) rfl wk_X0_collectRents tw_1124 rfl ⟨Nat.le_of_ble_eq_true rfl, Nat.le_of_ble_eq_true rfl⟩ ⟨rfl, rfl⟩ hl.1 rfl (Nat.le_of_ble_eq_true rfl) dX0_passWeek_37 ⟨Nat.le_of_ble_eq_true rfl, Nat.le_of_ble_eq_true rfl⟩ (fun v1865 f1866 H locs q1867 hW => ?_)
        obtain ⟨rfl, g1868⟩ := q1867
        have z1869 : WU kp L [] f0 f1866 := wu_fm z14 g1868 rfl
        have hF := FM.tr hF g1868 rfl
        refine lv_aload_n hx hb dX0_passWeek_40 rfl (lv_at hl 0 rfl) ?_
        have hW0 := hW.2.2.2
        refine t_callV (As := []) (rest := []) E hW (c_X0_payMortgages l G cI cJ cZ cD cR cT kp L f1866 hW.2.2.2 _ h0 rh0) rh0 (by decide) rfl wk_X0_payMortgages tw_1135 rfl ⟨Nat.le_of_ble_eq_true rfl, Nat.le_of_ble_eq_true rfl⟩ ⟨rfl, rfl⟩ hl.1 rfl (Nat.le_of_ble_eq_true rfl) dX0_passWeek_41 ⟨Nat.le_of_ble_eq_true rfl, Nat.le_of_ble_eq_true rfl⟩ (fun v1870 f1871 H locs q1872 hW => ?_)
        obtain ⟨rfl, g1873⟩ := q1872
        have z1874 : WU kp L [] f0 f1871 := wu_fm z1869 g1873 rfl
        have hF := FM.tr hF g1873 rfl
        refine lv_aload_n hx hb dX0_passWeek_44 rfl (lv_at hl 0 rfl) ?_
        refine fg_RX0_97 E hW rh0 dX0_passWeek_45 (fun y1875 m1876 b1877 => ?_)
        refine q_if_eq (tgt := 55) hx hb dX0_passWeek_48 (by decide) rfl (fun c1878 => ?_) (fun c1878 => ?_)
        · refine lv_iconst (v := 0) hx hb dX0_passWeek_55 (by decide) ?_
          refine lv_istore_n (lv' := [(1, .int 0), (0, .ref h0)]) hx hb dX0_passWeek_56 rfl hl (by decide) rfl (fun ls hl => ?_)
          have L2735 : ∀ (n : Nat), ∀ (f2729 : Nat → va_E) (y2732 : Int32) (m2730 : oI (f2729 h0) 6 = y1) (m2731 : oI (f2729 h0) 9 = y1875) (b2733 : (0 : Int) ≤ y2732.toInt ∧ y2732.toInt ≤ 60) (z2734 : WU kp L [] f0 f2729) (hm : (61 : Int) - y2732.toInt ≤ n) (H : Heap) (locs : List Loc) (ls : Array Slot), WS G cI cJ cZ cD cR cT A kp L f2729 s H locs → FM kp L ms_X0_passWeek_u f0 f2729 → lv_has ls 2 [(1, .int y2732), (0, .ref h0)] → W p l e ({ frames := 6, cells := 0, slots := 0, locals := 170 }) s m ([.ref h0] : List Value).toArray below meth c H locs 0 0 (MQ below (QT (po_X0_passWeek_u kp L f0 h0) G cI cJ cZ cD cR cT A kp L) ([.ref h0] : List Value).toArray s 0 0 A) (F0 m 57 ls []) := by
            intro n
            induction n with
            | zero =>
              intro f2729 y2732 m2730 m2731 b2733 z2734 hm H locs ls hW hF hl
              have hz := i32_b y2732
              exfalso; omega
            | succ n ih =>
              intro f2729 y2732 m2730 m2731 b2733 z2734 hm H locs ls hW hF hl
              have ih57 := ih
              refine lv_iload_n hx hb dX0_passWeek_57 rfl (lv_at hl 0 rfl) ?_
              refine lv_aload_n hx hb dX0_passWeek_58 rfl (lv_at hl 1 rfl) ?_
              refine fg_RX0_28 E hW rh0 dX0_passWeek_59 (fun a2736 m2737 r2738 => ?_)
              refine fg_RX0_148 E hW r2738 dX0_passWeek_62 (fun y2739 m2740 b2741 => ?_)
              refine q_icmp_ge (tgt := 92) hx hb dX0_passWeek_65 (by decide) rfl rfl (fun c2742 => ?_) (fun c2742 => ?_)
              · refine lv_aload_n hx hb dX0_passWeek_92 rfl (lv_at hl 1 rfl) ?_
                have hW0 := hW.2.2.2
                refine t_callV (As := []) (rest := []) E hW (c_X0_payDraws l G cI cJ cZ cD cR cT kp L f2729 hW.2.2.2 _ h0 rh0) rh0 (by decide) rfl wk_X0_payDraws tw_1158 rfl ⟨Nat.le_of_ble_eq_true rfl, Nat.le_of_ble_eq_true rfl⟩ ⟨rfl, rfl⟩ hl.1 rfl (Nat.le_of_ble_eq_true rfl) dX0_passWeek_93 ⟨Nat.le_of_ble_eq_true rfl, Nat.le_of_ble_eq_true rfl⟩ (fun v2743 f2744 H locs q2745 hW => ?_)
                obtain ⟨rfl, g2746⟩ := q2745
                have z2747 : WU kp L [] f0 f2744 := wu_fm z2734 g2746 rfl
                have hF := FM.tr hF g2746 rfl
                refine lv_aload_n hx hb dX0_passWeek_96 rfl (lv_at hl 1 rfl) ?_
                refine fg_RX0_64 E hW rh0 dX0_passWeek_97 (fun y2748 m2749 b2750 => ?_)
                refine q_if_eq (tgt := 113) hx hb dX0_passWeek_100 (by decide) rfl (fun c2751 => ?_) (fun c2751 => ?_)
                · refine lv_aload_n hx hb dX0_passWeek_113 rfl (lv_at hl 1 rfl) ?_
                  have hW0 := hW.2.2.2
                  refine t_callV (As := []) (rest := []) E hW (c_X0_renewBans l G cI cJ cZ cD cR cT kp L f2744 hW.2.2.2 _ h0 rh0) rh0 (by decide) rfl wk_X0_renewBans tw_1171 rfl ⟨Nat.le_of_ble_eq_true rfl, Nat.le_of_ble_eq_true rfl⟩ ⟨rfl, rfl⟩ hl.1 rfl (Nat.le_of_ble_eq_true rfl) dX0_passWeek_114 ⟨Nat.le_of_ble_eq_true rfl, Nat.le_of_ble_eq_true rfl⟩ (fun v2752 f2753 H locs q2754 hW => ?_)
                  obtain ⟨rfl, g2755⟩ := q2754
                  have z2756 : WU kp L [] f0 f2753 := wu_fm z2747 g2755 rfl
                  have hF := FM.tr hF g2755 rfl
                  refine lv_aload_n hx hb dX0_passWeek_117 rfl (lv_at hl 1 rfl) ?_
                  refine lv_dup hx hb dX0_passWeek_118 rfl ?_
                  refine fg_RX0_93 E hW rh0 dX0_passWeek_119 (fun y2757 m2758 b2759 => ?_)
                  obtain rfl : y1 = y2757 := (((fm_I g2755 rh0 rfl).trans ((fm_I g2746 rh0 rfl).trans m2730))).symm.trans m2758
                  refine lv_iconst (v := 1) hx hb dX0_passWeek_122 (by decide) ?_
                  refine q_iadd (Y := 1) hx hb dX0_passWeek_123 rfl rfl (by omega) (fun x2760 h2761 => ?_)
                  have hW0 := hW.2.2.2
                  refine fp_RX0_93 E hW rh0 (by omega) dX0_passWeek_124 (fun f2762 H locs e2763 n2764 g2765 hW => ?_)
                  have z2766 : WU kp L [] f0 f2762 := wu_fm z2756 g2765 rfl
                  have hF := FM.tr hF g2765 rfl
                  exact e_V E hW rfl ⟨rfl, hF, z2766⟩ dX0_passWeek_127
                · refine lv_aload_n hx hb dX0_passWeek_103 rfl (lv_at hl 1 rfl) ?_
                  refine fg_RX0_42 E hW rh0 dX0_passWeek_104 (fun a2767 m2768 r2769 => ?_)
                  have hW0 := hW.2.2.2
                  refine t_callV (As := []) (rest := []) E hW (c_X2_asksBanned l G cI cJ cZ cD cR cT kp L f2744 hW.2.2.2 _ a2767 r2769) r2769 (by decide) rfl wk_X2_asksBanned tw_1167 rfl ⟨Nat.le_of_ble_eq_true rfl, Nat.le_of_ble_eq_true rfl⟩ ⟨rfl, rfl⟩ hl.1 rfl (Nat.le_of_ble_eq_true rfl) dX0_passWeek_107 ⟨Nat.le_of_ble_eq_true rfl, Nat.le_of_ble_eq_true rfl⟩ (fun v2770 f2771 H locs q2772 hW => ?_)
                  obtain ⟨⟨x2774, rfl, p2775⟩, g2773⟩ := q2772
                  have z2776 : WU kp L [] f0 f2771 := wu_fm z2747 g2773 rfl
                  have hF := FM.tr hF g2773 rfl
                  refine q_if_eq (tgt := 117) hx hb dX0_passWeek_110 (by decide) rfl (fun c2777 => ?_) (fun c2777 => ?_)
                  · refine lv_aload_n hx hb dX0_passWeek_117 rfl (lv_at hl 1 rfl) ?_
                    refine lv_dup hx hb dX0_passWeek_118 rfl ?_
                    refine fg_RX0_93 E hW rh0 dX0_passWeek_119 (fun y2778 m2779 b2780 => ?_)
                    obtain rfl : y1 = y2778 := (((fm_I g2773 rh0 rfl).trans ((fm_I g2746 rh0 rfl).trans m2730))).symm.trans m2779
                    refine lv_iconst (v := 1) hx hb dX0_passWeek_122 (by decide) ?_
                    refine q_iadd (Y := 1) hx hb dX0_passWeek_123 rfl rfl (by omega) (fun x2781 h2782 => ?_)
                    have hW0 := hW.2.2.2
                    refine fp_RX0_93 E hW rh0 (by omega) dX0_passWeek_124 (fun f2783 H locs e2784 n2785 g2786 hW => ?_)
                    have z2787 : WU kp L [] f0 f2783 := wu_fm z2776 g2786 rfl
                    have hF := FM.tr hF g2786 rfl
                    exact e_V E hW rfl ⟨rfl, hF, z2787⟩ dX0_passWeek_127
                  · refine lv_aload_n hx hb dX0_passWeek_113 rfl (lv_at hl 1 rfl) ?_
                    have hW0 := hW.2.2.2
                    refine t_callV (As := []) (rest := []) E hW (c_X0_renewBans l G cI cJ cZ cD cR cT kp L f2771 hW.2.2.2 _ h0 rh0) rh0 (by decide) rfl wk_X0_renewBans tw_1171 rfl ⟨Nat.le_of_ble_eq_true rfl, Nat.le_of_ble_eq_true rfl⟩ ⟨rfl, rfl⟩ hl.1 rfl (Nat.le_of_ble_eq_true rfl) dX0_passWeek_114 ⟨Nat.le_of_ble_eq_true rfl, Nat.le_of_ble_eq_true rfl⟩ (fun v2788 f2789 H locs q2790 hW => ?_)
                    obtain ⟨rfl, g2791⟩ := q2790
                    have z2792 : WU kp L [] f0 f2789 := wu_fm z2776 g2791 rfl
                    have hF := FM.tr hF g2791 rfl
                    refine lv_aload_n hx hb dX0_passWeek_117 rfl (lv_at hl 1 rfl) ?_
                    refine lv_dup hx hb dX0_passWeek_118 rfl ?_
                    refine fg_RX0_93 E hW rh0 dX0_passWeek_119 (fun y2793 m2794 b2795 => ?_)
                    obtain rfl : y1 = y2793 := (((fm_I g2791 rh0 rfl).trans ((fm_I g2773 rh0 rfl).trans ((fm_I g2746 rh0 rfl).trans m2730)))).symm.trans m2794
                    refine lv_iconst (v := 1) hx hb dX0_passWeek_122 (by decide) ?_
                    refine q_iadd (Y := 1) hx hb dX0_passWeek_123 rfl rfl (by omega) (fun x2796 h2797 => ?_)
                    have hW0 := hW.2.2.2
                    refine fp_RX0_93 E hW rh0 (by omega) dX0_passWeek_124 (fun f2798 H locs e2799 n2800 g2801 hW => ?_)
                    have z2802 : WU kp L [] f0 f2798 := wu_fm z2792 g2801 rfl
                    have hF := FM.tr hF g2801 rfl
                    exact e_V E hW rfl ⟨rfl, hF, z2802⟩ dX0_passWeek_127
              · refine lv_aload_n hx hb dX0_passWeek_68 rfl (lv_at hl 1 rfl) ?_
                refine fg_RX0_28 E hW rh0 dX0_passWeek_69 (fun a2803 m2804 r2805 => ?_)
                obtain rfl : a2736 = a2803 := (m2737).symm.trans m2804
                refine fg_RX0_151 E hW r2738 dX0_passWeek_72 (fun a2806 m2807 r2808 => ?_)
                refine lv_iload_n hx hb dX0_passWeek_75 rfl (lv_at hl 0 rfl) ?_
                refine gl_706 E hW r2808 ⟨by omega, by omega⟩ dX0_passWeek_76 (fun y2809 m2810 => ?_)
                refine lv_iconst (v := 1) hx hb dX0_passWeek_77 (by decide) ?_
                refine q_icmp_ne (Y := 1) (tgt := 86) hx hb dX0_passWeek_78 (by decide) rfl rfl (fun c2812 => ?_) (fun c2812 => ?_)
                · refine q_iinc hx hb dX0_passWeek_86 hl (k := 0) rfl rfl rfl (by omega) (by decide) (fun i2813 ls h2814 hl => ?_)
                  have hl : lv_has ls 2 [(1, .int i2813), (0, .ref h0)] := hl
                  refine lv_goto (tgt := 57) hx hb dX0_passWeek_89 (by decide) ?_
                  exact ih57 f2729 i2813 m2730 m2731 (by omega) z2734 (by omega) _ _ _ hW hF (lv_sub hl [0, 1] rfl)
                · refine lv_aload_n hx hb dX0_passWeek_81 rfl (lv_at hl 1 rfl) ?_
                  refine lv_iload_n hx hb dX0_passWeek_82 rfl (lv_at hl 0 rfl) ?_
                  have hW0 := hW.2.2.2
                  refine t_callV (As := [.int y2732]) (rest := []) E hW (c_X0_advanceWrit_u l G cI cJ cZ cD cR cT kp L f2729 hW.2.2.2 _ h0 y2732 rh0 (by omega)) rh0 (by decide) rfl wk_X0_advanceWrit tw_1146 rfl ⟨Nat.le_of_ble_eq_true rfl, Nat.le_of_ble_eq_true rfl⟩ ⟨rfl, rfl⟩ hl.1 rfl (Nat.le_of_ble_eq_true rfl) dX0_passWeek_83 ⟨Nat.le_of_ble_eq_true rfl, Nat.le_of_ble_eq_true rfl⟩ (fun v2815 f2816 H locs q2817 hW => ?_)
                  obtain ⟨rfl, g2818, h2819⟩ := q2817
                  have hF := FM.tr hF g2818 rfl
                  have z2821 : WU kp L [] f0 f2816 := wu_call z2734 h2819 (fun q h => absurd h List.not_mem_nil)
                  refine q_iinc hx hb dX0_passWeek_86 hl (k := 0) rfl rfl rfl (by omega) (by decide) (fun i2822 ls h2823 hl => ?_)
                  have hl : lv_has ls 2 [(1, .int i2822), (0, .ref h0)] := hl
                  refine lv_goto (tgt := 57) hx hb dX0_passWeek_89 (by decide) ?_
                  exact ih57 f2816 i2822 ((fm_I g2818 rh0 rfl).trans m2730) ((fm_I g2818 rh0 rfl).trans m2731) (by omega) z2821 (by omega) _ _ _ hW hF (lv_sub hl [0, 1] rfl)
          have hk2824 : (0 : Int32).toInt = 0 := rfl
          exact L2735 61 f1871 0 ((fm_I g1873 rh0 rfl).trans ((fm_I g1868 rh0 rfl).trans m940)) m1876 (by decide) z1874 (by omega) _ _ _ hW hF (lv_sub hl [0, 1] rfl)
        · refine lv_aload_n hx hb dX0_passWeek_51 rfl (lv_at hl 0 rfl) ?_
          have hW0 := hW.2.2.2
          refine t_callV (As := []) (rest := []) E hW (c_X0_tellWrits l G cI cJ cZ cD cR cT kp L f1871 hW.2.2.2 _ h0 rh0) rh0 (by decide) rfl wk_X0_tellWrits tw_1139 rfl ⟨Nat.le_of_ble_eq_true rfl, Nat.le_of_ble_eq_true rfl⟩ ⟨rfl, rfl⟩ hl.1 rfl (Nat.le_of_ble_eq_true rfl) dX0_passWeek_52 ⟨Nat.le_of_ble_eq_true rfl, Nat.le_of_ble_eq_true rfl⟩ (fun v2825 f2826 H locs q2827 hW => ?_)
          obtain ⟨rfl, g2828⟩ := q2827
          have z2829 : WU kp L [] f0 f2826 := wu_fm z1874 g2828 rfl
          have hF := FM.tr hF g2828 rfl
          refine lv_iconst (v := 0) hx hb dX0_passWeek_55 (by decide) ?_
          refine lv_istore_n (lv' := [(1, .int 0), (0, .ref h0)]) hx hb dX0_passWeek_56 rfl hl (by decide) rfl (fun ls hl => ?_)
          have L3686 : ∀ (n : Nat), ∀ (f3680 : Nat → va_E) (y3683 : Int32) (m3681 : oI (f3680 h0) 6 = y1) (m3682 : oI (f3680 h0) 9 = y1875) (b3684 : (0 : Int) ≤ y3683.toInt ∧ y3683.toInt ≤ 60) (z3685 : WU kp L [] f0 f3680) (hm : (61 : Int) - y3683.toInt ≤ n) (H : Heap) (locs : List Loc) (ls : Array Slot), WS G cI cJ cZ cD cR cT A kp L f3680 s H locs → FM kp L ms_X0_passWeek_u f0 f3680 → lv_has ls 2 [(1, .int y3683), (0, .ref h0)] → W p l e ({ frames := 6, cells := 0, slots := 0, locals := 170 }) s m ([.ref h0] : List Value).toArray below meth c H locs 0 0 (MQ below (QT (po_X0_passWeek_u kp L f0 h0) G cI cJ cZ cD cR cT A kp L) ([.ref h0] : List Value).toArray s 0 0 A) (F0 m 57 ls []) := by
            intro n
            induction n with
            | zero =>
              intro f3680 y3683 m3681 m3682 b3684 z3685 hm H locs ls hW hF hl
              have hz := i32_b y3683
              exfalso; omega
            | succ n ih =>
              intro f3680 y3683 m3681 m3682 b3684 z3685 hm H locs ls hW hF hl
              have ih57 := ih
              refine lv_iload_n hx hb dX0_passWeek_57 rfl (lv_at hl 0 rfl) ?_
              refine lv_aload_n hx hb dX0_passWeek_58 rfl (lv_at hl 1 rfl) ?_
              refine fg_RX0_28 E hW rh0 dX0_passWeek_59 (fun a3687 m3688 r3689 => ?_)
              refine fg_RX0_148 E hW r3689 dX0_passWeek_62 (fun y3690 m3691 b3692 => ?_)
              refine q_icmp_ge (tgt := 92) hx hb dX0_passWeek_65 (by decide) rfl rfl (fun c3693 => ?_) (fun c3693 => ?_)
              · refine lv_aload_n hx hb dX0_passWeek_92 rfl (lv_at hl 1 rfl) ?_
                have hW0 := hW.2.2.2
                refine t_callV (As := []) (rest := []) E hW (c_X0_payDraws l G cI cJ cZ cD cR cT kp L f3680 hW.2.2.2 _ h0 rh0) rh0 (by decide) rfl wk_X0_payDraws tw_1158 rfl ⟨Nat.le_of_ble_eq_true rfl, Nat.le_of_ble_eq_true rfl⟩ ⟨rfl, rfl⟩ hl.1 rfl (Nat.le_of_ble_eq_true rfl) dX0_passWeek_93 ⟨Nat.le_of_ble_eq_true rfl, Nat.le_of_ble_eq_true rfl⟩ (fun v3694 f3695 H locs q3696 hW => ?_)
                obtain ⟨rfl, g3697⟩ := q3696
                have z3698 : WU kp L [] f0 f3695 := wu_fm z3685 g3697 rfl
                have hF := FM.tr hF g3697 rfl
                refine lv_aload_n hx hb dX0_passWeek_96 rfl (lv_at hl 1 rfl) ?_
                refine fg_RX0_64 E hW rh0 dX0_passWeek_97 (fun y3699 m3700 b3701 => ?_)
                refine q_if_eq (tgt := 113) hx hb dX0_passWeek_100 (by decide) rfl (fun c3702 => ?_) (fun c3702 => ?_)
                · refine lv_aload_n hx hb dX0_passWeek_113 rfl (lv_at hl 1 rfl) ?_
                  have hW0 := hW.2.2.2
                  refine t_callV (As := []) (rest := []) E hW (c_X0_renewBans l G cI cJ cZ cD cR cT kp L f3695 hW.2.2.2 _ h0 rh0) rh0 (by decide) rfl wk_X0_renewBans tw_1171 rfl ⟨Nat.le_of_ble_eq_true rfl, Nat.le_of_ble_eq_true rfl⟩ ⟨rfl, rfl⟩ hl.1 rfl (Nat.le_of_ble_eq_true rfl) dX0_passWeek_114 ⟨Nat.le_of_ble_eq_true rfl, Nat.le_of_ble_eq_true rfl⟩ (fun v3703 f3704 H locs q3705 hW => ?_)
                  obtain ⟨rfl, g3706⟩ := q3705
                  have z3707 : WU kp L [] f0 f3704 := wu_fm z3698 g3706 rfl
                  have hF := FM.tr hF g3706 rfl
                  refine lv_aload_n hx hb dX0_passWeek_117 rfl (lv_at hl 1 rfl) ?_
                  refine lv_dup hx hb dX0_passWeek_118 rfl ?_
                  refine fg_RX0_93 E hW rh0 dX0_passWeek_119 (fun y3708 m3709 b3710 => ?_)
                  obtain rfl : y1 = y3708 := (((fm_I g3706 rh0 rfl).trans ((fm_I g3697 rh0 rfl).trans m3681))).symm.trans m3709
                  refine lv_iconst (v := 1) hx hb dX0_passWeek_122 (by decide) ?_
                  refine q_iadd (Y := 1) hx hb dX0_passWeek_123 rfl rfl (by omega) (fun x3711 h3712 => ?_)
                  have hW0 := hW.2.2.2
                  refine fp_RX0_93 E hW rh0 (by omega) dX0_passWeek_124 (fun f3713 H locs e3714 n3715 g3716 hW => ?_)
                  have z3717 : WU kp L [] f0 f3713 := wu_fm z3707 g3716 rfl
                  have hF := FM.tr hF g3716 rfl
                  exact e_V E hW rfl ⟨rfl, hF, z3717⟩ dX0_passWeek_127
                · refine lv_aload_n hx hb dX0_passWeek_103 rfl (lv_at hl 1 rfl) ?_
                  refine fg_RX0_42 E hW rh0 dX0_passWeek_104 (fun a3718 m3719 r3720 => ?_)
                  have hW0 := hW.2.2.2
                  refine t_callV (As := []) (rest := []) E hW (c_X2_asksBanned l G cI cJ cZ cD cR cT kp L f3695 hW.2.2.2 _ a3718 r3720) r3720 (by decide) rfl wk_X2_asksBanned tw_1167 rfl ⟨Nat.le_of_ble_eq_true rfl, Nat.le_of_ble_eq_true rfl⟩ ⟨rfl, rfl⟩ hl.1 rfl (Nat.le_of_ble_eq_true rfl) dX0_passWeek_107 ⟨Nat.le_of_ble_eq_true rfl, Nat.le_of_ble_eq_true rfl⟩ (fun v3721 f3722 H locs q3723 hW => ?_)
                  obtain ⟨⟨x3725, rfl, p3726⟩, g3724⟩ := q3723
                  have z3727 : WU kp L [] f0 f3722 := wu_fm z3698 g3724 rfl
                  have hF := FM.tr hF g3724 rfl
                  refine q_if_eq (tgt := 117) hx hb dX0_passWeek_110 (by decide) rfl (fun c3728 => ?_) (fun c3728 => ?_)
                  · refine lv_aload_n hx hb dX0_passWeek_117 rfl (lv_at hl 1 rfl) ?_
                    refine lv_dup hx hb dX0_passWeek_118 rfl ?_
                    refine fg_RX0_93 E hW rh0 dX0_passWeek_119 (fun y3729 m3730 b3731 => ?_)
                    obtain rfl : y1 = y3729 := (((fm_I g3724 rh0 rfl).trans ((fm_I g3697 rh0 rfl).trans m3681))).symm.trans m3730
                    refine lv_iconst (v := 1) hx hb dX0_passWeek_122 (by decide) ?_
                    refine q_iadd (Y := 1) hx hb dX0_passWeek_123 rfl rfl (by omega) (fun x3732 h3733 => ?_)
                    have hW0 := hW.2.2.2
                    refine fp_RX0_93 E hW rh0 (by omega) dX0_passWeek_124 (fun f3734 H locs e3735 n3736 g3737 hW => ?_)
                    have z3738 : WU kp L [] f0 f3734 := wu_fm z3727 g3737 rfl
                    have hF := FM.tr hF g3737 rfl
                    exact e_V E hW rfl ⟨rfl, hF, z3738⟩ dX0_passWeek_127
                  · refine lv_aload_n hx hb dX0_passWeek_113 rfl (lv_at hl 1 rfl) ?_
                    have hW0 := hW.2.2.2
                    refine t_callV (As := []) (rest := []) E hW (c_X0_renewBans l G cI cJ cZ cD cR cT kp L f3722 hW.2.2.2 _ h0 rh0) rh0 (by decide) rfl wk_X0_renewBans tw_1171 rfl ⟨Nat.le_of_ble_eq_true rfl, Nat.le_of_ble_eq_true rfl⟩ ⟨rfl, rfl⟩ hl.1 rfl (Nat.le_of_ble_eq_true rfl) dX0_passWeek_114 ⟨Nat.le_of_ble_eq_true rfl, Nat.le_of_ble_eq_true rfl⟩ (fun v3739 f3740 H locs q3741 hW => ?_)
                    obtain ⟨rfl, g3742⟩ := q3741
                    have z3743 : WU kp L [] f0 f3740 := wu_fm z3727 g3742 rfl
                    have hF := FM.tr hF g3742 rfl
                    refine lv_aload_n hx hb dX0_passWeek_117 rfl (lv_at hl 1 rfl) ?_
                    refine lv_dup hx hb dX0_passWeek_118 rfl ?_
                    refine fg_RX0_93 E hW rh0 dX0_passWeek_119 (fun y3744 m3745 b3746 => ?_)
                    obtain rfl : y1 = y3744 := (((fm_I g3742 rh0 rfl).trans ((fm_I g3724 rh0 rfl).trans ((fm_I g3697 rh0 rfl).trans m3681)))).symm.trans m3745
                    refine lv_iconst (v := 1) hx hb dX0_passWeek_122 (by decide) ?_
                    refine q_iadd (Y := 1) hx hb dX0_passWeek_123 rfl rfl (by omega) (fun x3747 h3748 => ?_)
                    have hW0 := hW.2.2.2
                    refine fp_RX0_93 E hW rh0 (by omega) dX0_passWeek_124 (fun f3749 H locs e3750 n3751 g3752 hW => ?_)
                    have z3753 : WU kp L [] f0 f3749 := wu_fm z3743 g3752 rfl
                    have hF := FM.tr hF g3752 rfl
                    exact e_V E hW rfl ⟨rfl, hF, z3753⟩ dX0_passWeek_127
              · refine lv_aload_n hx hb dX0_passWeek_68 rfl (lv_at hl 1 rfl) ?_
                refine fg_RX0_28 E hW rh0 dX0_passWeek_69 (fun a3754 m3755 r3756 => ?_)
                obtain rfl : a3687 = a3754 := (m3688).symm.trans m3755
                refine fg_RX0_151 E hW r3689 dX0_passWeek_72 (fun a3757 m3758 r3759 => ?_)
                refine lv_iload_n hx hb dX0_passWeek_75 rfl (lv_at hl 0 rfl) ?_
                refine gl_706 E hW r3759 ⟨by omega, by omega⟩ dX0_passWeek_76 (fun y3760 m3761 => ?_)
                refine lv_iconst (v := 1) hx hb dX0_passWeek_77 (by decide) ?_
                refine q_icmp_ne (Y := 1) (tgt := 86) hx hb dX0_passWeek_78 (by decide) rfl rfl (fun c3763 => ?_) (fun c3763 => ?_)
                · refine q_iinc hx hb dX0_passWeek_86 hl (k := 0) rfl rfl rfl (by omega) (by decide) (fun i3764 ls h3765 hl => ?_)
                  have hl : lv_has ls 2 [(1, .int i3764), (0, .ref h0)] := hl
                  refine lv_goto (tgt := 57) hx hb dX0_passWeek_89 (by decide) ?_
                  exact ih57 f3680 i3764 m3681 m3682 (by omega) z3685 (by omega) _ _ _ hW hF (lv_sub hl [0, 1] rfl)
                · refine lv_aload_n hx hb dX0_passWeek_81 rfl (lv_at hl 1 rfl) ?_
                  refine lv_iload_n hx hb dX0_passWeek_82 rfl (lv_at hl 0 rfl) ?_
                  have hW0 := hW.2.2.2
                  refine t_callV (As := [.int y3683]) (rest := []) E hW (c_X0_advanceWrit_u l G cI cJ cZ cD cR cT kp L f3680 hW.2.2.2 _ h0 y3683 rh0 (by omega)) rh0 (by decide) rfl wk_X0_advanceWrit tw_1146 rfl ⟨Nat.le_of_ble_eq_true rfl, Nat.le_of_ble_eq_true rfl⟩ ⟨rfl, rfl⟩ hl.1 rfl (Nat.le_of_ble_eq_true rfl) dX0_passWeek_83 ⟨Nat.le_of_ble_eq_true rfl, Nat.le_of_ble_eq_true rfl⟩ (fun v3766 f3767 H locs q3768 hW => ?_)
                  obtain ⟨rfl, g3769, h3770⟩ := q3768
                  have hF := FM.tr hF g3769 rfl
                  have z3772 : WU kp L [] f0 f3767 := wu_call z3685 h3770 (fun q h => absurd h List.not_mem_nil)
                  refine q_iinc hx hb dX0_passWeek_86 hl (k := 0) rfl rfl rfl (by omega) (by decide) (fun i3773 ls h3774 hl => ?_)
                  have hl : lv_has ls 2 [(1, .int i3773), (0, .ref h0)] := hl
                  refine lv_goto (tgt := 57) hx hb dX0_passWeek_89 (by decide) ?_
                  exact ih57 f3767 i3773 ((fm_I g3769 rh0 rfl).trans m3681) ((fm_I g3769 rh0 rfl).trans m3682) (by omega) z3772 (by omega) _ _ _ hW hF (lv_sub hl [0, 1] rfl)
          have hk3775 : (0 : Int32).toInt = 0 := rfl
          exact L3686 61 f2826 0 ((fm_I g2828 rh0 rfl).trans ((fm_I g1873 rh0 rfl).trans ((fm_I g1868 rh0 rfl).trans m940))) ((fm_I g2828 rh0 rfl).trans m1876) (by decide) z2829 (by omega) _ _ _ hW hF (lv_sub hl [0, 1] rfl)
  · exact e_V E hW rfl ⟨rfl, hF, (wu_rf : WU kp L [] f0 f0)⟩ dX0_passWeek_10
def ms_X11_go_u : List (Nat × Nat) := [(0, 6), (0, 12), (0, 13), (0, 14), (3, 0), (10, 0), (11, 15), (115, 0), (164, 0), (165, 0), (166, 0), (167, 0), (169, 0), (171, 0), (222, 0), (223, 0), (342, 0), (345, 0), (346, 0), (347, 0), (348, 0), (349, 0), (701, 0), (702, 0), (703, 0), (704, 0), (705, 0), (706, 0)]
def po_X11_go_u (kp : Nat → Nat) (L : List Nat) (f0 : Nat → va_E) (h0 : Nat) (u1 : Int32) : Option Value → (Nat → va_E) → Prop := fun v f => (∃ r : Int32, v = some (.int r) ∧ (True)) ∧ FM kp L ms_X11_go_u f0 f ∧ (WU kp L [] f0 f)
set_option maxHeartbeats 4000000 in
set_option maxRecDepth 100000 in
theorem c_X11_go_u (l : Launch) (G : va_G) (cI cJ cZ cD cR cT : ClassId) (kp : Nat → Nat) (L : List Nat) (f0 : Nat → va_E) (hTH : TH cI cJ cZ cD cR cT kp L f0) (sz : Nat) (h0 : Nat) (u1 : Int32) (rh0 : RK kp L h0 11) : Met l yX11_go (Cond.code yX11_go cX11_go 3 (some .int) :: wTab) ({ frames := 7, cells := 0, slots := 0, locals := 191 }) (va_Pc [.ref h0, .int u1] (PreW G (tys6 cI cJ cZ cD cR cT) (va_pl L f0) sz)) (QT (po_X11_go_u kp L f0 h0 u1) G cI cJ cZ cD cR cT (va_A (va_pl L f0) sz) kp L) 0 0 (va_A (va_pl L f0) sz) := by
  refine metT (by decide) (Nat.le_of_ble_eq_true rfl) hTH ?_
  intro p e s m below meth c A ls E hW hl
  obtain ⟨hx, hb, -, hml, hown, hts, -, -, -⟩ := id E
  have hF : FM kp L ms_X11_go_u f0 f0 := FM.rf
  have hl : lv_has ls 3 [(0, .ref h0), (1, .int u1)] := hl
  refine lv_aload_n hx hb dX11_go_0 rfl (lv_at hl 0 rfl) ?_
  refine lv_iload_n hx hb dX11_go_1 rfl (lv_at hl 1 rfl) ?_
  have hW0 := hW.2.2.2
  refine t_callV (As := [.int u1]) (rest := []) E hW (c_X11_canGo l G cI cJ cZ cD cR cT kp L f0 hW.2.2.2 _ h0 u1 rh0) rh0 (by decide) rfl wk_X11_canGo tw_1110 rfl ⟨Nat.le_of_ble_eq_true rfl, Nat.le_of_ble_eq_true rfl⟩ ⟨rfl, rfl⟩ hl.1 rfl (Nat.le_of_ble_eq_true rfl) dX11_go_2 ⟨Nat.le_of_ble_eq_true rfl, Nat.le_of_ble_eq_true rfl⟩ (fun v1 f2 H locs q3 hW => ?_)
  obtain ⟨⟨x5, rfl, p6⟩, g4⟩ := q3
  have z7 : WU kp L [] f0 f2 := wu_fm (wu_rf : WU kp L [] f0 f0) g4 rfl
  have hF := FM.tr hF g4 rfl
  refine q_if_ne (tgt := 14) hx hb dX11_go_5 (by decide) rfl (fun c8 => ?_) (fun c8 => ?_)
  · have q9 : 1 ≤ u1.toInt ∧ u1.toInt ≤ 104 := by omega
    clear p6
    refine lv_iconst (v := 0) hx hb dX11_go_14 (by decide) ?_
    refine lv_istore_n (lv' := [(2, .int 0), (0, .ref h0), (1, .int u1)]) hx hb dX11_go_15 rfl hl (by decide) rfl (fun ls hl => ?_)
    have L609 : ∀ (n : Nat), ∀ (f605 : Nat → va_E) (y606 : Int32) (b607 : (0 : Int) ≤ y606.toInt ∧ y606.toInt ≤ 104) (z608 : WU kp L [] f0 f605) (hm : (105 : Int) - y606.toInt ≤ n) (H : Heap) (locs : List Loc) (ls : Array Slot), WS G cI cJ cZ cD cR cT A kp L f605 s H locs → FM kp L ms_X11_go_u f0 f605 → lv_has ls 3 [(2, .int y606), (0, .ref h0), (1, .int u1)] → W p l e ({ frames := 7, cells := 0, slots := 0, locals := 191 }) s m ([.ref h0, .int u1] : List Value).toArray below meth c H locs 0 0 (MQ below (QT (po_X11_go_u kp L f0 h0 u1) G cI cJ cZ cD cR cT A kp L) ([.ref h0, .int u1] : List Value).toArray s 0 0 A) (F0 m 16 ls []) := by
      intro n
      induction n with
      | zero =>
        intro f605 y606 b607 z608 hm H locs ls hW hF hl
        have hz := i32_b y606
        exfalso; omega
      | succ n ih =>
        intro f605 y606 b607 z608 hm H locs ls hW hF hl
        clear c8
        have ih16 := ih
        refine lv_iload_n hx hb dX11_go_16 rfl (lv_at hl 0 rfl) ?_
        refine lv_iload_n hx hb dX11_go_17 rfl (lv_at hl 2 rfl) ?_
        refine q_icmp_ge (tgt := 34) hx hb dX11_go_18 (by decide) rfl rfl (fun c622 => ?_) (fun c622 => ?_)
        · refine lv_aload_n hx hb dX11_go_34 rfl (lv_at hl 1 rfl) ?_
          refine lv_aload_n hx hb dX11_go_35 rfl (lv_at hl 1 rfl) ?_
          refine fg_RX11_12 E hW rh0 dX11_go_36 (fun a623 m624 r625 => ?_)
          refine fg_RX11_255 E hW r625 dX11_go_39 (fun y626 m627 b628 => ?_)
          have hW0 := hW.2.2.2
          refine t_callV (As := [.int y626]) (rest := []) E hW (c_X11_accept_x l G cI cJ cZ cD cR cT kp L f605 hW.2.2.2 _ h0 y626 rh0) rh0 (by decide) rfl wk_X11_accept tw_611 rfl ⟨Nat.le_of_ble_eq_true rfl, Nat.le_of_ble_eq_true rfl⟩ ⟨rfl, rfl⟩ hl.1 rfl (Nat.le_of_ble_eq_true rfl) dX11_go_42 ⟨Nat.le_of_ble_eq_true rfl, Nat.le_of_ble_eq_true rfl⟩ (fun v629 f630 H locs q631 hW => ?_)
          obtain ⟨⟨x633, rfl, p634⟩, g632⟩ := q631
          have z635 : WU kp L [] f0 f630 := wu_fm z608 g632 rfl
          have hF := FM.tr hF g632 rfl
          exact e_I E hW rfl ⟨⟨_, rfl, trivial⟩, hF, z635⟩ dX11_go_45
        · refine lv_aload_n hx hb dX11_go_21 rfl (lv_at hl 1 rfl) ?_
          refine fg_RX11_12 E hW rh0 dX11_go_22 (fun a636 m637 r638 => ?_)
          have hW0 := hW.2.2.2
          refine t_callV (As := []) (rest := []) E hW (c_X0_passWeek_u l G cI cJ cZ cD cR cT kp L f605 hW.2.2.2 _ a636 r638) r638 (by decide) rfl wk_X0_passWeek tw_1114 rfl ⟨Nat.le_of_ble_eq_true rfl, Nat.le_of_ble_eq_true rfl⟩ ⟨rfl, rfl⟩ hl.1 rfl (Nat.le_of_ble_eq_true rfl) dX11_go_25 ⟨Nat.le_of_ble_eq_true rfl, Nat.le_of_ble_eq_true rfl⟩ (fun v639 f640 H locs q641 hW => ?_)
          obtain ⟨rfl, g642, h643⟩ := q641
          have hF := FM.tr hF g642 rfl
          have z645 : WU kp L [] f0 f640 := wu_call z608 h643 (fun q h => absurd h List.not_mem_nil)
          refine q_iinc hx hb dX11_go_28 hl (k := 0) rfl rfl rfl (by omega) (by decide) (fun i646 ls h647 hl => ?_)
          have hl : lv_has ls 3 [(2, .int i646), (0, .ref h0), (1, .int u1)] := hl
          refine lv_goto (tgt := 16) hx hb dX11_go_31 (by decide) ?_
          exact ih16 f640 i646 (by omega) z645 (by omega) _ _ _ hW hF (lv_sub hl [0, 1, 2] rfl)
    have hk648 : (0 : Int32).toInt = 0 := rfl
    exact L609 105 f2 0 (by decide) z7 (by omega) _ _ _ hW hF (lv_sub hl [0, 1, 2] rfl)
  · clear p6
    refine lv_aload_n hx hb dX11_go_8 rfl (lv_at hl 0 rfl) ?_
    refine lv_iconst (v := (-1)) hx hb dX11_go_9 (by decide) ?_
    have hW0 := hW.2.2.2
    refine t_callV (As := [.int (-1)]) (rest := []) E hW (c_X11_refuse_x l G cI cJ cZ cD cR cT kp L f2 hW.2.2.2 _ h0 (-1) rh0 (by decide)) rh0 (by decide) rfl wk_X11_refuse tw_603 rfl ⟨Nat.le_of_ble_eq_true rfl, Nat.le_of_ble_eq_true rfl⟩ ⟨rfl, rfl⟩ hl.1 rfl (Nat.le_of_ble_eq_true rfl) dX11_go_10 ⟨Nat.le_of_ble_eq_true rfl, Nat.le_of_ble_eq_true rfl⟩ (fun v649 f650 H locs q651 hW => ?_)
    obtain ⟨⟨x653, rfl, p654⟩, g652⟩ := q651
    have p654 : x653.toInt = (-1 : Int) := p654
    have z655 : WU kp L [] f0 f650 := wu_fm z7 g652 rfl
    have hF := FM.tr hF g652 rfl
    exact e_I E hW rfl ⟨⟨_, rfl, trivial⟩, hF, z655⟩ dX11_go_13
def ms_X4_copyFrom_u : List (Nat × Nat) := [(4, 0), (341, 0), (342, 0), (343, 0), (344, 0), (345, 0), (346, 0), (347, 0), (348, 0)]
def po_X4_copyFrom_u (kp : Nat → Nat) (L : List Nat) (f0 : Nat → va_E) (h0 : Nat) (u1 : Nat) : Option Value → (Nat → va_E) → Prop := fun v f => v = none ∧ FM kp L ms_X4_copyFrom_u f0 f ∧ (P8 f h0 = P8 f0 u1) ∧ (WU kp L [h0, (oR (f0 h0) 1), (oR (f0 h0) 3), (oR (f0 h0) 4), (oR (f0 h0) 6)] f0 f)
set_option maxHeartbeats 4000000 in
set_option maxRecDepth 100000 in
theorem c_X4_copyFrom_u (l : Launch) (G : va_G) (cI cJ cZ cD cR cT : ClassId) (kp : Nat → Nat) (L : List Nat) (f0 : Nat → va_E) (hTH : TH cI cJ cZ cD cR cT kp L f0) (sz : Nat) (h0 : Nat) (u1 : Nat) (rh0 : RK kp L h0 4) (ru1 : RK kp L u1 4) : Met l yX4_copyFrom (Cond.code yX4_copyFrom cX4_copyFrom 2 none :: wTab) ({ frames := 1, cells := 0, slots := 0, locals := 60 }) (va_Pc [.ref h0, .ref u1] (PreW G (tys6 cI cJ cZ cD cR cT) (va_pl L f0) sz)) (QT (po_X4_copyFrom_u kp L f0 h0 u1) G cI cJ cZ cD cR cT (va_A (va_pl L f0) sz) kp L) 0 0 (va_A (va_pl L f0) sz) := by
  refine metT (by decide) (Nat.le_of_ble_eq_true rfl) hTH ?_
  intro p e s m below meth c A ls E hW hl
  obtain ⟨hx, hb, -, hml, hown, hts, -, -, -⟩ := id E
  have hF : FM kp L ms_X4_copyFrom_u f0 f0 := FM.rf
  have hl : lv_has ls 2 [(0, .ref h0), (1, .ref u1)] := hl
  obtain ⟨N1, mN1⟩ : ∃ x : Nat, oR (f0 h0) 1 = x := ⟨_, rfl⟩
  have rN1 : RK kp L N1 341 := by rw [← mN1]; exact th_ref hTH rh0 (by decide) (by decide) rfl
  obtain ⟨N3, mN3⟩ : ∃ x : Nat, oR (f0 h0) 3 = x := ⟨_, rfl⟩
  have rN3 : RK kp L N3 343 := by rw [← mN3]; exact th_ref hTH rh0 (by decide) (by decide) rfl
  obtain ⟨N4, mN4⟩ : ∃ x : Nat, oR (f0 h0) 4 = x := ⟨_, rfl⟩
  have rN4 : RK kp L N4 344 := by rw [← mN4]; exact th_ref hTH rh0 (by decide) (by decide) rfl
  obtain ⟨N6, mN6⟩ : ∃ x : Nat, oR (f0 h0) 6 = x := ⟨_, rfl⟩
  have rN6 : RK kp L N6 346 := by rw [← mN6]; exact th_ref hTH rh0 (by decide) (by decide) rfl
  obtain ⟨U1, mU1⟩ : ∃ x : Nat, oR (f0 u1) 1 = x := ⟨_, rfl⟩
  have rU1 : RK kp L U1 341 := by rw [← mU1]; exact th_ref hTH ru1 (by decide) (by decide) rfl
  obtain ⟨U3, mU3⟩ : ∃ x : Nat, oR (f0 u1) 3 = x := ⟨_, rfl⟩
  have rU3 : RK kp L U3 343 := by rw [← mU3]; exact th_ref hTH ru1 (by decide) (by decide) rfl
  obtain ⟨U4, mU4⟩ : ∃ x : Nat, oR (f0 u1) 4 = x := ⟨_, rfl⟩
  have rU4 : RK kp L U4 344 := by rw [← mU4]; exact th_ref hTH ru1 (by decide) (by decide) rfl
  obtain ⟨U6, mU6⟩ : ∃ x : Nat, oR (f0 u1) 6 = x := ⟨_, rfl⟩
  have rU6 : RK kp L U6 346 := by rw [← mU6]; exact th_ref hTH ru1 (by decide) (by decide) rfl
  obtain ⟨vc, mvc⟩ : ∃ x : Int32, oI (f0 u1) 0 = x := ⟨_, rfl⟩
  have bvc : (0 : Int) ≤ vc.toInt ∧ vc.toInt ≤ 40 := by rw [← mvc]; exact th_iv hW ru1 (by decide) (by decide) rfl
  refine lv_aload_n hx hb dX4_copyFrom_0 rfl (lv_at hl 0 rfl) ?_
  refine lv_aload_n hx hb dX4_copyFrom_1 rfl (lv_at hl 1 rfl) ?_
  refine fg_RX4_39 E hW ru1 dX4_copyFrom_2 (fun y1 m2 b3 => ?_)
  obtain rfl : vc = y1 := (mvc).symm.trans m2
  have hW0 := hW.2.2.2
  refine fp_RX4_39 E hW rh0 (by omega) dX4_copyFrom_5 (fun f4 H locs e5 n6 g7 hW => ?_)
  have z8 : WU kp L [h0, N1, N3, N4, N6] f0 f4 := wu_put (wu_rf : WU kp L [h0, N1, N3, N4, N6] f0 f0) n6 (by simp)
  have hF := FM.tr hF g7 rfl
  refine lv_aload_n hx hb dX4_copyFrom_8 rfl (lv_at hl 1 rfl) ?_
  refine fg_RX4_9 E hW ru1 dX4_copyFrom_9 (fun a9 m10 r11 => ?_)
  obtain rfl : U1 = a9 := (((fm_R g7 ru1 rfl).trans mU1)).symm.trans m10
  refine lv_iconst (v := 0) hx hb dX4_copyFrom_12 (by decide) ?_
  refine lv_aload_n hx hb dX4_copyFrom_13 rfl (lv_at hl 0 rfl) ?_
  refine fg_RX4_9 E hW rh0 dX4_copyFrom_14 (fun a12 m13 r14 => ?_)
  obtain rfl : N1 = a12 := (((fm_R g7 rh0 rfl).trans mN1)).symm.trans m13
  refine lv_iconst (v := 0) hx hb dX4_copyFrom_17 (by decide) ?_
  refine lv_bipush (v := 40) hx hb dX4_copyFrom_18 (by decide) ?_
  have hW0 := hW.2.2.2
  refine t_copyx (N := 40) (n0 := 40) (n1 := 40) E hW tw_1293 ⟨tw_1004, tw_1003, tw_122⟩ hl.1 rfl rU1 (by decide) rfl rN1 (by decide) rfl rfl (by decide) rfl (by decide) (by decide) (by decide) (fun _ _ => trivial) ⟨Nat.le_of_ble_eq_true rfl, Nat.le_of_ble_eq_true rfl⟩ dX4_copyFrom_20 (fun f15 H locs n17 e16 g18 hW => ?_)
  have z19 : WU kp L [h0, N1, N3, N4, N6] f0 f15 := wu_put z8 n17 (by simp)
  have hF := FM.tr hF g18 rfl
  refine lv_aload_n hx hb dX4_copyFrom_23 rfl (lv_at hl 1 rfl) ?_
  refine fg_RX4_15 E hW ru1 dX4_copyFrom_24 (fun a20 m21 r22 => ?_)
  refine lv_iconst (v := 0) hx hb dX4_copyFrom_27 (by decide) ?_
  refine lv_aload_n hx hb dX4_copyFrom_28 rfl (lv_at hl 0 rfl) ?_
  refine fg_RX4_15 E hW rh0 dX4_copyFrom_29 (fun a23 m24 r25 => ?_)
  refine lv_iconst (v := 0) hx hb dX4_copyFrom_32 (by decide) ?_
  refine lv_bipush (v := 40) hx hb dX4_copyFrom_33 (by decide) ?_
  have hW0 := hW.2.2.2
  refine t_copyx (N := 40) (n0 := 40) (n1 := 40) E hW tw_1293 ⟨tw_1004, tw_1003, tw_122⟩ hl.1 rfl r22 (by decide) rfl r25 (by decide) rfl rfl (by decide) rfl (by decide) (by decide) (by decide) (fun _ _ => trivial) ⟨Nat.le_of_ble_eq_true rfl, Nat.le_of_ble_eq_true rfl⟩ dX4_copyFrom_35 (fun f26 H locs n28 e27 g29 hW => ?_)
  have m30 : aI (f26 N3) = aI (f0 N3) := ((congrArg aI (fm_A g29 rN3 (by decide) rfl)).trans ((congrArg aI (fm_A g18 rN3 (by decide) rfl)).trans ((congrArg aI (fm_A g7 rN3 (by decide) rfl)).trans (rfl : aI (f0 N3) = aI (f0 N3)))))
  have m31 : aI (f26 N4) = aI (f0 N4) := ((congrArg aI (fm_A g29 rN4 (by decide) rfl)).trans ((congrArg aI (fm_A g18 rN4 (by decide) rfl)).trans ((congrArg aI (fm_A g7 rN4 (by decide) rfl)).trans (rfl : aI (f0 N4) = aI (f0 N4)))))
  have m32 : aI (f26 N6) = aI (f0 N6) := ((congrArg aI (fm_A g29 rN6 (by decide) rfl)).trans ((congrArg aI (fm_A g18 rN6 (by decide) rfl)).trans ((congrArg aI (fm_A g7 rN6 (by decide) rfl)).trans (rfl : aI (f0 N6) = aI (f0 N6)))))
  have m33 : aI (f26 U3) = aI (f0 U3) := ((congrArg aI (fm_A g29 rU3 (by decide) rfl)).trans ((congrArg aI (fm_A g18 rU3 (by decide) rfl)).trans ((congrArg aI (fm_A g7 rU3 (by decide) rfl)).trans (rfl : aI (f0 U3) = aI (f0 U3)))))
  have m34 : aI (f26 U4) = aI (f0 U4) := ((congrArg aI (fm_A g29 rU4 (by decide) rfl)).trans ((congrArg aI (fm_A g18 rU4 (by decide) rfl)).trans ((congrArg aI (fm_A g7 rU4 (by decide) rfl)).trans (rfl : aI (f0 U4) = aI (f0 U4)))))
  have m35 : aI (f26 U6) = aI (f0 U6) := ((congrArg aI (fm_A g29 rU6 (by decide) rfl)).trans ((congrArg aI (fm_A g18 rU6 (by decide) rfl)).trans ((congrArg aI (fm_A g7 rU6 (by decide) rfl)).trans (rfl : aI (f0 U6) = aI (f0 U6)))))
  have m36 : aI (f26 N1) = va_cpy (aI (f0 U1)) (aI (f0 N1)) 0 0 (40 : Int32).toNatClampNeg := ((congrArg aI (fm_A g29 rN1 (by decide) rfl)).trans (e16.trans (by rw [((congrArg aI (fm_A g7 rU1 (by decide) rfl)).trans (rfl : aI (f0 U1) = aI (f0 U1))), ((congrArg aI (fm_A g7 rN1 (by decide) rfl)).trans (rfl : aI (f0 N1) = aI (f0 N1)))])))
  have z37 : WU kp L [h0, N1, N3, N4, N6] f0 f26 := wu_fm z19 g29 rfl
  have hF := FM.tr hF g29 rfl
  refine lv_aload_n hx hb dX4_copyFrom_38 rfl (lv_at hl 1 rfl) ?_
  refine fg_RX4_18 E hW ru1 dX4_copyFrom_39 (fun a38 m39 r40 => ?_)
  obtain rfl : U3 = a38 := (((fm_R g29 ru1 rfl).trans ((fm_R g18 ru1 rfl).trans ((fm_R g7 ru1 rfl).trans mU3)))).symm.trans m39
  refine lv_iconst (v := 0) hx hb dX4_copyFrom_42 (by decide) ?_
  refine lv_aload_n hx hb dX4_copyFrom_43 rfl (lv_at hl 0 rfl) ?_
  refine fg_RX4_18 E hW rh0 dX4_copyFrom_44 (fun a41 m42 r43 => ?_)
  obtain rfl : N3 = a41 := (((fm_R g29 rh0 rfl).trans ((fm_R g18 rh0 rfl).trans ((fm_R g7 rh0 rfl).trans mN3)))).symm.trans m42
  refine lv_iconst (v := 0) hx hb dX4_copyFrom_47 (by decide) ?_
  refine lv_bipush (v := 40) hx hb dX4_copyFrom_48 (by decide) ?_
  have hW0 := hW.2.2.2
  refine t_copyx (N := 40) (n0 := 40) (n1 := 40) E hW tw_1293 ⟨tw_1004, tw_1003, tw_122⟩ hl.1 rfl rU3 (by decide) rfl rN3 (by decide) rfl rfl (by decide) rfl (by decide) (by decide) (by decide) (fun _ _ => trivial) ⟨Nat.le_of_ble_eq_true rfl, Nat.le_of_ble_eq_true rfl⟩ dX4_copyFrom_50 (fun f44 H locs n46 e45 g47 hW => ?_)
  have z48 : WU kp L [h0, N1, N3, N4, N6] f0 f44 := wu_put z37 n46 (by simp)
  have hF := FM.tr hF g47 rfl
  refine lv_aload_n hx hb dX4_copyFrom_53 rfl (lv_at hl 1 rfl) ?_
  refine fg_RX4_21 E hW ru1 dX4_copyFrom_54 (fun a49 m50 r51 => ?_)
  obtain rfl : U4 = a49 := (((fm_R g47 ru1 rfl).trans ((fm_R g29 ru1 rfl).trans ((fm_R g18 ru1 rfl).trans ((fm_R g7 ru1 rfl).trans mU4))))).symm.trans m50
  refine lv_iconst (v := 0) hx hb dX4_copyFrom_57 (by decide) ?_
  refine lv_aload_n hx hb dX4_copyFrom_58 rfl (lv_at hl 0 rfl) ?_
  refine fg_RX4_21 E hW rh0 dX4_copyFrom_59 (fun a52 m53 r54 => ?_)
  obtain rfl : N4 = a52 := (((fm_R g47 rh0 rfl).trans ((fm_R g29 rh0 rfl).trans ((fm_R g18 rh0 rfl).trans ((fm_R g7 rh0 rfl).trans mN4))))).symm.trans m53
  refine lv_iconst (v := 0) hx hb dX4_copyFrom_62 (by decide) ?_
  refine lv_bipush (v := 40) hx hb dX4_copyFrom_63 (by decide) ?_
  have hW0 := hW.2.2.2
  refine t_copyx (N := 40) (n0 := 40) (n1 := 40) E hW tw_1293 ⟨tw_1004, tw_1003, tw_122⟩ hl.1 rfl rU4 (by decide) rfl rN4 (by decide) rfl rfl (by decide) rfl (by decide) (by decide) (by decide) (fun h0 h1 => AB_cpy h0 h1) ⟨Nat.le_of_ble_eq_true rfl, Nat.le_of_ble_eq_true rfl⟩ dX4_copyFrom_65 (fun f55 H locs n57 e56 g58 hW => ?_)
  have z59 : WU kp L [h0, N1, N3, N4, N6] f0 f55 := wu_put z48 n57 (by simp)
  have hF := FM.tr hF g58 rfl
  refine lv_aload_n hx hb dX4_copyFrom_68 rfl (lv_at hl 1 rfl) ?_
  refine fg_RX4_24 E hW ru1 dX4_copyFrom_69 (fun a60 m61 r62 => ?_)
  refine lv_iconst (v := 0) hx hb dX4_copyFrom_72 (by decide) ?_
  refine lv_aload_n hx hb dX4_copyFrom_73 rfl (lv_at hl 0 rfl) ?_
  refine fg_RX4_24 E hW rh0 dX4_copyFrom_74 (fun a63 m64 r65 => ?_)
  refine lv_iconst (v := 0) hx hb dX4_copyFrom_77 (by decide) ?_
  refine lv_bipush (v := 40) hx hb dX4_copyFrom_78 (by decide) ?_
  have hW0 := hW.2.2.2
  refine t_copyx (N := 40) (n0 := 40) (n1 := 40) E hW tw_1293 ⟨tw_1004, tw_1003, tw_122⟩ hl.1 rfl r62 (by decide) rfl r65 (by decide) rfl rfl (by decide) rfl (by decide) (by decide) (by decide) (fun _ _ => trivial) ⟨Nat.le_of_ble_eq_true rfl, Nat.le_of_ble_eq_true rfl⟩ dX4_copyFrom_80 (fun f66 H locs n68 e67 g69 hW => ?_)
  have m70 : aI (f66 N4) = va_cpy (aI (f0 U4)) (aI (f0 N4)) 0 0 (40 : Int32).toNatClampNeg := ((congrArg aI (fm_A g69 rN4 (by decide) rfl)).trans (e56.trans (by rw [((congrArg aI (fm_A g47 rU4 (by decide) rfl)).trans m34), ((congrArg aI (fm_A g47 rN4 (by decide) rfl)).trans m31)])))
  have z71 : WU kp L [h0, N1, N3, N4, N6] f0 f66 := wu_fm z59 g69 rfl
  have hF := FM.tr hF g69 rfl
  refine lv_aload_n hx hb dX4_copyFrom_83 rfl (lv_at hl 1 rfl) ?_
  refine fg_RX4_27 E hW ru1 dX4_copyFrom_84 (fun a72 m73 r74 => ?_)
  obtain rfl : U6 = a72 := (((fm_R g69 ru1 rfl).trans ((fm_R g58 ru1 rfl).trans ((fm_R g47 ru1 rfl).trans ((fm_R g29 ru1 rfl).trans ((fm_R g18 ru1 rfl).trans ((fm_R g7 ru1 rfl).trans mU6))))))).symm.trans m73
  refine lv_iconst (v := 0) hx hb dX4_copyFrom_87 (by decide) ?_
  refine lv_aload_n hx hb dX4_copyFrom_88 rfl (lv_at hl 0 rfl) ?_
  refine fg_RX4_27 E hW rh0 dX4_copyFrom_89 (fun a75 m76 r77 => ?_)
  obtain rfl : N6 = a75 := (((fm_R g69 rh0 rfl).trans ((fm_R g58 rh0 rfl).trans ((fm_R g47 rh0 rfl).trans ((fm_R g29 rh0 rfl).trans ((fm_R g18 rh0 rfl).trans ((fm_R g7 rh0 rfl).trans mN6))))))).symm.trans m76
  refine lv_iconst (v := 0) hx hb dX4_copyFrom_92 (by decide) ?_
  refine lv_bipush (v := 40) hx hb dX4_copyFrom_93 (by decide) ?_
  have hW0 := hW.2.2.2
  refine t_copyx (N := 40) (n0 := 40) (n1 := 40) E hW tw_1293 ⟨tw_1004, tw_1003, tw_122⟩ hl.1 rfl rU6 (by decide) rfl rN6 (by decide) rfl rfl (by decide) rfl (by decide) (by decide) (by decide) (fun _ _ => trivial) ⟨Nat.le_of_ble_eq_true rfl, Nat.le_of_ble_eq_true rfl⟩ dX4_copyFrom_95 (fun f78 H locs n80 e79 g81 hW => ?_)
  have m82 : aI (f78 N1) = va_cpy (aI (f0 U1)) (aI (f0 N1)) 0 0 (40 : Int32).toNatClampNeg := ((congrArg aI (fm_A g81 rN1 (by decide) rfl)).trans ((congrArg aI (fm_A g69 rN1 (by decide) rfl)).trans ((congrArg aI (fm_A g58 rN1 (by decide) rfl)).trans ((congrArg aI (fm_A g47 rN1 (by decide) rfl)).trans m36))))
  have m83 : aI (f78 N3) = va_cpy (aI (f0 U3)) (aI (f0 N3)) 0 0 (40 : Int32).toNatClampNeg := ((congrArg aI (fm_A g81 rN3 (by decide) rfl)).trans ((congrArg aI (fm_A g69 rN3 (by decide) rfl)).trans ((congrArg aI (fm_A g58 rN3 (by decide) rfl)).trans (e45.trans (by rw [m33, m30])))))
  have z84 : WU kp L [h0, N1, N3, N4, N6] f0 f78 := wu_put z71 n80 (by simp)
  have hF := FM.tr hF g81 rfl
  refine lv_aload_n hx hb dX4_copyFrom_98 rfl (lv_at hl 1 rfl) ?_
  refine fg_RX4_30 E hW ru1 dX4_copyFrom_99 (fun a85 m86 r87 => ?_)
  refine lv_iconst (v := 0) hx hb dX4_copyFrom_102 (by decide) ?_
  refine lv_aload_n hx hb dX4_copyFrom_103 rfl (lv_at hl 0 rfl) ?_
  refine fg_RX4_30 E hW rh0 dX4_copyFrom_104 (fun a88 m89 r90 => ?_)
  refine lv_iconst (v := 0) hx hb dX4_copyFrom_107 (by decide) ?_
  refine lv_bipush (v := 40) hx hb dX4_copyFrom_108 (by decide) ?_
  have hW0 := hW.2.2.2
  refine t_copyx (N := 40) (n0 := 40) (n1 := 40) E hW tw_1293 ⟨tw_1004, tw_1003, tw_122⟩ hl.1 rfl r87 (by decide) rfl r90 (by decide) rfl rfl (by decide) rfl (by decide) (by decide) (by decide) (fun _ _ => trivial) ⟨Nat.le_of_ble_eq_true rfl, Nat.le_of_ble_eq_true rfl⟩ dX4_copyFrom_110 (fun f91 H locs n93 e92 g94 hW => ?_)
  have m95 : oR (f91 h0) 1 = N1 := ((fm_R g94 rh0 rfl).trans ((fm_R g81 rh0 rfl).trans ((fm_R g69 rh0 rfl).trans ((fm_R g58 rh0 rfl).trans ((fm_R g47 rh0 rfl).trans ((fm_R g29 rh0 rfl).trans ((fm_R g18 rh0 rfl).trans m13)))))))
  have m96 : oR (f91 u1) 1 = U1 := ((fm_R g94 ru1 rfl).trans ((fm_R g81 ru1 rfl).trans ((fm_R g69 ru1 rfl).trans ((fm_R g58 ru1 rfl).trans ((fm_R g47 ru1 rfl).trans ((fm_R g29 ru1 rfl).trans ((fm_R g18 ru1 rfl).trans m10)))))))
  have m97 : oI (f91 h0) 0 = vc := ((fm_I g94 rh0 rfl).trans ((fm_I g81 rh0 rfl).trans ((fm_I g69 rh0 rfl).trans ((fm_I g58 rh0 rfl).trans ((fm_I g47 rh0 rfl).trans ((fm_I g29 rh0 rfl).trans ((fm_I g18 rh0 rfl).trans e5)))))))
  have m98 : aI (f91 N6) = va_cpy (aI (f0 U6)) (aI (f0 N6)) 0 0 (40 : Int32).toNatClampNeg := ((congrArg aI (fm_A g94 rN6 (by decide) rfl)).trans (e79.trans (by rw [((congrArg aI (fm_A g69 rU6 (by decide) rfl)).trans ((congrArg aI (fm_A g58 rU6 (by decide) rfl)).trans ((congrArg aI (fm_A g47 rU6 (by decide) rfl)).trans m35))), ((congrArg aI (fm_A g69 rN6 (by decide) rfl)).trans ((congrArg aI (fm_A g58 rN6 (by decide) rfl)).trans ((congrArg aI (fm_A g47 rN6 (by decide) rfl)).trans m32)))])))
  have z99 : WU kp L [h0, N1, N3, N4, N6] f0 f91 := wu_fm z84 g94 rfl
  have hF := FM.tr hF g94 rfl
  refine lv_aload_n hx hb dX4_copyFrom_113 rfl (lv_at hl 1 rfl) ?_
  refine fg_RX4_33 E hW ru1 dX4_copyFrom_114 (fun a100 m101 r102 => ?_)
  refine lv_iconst (v := 0) hx hb dX4_copyFrom_117 (by decide) ?_
  refine lv_aload_n hx hb dX4_copyFrom_118 rfl (lv_at hl 0 rfl) ?_
  refine fg_RX4_33 E hW rh0 dX4_copyFrom_119 (fun a103 m104 r105 => ?_)
  refine lv_iconst (v := 0) hx hb dX4_copyFrom_122 (by decide) ?_
  refine lv_bipush (v := 40) hx hb dX4_copyFrom_123 (by decide) ?_
  have hW0 := hW.2.2.2
  refine t_copyx (N := 40) (n0 := 40) (n1 := 40) E hW tw_1293 ⟨tw_1004, tw_1003, tw_122⟩ hl.1 rfl r102 (by decide) rfl r105 (by decide) rfl rfl (by decide) rfl (by decide) (by decide) (by decide) (fun _ _ => trivial) ⟨Nat.le_of_ble_eq_true rfl, Nat.le_of_ble_eq_true rfl⟩ dX4_copyFrom_125 (fun f106 H locs n108 e107 g109 hW => ?_)
  have m110 : oR (f106 u1) 2 = a20 := ((fm_R g109 ru1 rfl).trans ((fm_R g94 ru1 rfl).trans ((fm_R g81 ru1 rfl).trans ((fm_R g69 ru1 rfl).trans ((fm_R g58 ru1 rfl).trans ((fm_R g47 ru1 rfl).trans ((fm_R g29 ru1 rfl).trans m21)))))))
  have m111 : oR (f106 h0) 2 = a23 := ((fm_R g109 rh0 rfl).trans ((fm_R g94 rh0 rfl).trans ((fm_R g81 rh0 rfl).trans ((fm_R g69 rh0 rfl).trans ((fm_R g58 rh0 rfl).trans ((fm_R g47 rh0 rfl).trans ((fm_R g29 rh0 rfl).trans m24)))))))
  have z112 : WU kp L [h0, N1, N3, N4, N6] f0 f106 := wu_fm z99 g109 rfl
  have hF := FM.tr hF g109 rfl
  exact e_V E hW rfl ⟨rfl, hF, (p8_copy mU1 mU3 mU4 mU6 ((fm_R g109 rh0 rfl).trans m95) ((fm_R g109 rh0 rfl).trans ((fm_R g94 rh0 rfl).trans ((fm_R g81 rh0 rfl).trans ((fm_R g69 rh0 rfl).trans ((fm_R g58 rh0 rfl).trans ((fm_R g47 rh0 rfl).trans m42)))))) ((fm_R g109 rh0 rfl).trans ((fm_R g94 rh0 rfl).trans ((fm_R g81 rh0 rfl).trans ((fm_R g69 rh0 rfl).trans ((fm_R g58 rh0 rfl).trans m53))))) ((fm_R g109 rh0 rfl).trans ((fm_R g94 rh0 rfl).trans ((fm_R g81 rh0 rfl).trans m76))) mvc ((fm_I g109 rh0 rfl).trans m97) (by decide) ((congrArg aI (fm_A g109 rN1 (by decide) rfl)).trans ((congrArg aI (fm_A g94 rN1 (by decide) rfl)).trans m82)) ((congrArg aI (fm_A g109 rN3 (by decide) rfl)).trans ((congrArg aI (fm_A g94 rN3 (by decide) rfl)).trans m83)) ((congrArg aI (fm_A g109 rN4 (by decide) rfl)).trans ((congrArg aI (fm_A g94 rN4 (by decide) rfl)).trans ((congrArg aI (fm_A g81 rN4 (by decide) rfl)).trans m70))) ((congrArg aI (fm_A g109 rN6 (by decide) rfl)).trans m98)), (by rw [mN1, mN3, mN4, mN6]; exact z112)⟩ dX4_copyFrom_128
def ms_X3_copyFrom_u : List (Nat × Nat) := [(3, 0), (3, 1), (3, 2), (3, 3), (284, 0), (285, 0)]
def po_X3_copyFrom_u (kp : Nat → Nat) (L : List Nat) (f0 : Nat → va_E) (h0 : Nat) (u1 : Nat) : Option Value → (Nat → va_E) → Prop := fun v f => v = none ∧ FM kp L ms_X3_copyFrom_u f0 f ∧ (L8 f h0 = L8 f0 u1) ∧ (WU kp L [h0, (oR (f0 h0) 4), (oR (f0 h0) 5)] f0 f)
set_option maxHeartbeats 4000000 in
set_option maxRecDepth 100000 in
theorem c_X3_copyFrom_u (l : Launch) (G : va_G) (cI cJ cZ cD cR cT : ClassId) (kp : Nat → Nat) (L : List Nat) (f0 : Nat → va_E) (hTH : TH cI cJ cZ cD cR cT kp L f0) (sz : Nat) (h0 : Nat) (u1 : Nat) (rh0 : RK kp L h0 3) (ru1 : RK kp L u1 3) : Met l yX3_copyFrom (Cond.code yX3_copyFrom cX3_copyFrom 2 none :: wTab) ({ frames := 1, cells := 0, slots := 0, locals := 60 }) (va_Pc [.ref h0, .ref u1] (PreW G (tys6 cI cJ cZ cD cR cT) (va_pl L f0) sz)) (QT (po_X3_copyFrom_u kp L f0 h0 u1) G cI cJ cZ cD cR cT (va_A (va_pl L f0) sz) kp L) 0 0 (va_A (va_pl L f0) sz) := by
  refine metT (by decide) (Nat.le_of_ble_eq_true rfl) hTH ?_
  intro p e s m below meth c A ls E hW hl
  obtain ⟨hx, hb, -, hml, hown, hts, -, -, -⟩ := id E
  have hF : FM kp L ms_X3_copyFrom_u f0 f0 := FM.rf
  have hl : lv_has ls 2 [(0, .ref h0), (1, .ref u1)] := hl
  obtain ⟨N4, mN4⟩ : ∃ x : Nat, oR (f0 h0) 4 = x := ⟨_, rfl⟩
  have rN4 : RK kp L N4 284 := by rw [← mN4]; exact th_ref hTH rh0 (by decide) (by decide) rfl
  obtain ⟨N5, mN5⟩ : ∃ x : Nat, oR (f0 h0) 5 = x := ⟨_, rfl⟩
  have rN5 : RK kp L N5 285 := by rw [← mN5]; exact th_ref hTH rh0 (by decide) (by decide) rfl
  obtain ⟨U4, mU4⟩ : ∃ x : Nat, oR (f0 u1) 4 = x := ⟨_, rfl⟩
  have rU4 : RK kp L U4 284 := by rw [← mU4]; exact th_ref hTH ru1 (by decide) (by decide) rfl
  obtain ⟨U5, mU5⟩ : ∃ x : Nat, oR (f0 u1) 5 = x := ⟨_, rfl⟩
  have rU5 : RK kp L U5 285 := by rw [← mU5]; exact th_ref hTH ru1 (by decide) (by decide) rfl
  obtain ⟨vc, mvc⟩ : ∃ x : Int32, oI (f0 u1) 3 = x := ⟨_, rfl⟩
  have bvc : (0 : Int) ≤ vc.toInt ∧ vc.toInt ≤ 9 := by rw [← mvc]; exact th_iv hW ru1 (by decide) (by decide) rfl
  obtain ⟨vb, mvb⟩ : ∃ x : Int32, oI (f0 u1) 1 = x := ⟨_, rfl⟩
  refine lv_aload_n hx hb dX3_copyFrom_0 rfl (lv_at hl 0 rfl) ?_
  refine lv_aload_n hx hb dX3_copyFrom_1 rfl (lv_at hl 1 rfl) ?_
  refine fg_RX3_35 E hW ru1 dX3_copyFrom_2 (fun y1 m2 => ?_)
  have hW0 := hW.2.2.2
  refine fp_RX3_35 E hW rh0 dX3_copyFrom_5 (fun f4 H locs e5 n6 g7 hW => ?_)
  have z8 : WU kp L [h0, N4, N5] f0 f4 := wu_fm (wu_rf : WU kp L [h0, N4, N5] f0 f0) g7 rfl
  have hF := FM.tr hF g7 rfl
  refine lv_aload_n hx hb dX3_copyFrom_8 rfl (lv_at hl 0 rfl) ?_
  refine lv_aload_n hx hb dX3_copyFrom_9 rfl (lv_at hl 1 rfl) ?_
  refine fg_RX3_9 E hW ru1 dX3_copyFrom_10 (fun y9 m10 => ?_)
  obtain rfl : vb = y9 := (((fm_I g7 ru1 rfl).trans mvb)).symm.trans m10
  have hW0 := hW.2.2.2
  refine fp_RX3_9 E hW rh0 dX3_copyFrom_13 (fun f12 H locs e13 n14 g15 hW => ?_)
  have z16 : WU kp L [h0, N4, N5] f0 f12 := wu_put z8 n14 (by simp)
  have hF := FM.tr hF g15 rfl
  refine lv_aload_n hx hb dX3_copyFrom_16 rfl (lv_at hl 0 rfl) ?_
  refine lv_aload_n hx hb dX3_copyFrom_17 rfl (lv_at hl 1 rfl) ?_
  refine fg_RX3_38 E hW ru1 dX3_copyFrom_18 (fun y17 m18 => ?_)
  have hW0 := hW.2.2.2
  refine fp_RX3_38 E hW rh0 dX3_copyFrom_21 (fun f20 H locs e21 n22 g23 hW => ?_)
  have m24 : aI (f20 N4) = aI (f0 N4) := ((congrArg aI (fm_A g23 rN4 (by decide) rfl)).trans ((congrArg aI (fm_A g15 rN4 (by decide) rfl)).trans ((congrArg aI (fm_A g7 rN4 (by decide) rfl)).trans (rfl : aI (f0 N4) = aI (f0 N4)))))
  have m25 : aI (f20 N5) = aI (f0 N5) := ((congrArg aI (fm_A g23 rN5 (by decide) rfl)).trans ((congrArg aI (fm_A g15 rN5 (by decide) rfl)).trans ((congrArg aI (fm_A g7 rN5 (by decide) rfl)).trans (rfl : aI (f0 N5) = aI (f0 N5)))))
  have m26 : aI (f20 U4) = aI (f0 U4) := ((congrArg aI (fm_A g23 rU4 (by decide) rfl)).trans ((congrArg aI (fm_A g15 rU4 (by decide) rfl)).trans ((congrArg aI (fm_A g7 rU4 (by decide) rfl)).trans (rfl : aI (f0 U4) = aI (f0 U4)))))
  have m27 : aI (f20 U5) = aI (f0 U5) := ((congrArg aI (fm_A g23 rU5 (by decide) rfl)).trans ((congrArg aI (fm_A g15 rU5 (by decide) rfl)).trans ((congrArg aI (fm_A g7 rU5 (by decide) rfl)).trans (rfl : aI (f0 U5) = aI (f0 U5)))))
  have z28 : WU kp L [h0, N4, N5] f0 f20 := wu_fm z16 g23 rfl
  have hF := FM.tr hF g23 rfl
  refine lv_aload_n hx hb dX3_copyFrom_24 rfl (lv_at hl 0 rfl) ?_
  refine lv_aload_n hx hb dX3_copyFrom_25 rfl (lv_at hl 1 rfl) ?_
  refine fg_RX3_22 E hW ru1 dX3_copyFrom_26 (fun y29 m30 b31 => ?_)
  obtain rfl : vc = y29 := (((fm_I g23 ru1 rfl).trans ((fm_I g15 ru1 rfl).trans ((fm_I g7 ru1 rfl).trans mvc)))).symm.trans m30
  have hW0 := hW.2.2.2
  refine fp_RX3_22 E hW rh0 (by omega) dX3_copyFrom_29 (fun f32 H locs e33 n34 g35 hW => ?_)
  have z36 : WU kp L [h0, N4, N5] f0 f32 := wu_put z28 n34 (by simp)
  have hF := FM.tr hF g35 rfl
  refine lv_aload_n hx hb dX3_copyFrom_32 rfl (lv_at hl 1 rfl) ?_
  refine fg_RX3_15 E hW ru1 dX3_copyFrom_33 (fun a37 m38 r39 => ?_)
  obtain rfl : U4 = a37 := (((fm_R g35 ru1 rfl).trans ((fm_R g23 ru1 rfl).trans ((fm_R g15 ru1 rfl).trans ((fm_R g7 ru1 rfl).trans mU4))))).symm.trans m38
  refine lv_iconst (v := 0) hx hb dX3_copyFrom_36 (by decide) ?_
  refine lv_aload_n hx hb dX3_copyFrom_37 rfl (lv_at hl 0 rfl) ?_
  refine fg_RX3_15 E hW rh0 dX3_copyFrom_38 (fun a40 m41 r42 => ?_)
  obtain rfl : N4 = a40 := (((fm_R g35 rh0 rfl).trans ((fm_R g23 rh0 rfl).trans ((fm_R g15 rh0 rfl).trans ((fm_R g7 rh0 rfl).trans mN4))))).symm.trans m41
  refine lv_iconst (v := 0) hx hb dX3_copyFrom_41 (by decide) ?_
  refine lv_bipush (v := 9) hx hb dX3_copyFrom_42 (by decide) ?_
  have hW0 := hW.2.2.2
  refine t_copyx (N := 9) (n0 := 9) (n1 := 9) E hW tw_1317 ⟨tw_1004, tw_1003, tw_122⟩ hl.1 rfl rU4 (by decide) rfl rN4 (by decide) rfl rfl (by decide) rfl (by decide) (by decide) (by decide) (fun _ _ => trivial) ⟨Nat.le_of_ble_eq_true rfl, Nat.le_of_ble_eq_true rfl⟩ dX3_copyFrom_44 (fun f43 H locs n45 e44 g46 hW => ?_)
  have z47 : WU kp L [h0, N4, N5] f0 f43 := wu_put z36 n45 (by simp)
  have hF := FM.tr hF g46 rfl
  refine lv_aload_n hx hb dX3_copyFrom_47 rfl (lv_at hl 1 rfl) ?_
  refine fg_RX3_19 E hW ru1 dX3_copyFrom_48 (fun a48 m49 r50 => ?_)
  obtain rfl : U5 = a48 := (((fm_R g46 ru1 rfl).trans ((fm_R g35 ru1 rfl).trans ((fm_R g23 ru1 rfl).trans ((fm_R g15 ru1 rfl).trans ((fm_R g7 ru1 rfl).trans mU5)))))).symm.trans m49
  refine lv_iconst (v := 0) hx hb dX3_copyFrom_51 (by decide) ?_
  refine lv_aload_n hx hb dX3_copyFrom_52 rfl (lv_at hl 0 rfl) ?_
  refine fg_RX3_19 E hW rh0 dX3_copyFrom_53 (fun a51 m52 r53 => ?_)
  obtain rfl : N5 = a51 := (((fm_R g46 rh0 rfl).trans ((fm_R g35 rh0 rfl).trans ((fm_R g23 rh0 rfl).trans ((fm_R g15 rh0 rfl).trans ((fm_R g7 rh0 rfl).trans mN5)))))).symm.trans m52
  refine lv_iconst (v := 0) hx hb dX3_copyFrom_56 (by decide) ?_
  refine lv_bipush (v := 9) hx hb dX3_copyFrom_57 (by decide) ?_
  have hW0 := hW.2.2.2
  refine t_copyx (N := 9) (n0 := 9) (n1 := 9) E hW tw_1317 ⟨tw_1004, tw_1003, tw_122⟩ hl.1 rfl rU5 (by decide) rfl rN5 (by decide) rfl rfl (by decide) rfl (by decide) (by decide) (by decide) (fun _ _ => trivial) ⟨Nat.le_of_ble_eq_true rfl, Nat.le_of_ble_eq_true rfl⟩ dX3_copyFrom_59 (fun f54 H locs n56 e55 g57 hW => ?_)
  have m58 : aI (f54 N4) = va_cpy (aI (f0 U4)) (aI (f0 N4)) 0 0 (9 : Int32).toNatClampNeg := ((congrArg aI (fm_A g57 rN4 (by decide) rfl)).trans (e44.trans (by rw [((congrArg aI (fm_A g35 rU4 (by decide) rfl)).trans m26), ((congrArg aI (fm_A g35 rN4 (by decide) rfl)).trans m24)])))
  have z59 : WU kp L [h0, N4, N5] f0 f54 := wu_put z47 n56 (by simp)
  have hF := FM.tr hF g57 rfl
  exact e_V E hW rfl ⟨rfl, hF, (l8_copy mU4 mU5 ((fm_R g57 rh0 rfl).trans ((fm_R g46 rh0 rfl).trans m41)) ((fm_R g57 rh0 rfl).trans m52) mvc ((fm_I g57 rh0 rfl).trans ((fm_I g46 rh0 rfl).trans e33)) mvb ((fm_I g57 rh0 rfl).trans ((fm_I g46 rh0 rfl).trans ((fm_I g35 rh0 rfl).trans ((fm_I g23 rh0 rfl).trans e13)))) (by decide) m58 (e55.trans (by rw [((congrArg aI (fm_A g46 rU5 (by decide) rfl)).trans ((congrArg aI (fm_A g35 rU5 (by decide) rfl)).trans m27)), ((congrArg aI (fm_A g46 rN5 (by decide) rfl)).trans ((congrArg aI (fm_A g35 rN5 (by decide) rfl)).trans m25))]))), (by rw [mN4, mN5]; exact z59)⟩ dX3_copyFrom_62
def ms_X0_copyFrom_u : List (Nat × Nat) := [(0, 6), (0, 9), (0, 12), (0, 13), (1, 0), (1, 8), (1, 12), (1, 13), (1, 14), (2, 0), (3, 0), (3, 1), (3, 2), (3, 3), (4, 0), (10, 0), (10, 7), (108, 0), (161, 0), (162, 0), (163, 0), (164, 0), (165, 0), (166, 0), (167, 0), (169, 0), (170, 0), (171, 0), (221, 0), (284, 0), (285, 0), (341, 0), (342, 0), (343, 0), (344, 0), (345, 0), (346, 0), (347, 0), (348, 0), (520, 0), (521, 0), (701, 0), (702, 0), (703, 0), (704, 0), (705, 0), (706, 0), (708, 0), (709, 0), (710, 0)]
def po_X0_copyFrom_u (kp : Nat → Nat) (L : List Nat) (f0 : Nat → va_E) (h0 : Nat) (u1 : Nat) : Option Value → (Nat → va_E) → Prop := fun v f => v = none ∧ FM kp L ms_X0_copyFrom_u f0 f ∧ (P8 f (oR (f0 h0) 0) = P8 f0 (oR (f0 u1) 0)) ∧ (L8 f (oR (f0 h0) 5) = L8 f0 (oR (f0 u1) 5)) ∧ (WU kp L [(oR (f0 h0) 0), (oR (f0 (oR (f0 h0) 0)) 1), (oR (f0 (oR (f0 h0) 0)) 3), (oR (f0 (oR (f0 h0) 0)) 4), (oR (f0 (oR (f0 h0) 0)) 6), (oR (f0 h0) 5), (oR (f0 (oR (f0 h0) 5)) 4), (oR (f0 (oR (f0 h0) 5)) 5)] f0 f)
set_option maxHeartbeats 4000000 in
set_option maxRecDepth 100000 in
theorem c_X0_copyFrom_u (l : Launch) (G : va_G) (cI cJ cZ cD cR cT : ClassId) (kp : Nat → Nat) (L : List Nat) (f0 : Nat → va_E) (hTH : TH cI cJ cZ cD cR cT kp L f0) (sz : Nat) (h0 : Nat) (u1 : Nat) (rh0 : RK kp L h0 0) (ru1 : RK kp L u1 0) : Met l yX0_copyFrom (Cond.code yX0_copyFrom cX0_copyFrom 2 none :: wTab) ({ frames := 2, cells := 0, slots := 0, locals := 82 }) (va_Pc [.ref h0, .ref u1] (PreW G (tys6 cI cJ cZ cD cR cT) (va_pl L f0) sz)) (QT (po_X0_copyFrom_u kp L f0 h0 u1) G cI cJ cZ cD cR cT (va_A (va_pl L f0) sz) kp L) 0 0 (va_A (va_pl L f0) sz) := by
  refine metT (by decide) (Nat.le_of_ble_eq_true rfl) hTH ?_
  intro p e s m below meth c A ls E hW hl
  obtain ⟨hx, hb, -, hml, hown, hts, -, -, -⟩ := id E
  have hF : FM kp L ms_X0_copyFrom_u f0 f0 := FM.rf
  have hl : lv_has ls 2 [(0, .ref h0), (1, .ref u1)] := hl
  obtain ⟨N0, mN0⟩ : ∃ x : Nat, oR (f0 h0) 0 = x := ⟨_, rfl⟩
  have rN0 : RK kp L N0 4 := by rw [← mN0]; exact th_ref hTH rh0 (by decide) (by decide) rfl
  obtain ⟨N5, mN5⟩ : ∃ x : Nat, oR (f0 h0) 5 = x := ⟨_, rfl⟩
  have rN5 : RK kp L N5 3 := by rw [← mN5]; exact th_ref hTH rh0 (by decide) (by decide) rfl
  obtain ⟨N01, mN01⟩ : ∃ x : Nat, oR (f0 N0) 1 = x := ⟨_, rfl⟩
  have rN01 : RK kp L N01 341 := by rw [← mN01]; exact th_ref hTH rN0 (by decide) (by decide) rfl
  obtain ⟨N03, mN03⟩ : ∃ x : Nat, oR (f0 N0) 3 = x := ⟨_, rfl⟩
  have rN03 : RK kp L N03 343 := by rw [← mN03]; exact th_ref hTH rN0 (by decide) (by decide) rfl
  obtain ⟨N04, mN04⟩ : ∃ x : Nat, oR (f0 N0) 4 = x := ⟨_, rfl⟩
  have rN04 : RK kp L N04 344 := by rw [← mN04]; exact th_ref hTH rN0 (by decide) (by decide) rfl
  obtain ⟨N06, mN06⟩ : ∃ x : Nat, oR (f0 N0) 6 = x := ⟨_, rfl⟩
  have rN06 : RK kp L N06 346 := by rw [← mN06]; exact th_ref hTH rN0 (by decide) (by decide) rfl
  obtain ⟨N54, mN54⟩ : ∃ x : Nat, oR (f0 N5) 4 = x := ⟨_, rfl⟩
  have rN54 : RK kp L N54 284 := by rw [← mN54]; exact th_ref hTH rN5 (by decide) (by decide) rfl
  obtain ⟨N55, mN55⟩ : ∃ x : Nat, oR (f0 N5) 5 = x := ⟨_, rfl⟩
  have rN55 : RK kp L N55 285 := by rw [← mN55]; exact th_ref hTH rN5 (by decide) (by decide) rfl
  obtain ⟨U0, mU0⟩ : ∃ x : Nat, oR (f0 u1) 0 = x := ⟨_, rfl⟩
  have rU0 : RK kp L U0 4 := by rw [← mU0]; exact th_ref hTH ru1 (by decide) (by decide) rfl
  obtain ⟨U5, mU5⟩ : ∃ x : Nat, oR (f0 u1) 5 = x := ⟨_, rfl⟩
  have rU5 : RK kp L U5 3 := by rw [← mU5]; exact th_ref hTH ru1 (by decide) (by decide) rfl
  refine lv_aload_n hx hb dX0_copyFrom_0 rfl (lv_at hl 0 rfl) ?_
  refine fg_RX0_12 E hW rh0 dX0_copyFrom_1 (fun a1 m2 r3 => ?_)
  obtain rfl : N0 = a1 := (mN0).symm.trans m2
  refine lv_aload_n hx hb dX0_copyFrom_4 rfl (lv_at hl 1 rfl) ?_
  refine fg_RX0_12 E hW ru1 dX0_copyFrom_5 (fun a4 m5 r6 => ?_)
  obtain rfl : U0 = a4 := (mU0).symm.trans m5
  have hW0 := hW.2.2.2
  refine t_callV (As := [.ref U0]) (rest := []) E hW (c_X4_copyFrom_u l G cI cJ cZ cD cR cT kp L f0 hW.2.2.2 _ N0 U0 rN0 rU0) rN0 (by decide) rfl wk_X4_copyFrom tw_1289 rfl ⟨Nat.le_of_ble_eq_true rfl, Nat.le_of_ble_eq_true rfl⟩ ⟨rfl, rfl⟩ hl.1 rfl (Nat.le_of_ble_eq_true rfl) dX0_copyFrom_8 ⟨Nat.le_of_ble_eq_true rfl, Nat.le_of_ble_eq_true rfl⟩ (fun v7 f8 H locs q9 hW => ?_)
  obtain ⟨rfl, g10, h11, h12⟩ := q9
  have m14 : L8 f8 N5 = L8 f0 N5 := (l8_fm hW0 rN5 g10 rfl).trans (rfl : L8 f0 N5 = L8 f0 N5)
  have m15 : L8 f8 U5 = L8 f0 U5 := (l8_fm hW0 rU5 g10 rfl).trans (rfl : L8 f0 U5 = L8 f0 U5)
  have hF := FM.tr hF g10 rfl
  have z16 : WU kp L [N0, N01, N03, N04, N06, N5, N54, N55] f0 f8 := wu_call (wu_rf : WU kp L [N0, N01, N03, N04, N06, N5, N54, N55] f0 f0) h12 (by rw [mN01, mN03, mN04, mN06]; intro q h; simp only [List.mem_cons, List.not_mem_nil, or_false] at h ⊢; omega)
  refine lv_aload_n hx hb dX0_copyFrom_11 rfl (lv_at hl 0 rfl) ?_
  refine fg_RX0_21 E hW rh0 dX0_copyFrom_12 (fun a17 m18 r19 => ?_)
  refine lv_aload_n hx hb dX0_copyFrom_15 rfl (lv_at hl 1 rfl) ?_
  refine fg_RX0_21 E hW ru1 dX0_copyFrom_16 (fun a20 m21 r22 => ?_)
  have hW0 := hW.2.2.2
  refine t_callV (As := [.ref a20]) (rest := []) E hW (c_X1_copyFrom l G cI cJ cZ cD cR cT kp L f8 hW.2.2.2 _ a17 a20 r19 r22) r19 (by decide) rfl wk_X1_copyFrom tw_1294 rfl ⟨Nat.le_of_ble_eq_true rfl, Nat.le_of_ble_eq_true rfl⟩ ⟨rfl, rfl⟩ hl.1 rfl (Nat.le_of_ble_eq_true rfl) dX0_copyFrom_19 ⟨Nat.le_of_ble_eq_true rfl, Nat.le_of_ble_eq_true rfl⟩ (fun v23 f24 H locs q25 hW => ?_)
  obtain ⟨rfl, g26⟩ := q25
  have m28 : L8 f24 N5 = L8 f0 N5 := (l8_fm hW0 rN5 g26 rfl).trans m14
  have m29 : L8 f24 U5 = L8 f0 U5 := (l8_fm hW0 rU5 g26 rfl).trans m15
  have m30 : P8 f24 N0 = P8 f0 U0 := (p8_fm hW0 rN0 g26 rfl).trans (h11.trans (rfl : P8 f0 U0 = P8 f0 U0))
  have z27 : WU kp L [N0, N01, N03, N04, N06, N5, N54, N55] f0 f24 := wu_fm z16 g26 rfl
  have hF := FM.tr hF g26 rfl
  refine lv_aload_n hx hb dX0_copyFrom_22 rfl (lv_at hl 0 rfl) ?_
  refine fg_RX0_28 E hW rh0 dX0_copyFrom_23 (fun a31 m32 r33 => ?_)
  refine lv_aload_n hx hb dX0_copyFrom_26 rfl (lv_at hl 1 rfl) ?_
  refine fg_RX0_28 E hW ru1 dX0_copyFrom_27 (fun a34 m35 r36 => ?_)
  have hW0 := hW.2.2.2
  refine t_callV (As := [.ref a34]) (rest := []) E hW (c_X10_copyFrom l G cI cJ cZ cD cR cT kp L f24 hW.2.2.2 _ a31 a34 r33 r36) r33 (by decide) rfl wk_X10_copyFrom tw_1299 rfl ⟨Nat.le_of_ble_eq_true rfl, Nat.le_of_ble_eq_true rfl⟩ ⟨rfl, rfl⟩ hl.1 rfl (Nat.le_of_ble_eq_true rfl) dX0_copyFrom_30 ⟨Nat.le_of_ble_eq_true rfl, Nat.le_of_ble_eq_true rfl⟩ (fun v37 f38 H locs q39 hW => ?_)
  obtain ⟨rfl, g40⟩ := q39
  have m42 : L8 f38 N5 = L8 f0 N5 := (l8_fm hW0 rN5 g40 rfl).trans m28
  have m43 : L8 f38 U5 = L8 f0 U5 := (l8_fm hW0 rU5 g40 rfl).trans m29
  have m44 : P8 f38 N0 = P8 f0 U0 := (p8_fm hW0 rN0 g40 rfl).trans m30
  have z41 : WU kp L [N0, N01, N03, N04, N06, N5, N54, N55] f0 f38 := wu_fm z27 g40 rfl
  have hF := FM.tr hF g40 rfl
  refine lv_aload_n hx hb dX0_copyFrom_33 rfl (lv_at hl 0 rfl) ?_
  refine fg_RX0_35 E hW rh0 dX0_copyFrom_34 (fun a45 m46 r47 => ?_)
  refine lv_aload_n hx hb dX0_copyFrom_37 rfl (lv_at hl 1 rfl) ?_
  refine fg_RX0_35 E hW ru1 dX0_copyFrom_38 (fun a48 m49 r50 => ?_)
  have hW0 := hW.2.2.2
  refine t_callV (As := [.ref a48]) (rest := []) E hW (c_X7_copyFrom l G cI cJ cZ cD cR cT kp L f38 hW.2.2.2 _ a45 a48 r47 r50) r47 (by decide) rfl wk_X7_copyFrom tw_1304 rfl ⟨Nat.le_of_ble_eq_true rfl, Nat.le_of_ble_eq_true rfl⟩ ⟨rfl, rfl⟩ hl.1 rfl (Nat.le_of_ble_eq_true rfl) dX0_copyFrom_41 ⟨Nat.le_of_ble_eq_true rfl, Nat.le_of_ble_eq_true rfl⟩ (fun v51 f52 H locs q53 hW => ?_)
  obtain ⟨rfl, g54⟩ := q53
  have m56 : L8 f52 N5 = L8 f0 N5 := (l8_fm hW0 rN5 g54 rfl).trans m42
  have m57 : L8 f52 U5 = L8 f0 U5 := (l8_fm hW0 rU5 g54 rfl).trans m43
  have m58 : P8 f52 N0 = P8 f0 U0 := (p8_fm hW0 rN0 g54 rfl).trans m44
  have z55 : WU kp L [N0, N01, N03, N04, N06, N5, N54, N55] f0 f52 := wu_fm z41 g54 rfl
  have hF := FM.tr hF g54 rfl
  refine lv_aload_n hx hb dX0_copyFrom_44 rfl (lv_at hl 0 rfl) ?_
  refine fg_RX0_42 E hW rh0 dX0_copyFrom_45 (fun a59 m60 r61 => ?_)
  refine lv_aload_n hx hb dX0_copyFrom_48 rfl (lv_at hl 1 rfl) ?_
  refine fg_RX0_42 E hW ru1 dX0_copyFrom_49 (fun a62 m63 r64 => ?_)
  have hW0 := hW.2.2.2
  refine t_callV (As := [.ref a62]) (rest := []) E hW (c_X2_copyFrom l G cI cJ cZ cD cR cT kp L f52 hW.2.2.2 _ a59 a62 r61 r64) r61 (by decide) rfl wk_X2_copyFrom tw_1309 rfl ⟨Nat.le_of_ble_eq_true rfl, Nat.le_of_ble_eq_true rfl⟩ ⟨rfl, rfl⟩ hl.1 rfl (Nat.le_of_ble_eq_true rfl) dX0_copyFrom_52 ⟨Nat.le_of_ble_eq_true rfl, Nat.le_of_ble_eq_true rfl⟩ (fun v65 f66 H locs q67 hW => ?_)
  obtain ⟨rfl, g68⟩ := q67
  have m70 : L8 f66 N5 = L8 f0 N5 := (l8_fm hW0 rN5 g68 rfl).trans m56
  have m71 : L8 f66 U5 = L8 f0 U5 := (l8_fm hW0 rU5 g68 rfl).trans m57
  have m72 : P8 f66 N0 = P8 f0 U0 := (p8_fm hW0 rN0 g68 rfl).trans m58
  have z69 : WU kp L [N0, N01, N03, N04, N06, N5, N54, N55] f0 f66 := wu_fm z55 g68 rfl
  have hF := FM.tr hF g68 rfl
  refine lv_aload_n hx hb dX0_copyFrom_55 rfl (lv_at hl 0 rfl) ?_
  refine fg_RX0_49 E hW rh0 dX0_copyFrom_56 (fun a73 m74 r75 => ?_)
  obtain rfl : N5 = a73 := (((fm_R g68 rh0 rfl).trans ((fm_R g54 rh0 rfl).trans ((fm_R g40 rh0 rfl).trans ((fm_R g26 rh0 rfl).trans ((fm_R g10 rh0 rfl).trans mN5)))))).symm.trans m74
  refine lv_aload_n hx hb dX0_copyFrom_59 rfl (lv_at hl 1 rfl) ?_
  refine fg_RX0_49 E hW ru1 dX0_copyFrom_60 (fun a76 m77 r78 => ?_)
  obtain rfl : U5 = a76 := (((fm_R g68 ru1 rfl).trans ((fm_R g54 ru1 rfl).trans ((fm_R g40 ru1 rfl).trans ((fm_R g26 ru1 rfl).trans ((fm_R g10 ru1 rfl).trans mU5)))))).symm.trans m77
  have hW0 := hW.2.2.2
  refine t_callV (As := [.ref U5]) (rest := []) E hW (c_X3_copyFrom_u l G cI cJ cZ cD cR cT kp L f66 hW.2.2.2 _ N5 U5 rN5 rU5) rN5 (by decide) rfl wk_X3_copyFrom tw_1313 rfl ⟨Nat.le_of_ble_eq_true rfl, Nat.le_of_ble_eq_true rfl⟩ ⟨rfl, rfl⟩ hl.1 rfl (Nat.le_of_ble_eq_true rfl) dX0_copyFrom_63 ⟨Nat.le_of_ble_eq_true rfl, Nat.le_of_ble_eq_true rfl⟩ (fun v79 f80 H locs q81 hW => ?_)
  obtain ⟨rfl, g82, h83, h84⟩ := q81
  have m86 : P8 f80 N0 = P8 f0 U0 := (p8_fm hW0 rN0 g82 rfl).trans m72
  have hF := FM.tr hF g82 rfl
  have z87 : WU kp L [N0, N01, N03, N04, N06, N5, N54, N55] f0 f80 := wu_call z69 h84 (by rw [((fm_R g68 rN5 rfl).trans ((fm_R g54 rN5 rfl).trans ((fm_R g40 rN5 rfl).trans ((fm_R g26 rN5 rfl).trans ((fm_R g10 rN5 rfl).trans mN54))))), ((fm_R g68 rN5 rfl).trans ((fm_R g54 rN5 rfl).trans ((fm_R g40 rN5 rfl).trans ((fm_R g26 rN5 rfl).trans ((fm_R g10 rN5 rfl).trans mN55)))))]; intro q h; simp only [List.mem_cons, List.not_mem_nil, or_false] at h ⊢; omega)
  refine lv_aload_n hx hb dX0_copyFrom_66 rfl (lv_at hl 0 rfl) ?_
  refine lv_aload_n hx hb dX0_copyFrom_67 rfl (lv_at hl 1 rfl) ?_
  refine fg_RX0_93 E hW ru1 dX0_copyFrom_68 (fun y88 m89 b90 => ?_)
  have hW0 := hW.2.2.2
  refine fp_RX0_93 E hW rh0 (by omega) dX0_copyFrom_71 (fun f91 H locs e92 n93 g94 hW => ?_)
  have m95 : oR (f91 h0) 0 = N0 := ((fm_R g94 rh0 rfl).trans ((fm_R g82 rh0 rfl).trans ((fm_R g68 rh0 rfl).trans ((fm_R g54 rh0 rfl).trans ((fm_R g40 rh0 rfl).trans ((fm_R g26 rh0 rfl).trans ((fm_R g10 rh0 rfl).trans m2)))))))
  have m96 : oR (f91 N0) 1 = N01 := ((fm_R g94 rN0 rfl).trans ((fm_R g82 rN0 rfl).trans ((fm_R g68 rN0 rfl).trans ((fm_R g54 rN0 rfl).trans ((fm_R g40 rN0 rfl).trans ((fm_R g26 rN0 rfl).trans ((fm_R g10 rN0 rfl).trans mN01)))))))
  have m97 : oR (f91 N0) 3 = N03 := ((fm_R g94 rN0 rfl).trans ((fm_R g82 rN0 rfl).trans ((fm_R g68 rN0 rfl).trans ((fm_R g54 rN0 rfl).trans ((fm_R g40 rN0 rfl).trans ((fm_R g26 rN0 rfl).trans ((fm_R g10 rN0 rfl).trans mN03)))))))
  have m98 : oR (f91 N0) 4 = N04 := ((fm_R g94 rN0 rfl).trans ((fm_R g82 rN0 rfl).trans ((fm_R g68 rN0 rfl).trans ((fm_R g54 rN0 rfl).trans ((fm_R g40 rN0 rfl).trans ((fm_R g26 rN0 rfl).trans ((fm_R g10 rN0 rfl).trans mN04)))))))
  have m99 : oR (f91 N0) 6 = N06 := ((fm_R g94 rN0 rfl).trans ((fm_R g82 rN0 rfl).trans ((fm_R g68 rN0 rfl).trans ((fm_R g54 rN0 rfl).trans ((fm_R g40 rN0 rfl).trans ((fm_R g26 rN0 rfl).trans ((fm_R g10 rN0 rfl).trans mN06)))))))
  have m100 : oR (f91 N5) 4 = N54 := ((fm_R g94 rN5 rfl).trans ((fm_R g82 rN5 rfl).trans ((fm_R g68 rN5 rfl).trans ((fm_R g54 rN5 rfl).trans ((fm_R g40 rN5 rfl).trans ((fm_R g26 rN5 rfl).trans ((fm_R g10 rN5 rfl).trans mN54)))))))
  have m101 : oR (f91 N5) 5 = N55 := ((fm_R g94 rN5 rfl).trans ((fm_R g82 rN5 rfl).trans ((fm_R g68 rN5 rfl).trans ((fm_R g54 rN5 rfl).trans ((fm_R g40 rN5 rfl).trans ((fm_R g26 rN5 rfl).trans ((fm_R g10 rN5 rfl).trans mN55)))))))
  have m102 : oR (f91 u1) 0 = U0 := ((fm_R g94 ru1 rfl).trans ((fm_R g82 ru1 rfl).trans ((fm_R g68 ru1 rfl).trans ((fm_R g54 ru1 rfl).trans ((fm_R g40 ru1 rfl).trans ((fm_R g26 ru1 rfl).trans ((fm_R g10 ru1 rfl).trans m5)))))))
  have m104 : P8 f91 N0 = P8 f0 U0 := (p8_fm hW0 rN0 g94 rfl).trans m86
  have m105 : L8 f91 N5 = L8 f0 U5 := (l8_fm hW0 rN5 g94 rfl).trans (h83.trans m71)
  have z103 : WU kp L [N0, N01, N03, N04, N06, N5, N54, N55] f0 f91 := wu_fm z87 g94 rfl
  have hF := FM.tr hF g94 rfl
  refine lv_aload_n hx hb dX0_copyFrom_74 rfl (lv_at hl 0 rfl) ?_
  refine fg_RX0_53 E hW rh0 dX0_copyFrom_75 (fun a106 m107 r108 => ?_)
  refine lv_iconst (v := (-1)) hx hb dX0_copyFrom_78 (by decide) ?_
  have hW0 := hW.2.2.2
  refine t_callS (As := [.ref a106, .int (-1)]) (rest := []) E hW (c_fill l G cI cJ cZ cD cR cT kp L f91 hW.2.2.2 _ a106 (-1) 108 r108 (by decide) rfl (by decide) (fun _ _ _ => trivial) (by decide)) wk_J7_fill_53178 tw_390 rfl ⟨Nat.le_of_ble_eq_true rfl, Nat.le_of_ble_eq_true rfl⟩ ⟨rfl, rfl⟩ hl.1 rfl (Nat.le_of_ble_eq_true rfl) dX0_copyFrom_79 ⟨Nat.le_of_ble_eq_true rfl, Nat.le_of_ble_eq_true rfl⟩ (fun v112 f109 H locs q111 hW => ?_)
  obtain ⟨rfl, g110⟩ := q111
  have m113 : oR (f109 h0) 1 = a17 := ((fm_R g110 rh0 rfl).trans ((fm_R g94 rh0 rfl).trans ((fm_R g82 rh0 rfl).trans ((fm_R g68 rh0 rfl).trans ((fm_R g54 rh0 rfl).trans ((fm_R g40 rh0 rfl).trans ((fm_R g26 rh0 rfl).trans m18)))))))
  have m114 : oR (f109 u1) 1 = a20 := ((fm_R g110 ru1 rfl).trans ((fm_R g94 ru1 rfl).trans ((fm_R g82 ru1 rfl).trans ((fm_R g68 ru1 rfl).trans ((fm_R g54 ru1 rfl).trans ((fm_R g40 ru1 rfl).trans ((fm_R g26 ru1 rfl).trans m21)))))))
  have m116 : P8 f109 N0 = P8 f0 U0 := (p8_fm hW0 rN0 g110 rfl).trans m104
  have m117 : L8 f109 N5 = L8 f0 U5 := (l8_fm hW0 rN5 g110 rfl).trans m105
  have z115 : WU kp L [N0, N01, N03, N04, N06, N5, N54, N55] f0 f109 := wu_fm z103 g110 rfl
  have hF := FM.tr hF g110 rfl
  refine lv_aload_n hx hb dX0_copyFrom_82 rfl (lv_at hl 0 rfl) ?_
  refine lv_iconst (v := 0) hx hb dX0_copyFrom_83 (by decide) ?_
  have hW0 := hW.2.2.2
  refine fp_RX0_97 E hW rh0 (by decide) dX0_copyFrom_84 (fun f118 H locs e119 n120 g121 hW => ?_)
  have m122 : oR (f118 h0) 2 = a31 := ((fm_R g121 rh0 rfl).trans ((fm_R g110 rh0 rfl).trans ((fm_R g94 rh0 rfl).trans ((fm_R g82 rh0 rfl).trans ((fm_R g68 rh0 rfl).trans ((fm_R g54 rh0 rfl).trans ((fm_R g40 rh0 rfl).trans m32)))))))
  have m123 : oR (f118 u1) 2 = a34 := ((fm_R g121 ru1 rfl).trans ((fm_R g110 ru1 rfl).trans ((fm_R g94 ru1 rfl).trans ((fm_R g82 ru1 rfl).trans ((fm_R g68 ru1 rfl).trans ((fm_R g54 ru1 rfl).trans ((fm_R g40 ru1 rfl).trans m35)))))))
  have m125 : P8 f118 N0 = P8 f0 U0 := (p8_fm hW0 rN0 g121 rfl).trans m116
  have m126 : L8 f118 N5 = L8 f0 U5 := (l8_fm hW0 rN5 g121 rfl).trans m117
  have z124 : WU kp L [N0, N01, N03, N04, N06, N5, N54, N55] f0 f118 := wu_fm z115 g121 rfl
  have hF := FM.tr hF g121 rfl
  refine lv_aload_n hx hb dX0_copyFrom_87 rfl (lv_at hl 0 rfl) ?_
  refine lv_iconst (v := 0) hx hb dX0_copyFrom_88 (by decide) ?_
  have hW0 := hW.2.2.2
  refine fp_RX0_100 E hW rh0 dX0_copyFrom_89 (fun f127 H locs e128 n129 g130 hW => ?_)
  have m131 : oR (f127 h0) 3 = a45 := ((fm_R g130 rh0 rfl).trans ((fm_R g121 rh0 rfl).trans ((fm_R g110 rh0 rfl).trans ((fm_R g94 rh0 rfl).trans ((fm_R g82 rh0 rfl).trans ((fm_R g68 rh0 rfl).trans ((fm_R g54 rh0 rfl).trans m46)))))))
  have m132 : oR (f127 u1) 3 = a48 := ((fm_R g130 ru1 rfl).trans ((fm_R g121 ru1 rfl).trans ((fm_R g110 ru1 rfl).trans ((fm_R g94 ru1 rfl).trans ((fm_R g82 ru1 rfl).trans ((fm_R g68 ru1 rfl).trans ((fm_R g54 ru1 rfl).trans m49)))))))
  have m134 : P8 f127 N0 = P8 f0 U0 := (p8_fm hW0 rN0 g130 rfl).trans m125
  have m135 : L8 f127 N5 = L8 f0 U5 := (l8_fm hW0 rN5 g130 rfl).trans m126
  have z133 : WU kp L [N0, N01, N03, N04, N06, N5, N54, N55] f0 f127 := wu_fm z124 g130 rfl
  have hF := FM.tr hF g130 rfl
  refine lv_aload_n hx hb dX0_copyFrom_92 rfl (lv_at hl 0 rfl) ?_
  refine lv_lconst (v := 0) hx hb dX0_copyFrom_93 (by decide) ?_
  have hW0 := hW.2.2.2
  refine fp_RX0_103 E hW rh0 dX0_copyFrom_94 (fun f136 H locs e137 n138 g139 hW => ?_)
  have m140 : oR (f136 h0) 4 = a59 := ((fm_R g139 rh0 rfl).trans ((fm_R g130 rh0 rfl).trans ((fm_R g121 rh0 rfl).trans ((fm_R g110 rh0 rfl).trans ((fm_R g94 rh0 rfl).trans ((fm_R g82 rh0 rfl).trans ((fm_R g68 rh0 rfl).trans m60)))))))
  have m141 : oR (f136 u1) 4 = a62 := ((fm_R g139 ru1 rfl).trans ((fm_R g130 ru1 rfl).trans ((fm_R g121 ru1 rfl).trans ((fm_R g110 ru1 rfl).trans ((fm_R g94 ru1 rfl).trans ((fm_R g82 ru1 rfl).trans ((fm_R g68 ru1 rfl).trans m63)))))))
  have m143 : P8 f136 N0 = P8 f0 U0 := (p8_fm hW0 rN0 g139 rfl).trans m134
  have m144 : L8 f136 N5 = L8 f0 U5 := (l8_fm hW0 rN5 g139 rfl).trans m135
  have z142 : WU kp L [N0, N01, N03, N04, N06, N5, N54, N55] f0 f136 := wu_fm z133 g139 rfl
  have hF := FM.tr hF g139 rfl
  exact e_V E hW rfl ⟨rfl, hF, (by rw [mN0, mU0]; exact m143), (by rw [mN5, mU5]; exact m144), (by rw [mN0, mN5, mN01, mN03, mN04, mN06, mN54, mN55]; exact z142)⟩ dX0_copyFrom_97
def ms_X11_image_u0 : List (Nat × Nat) := [(0, 6), (0, 9), (0, 12), (0, 13), (1, 0), (1, 8), (1, 12), (1, 13), (1, 14), (2, 0), (3, 0), (3, 1), (3, 2), (3, 3), (4, 0), (10, 0), (10, 7), (11, 4), (11, 5), (11, 15), (108, 0), (161, 0), (162, 0), (163, 0), (164, 0), (165, 0), (166, 0), (167, 0), (169, 0), (170, 0), (171, 0), (221, 0), (284, 0), (285, 0), (341, 0), (342, 0), (343, 0), (344, 0), (345, 0), (346, 0), (347, 0), (348, 0), (520, 0), (521, 0), (701, 0), (702, 0), (703, 0), (704, 0), (705, 0), (706, 0), (708, 0), (709, 0), (710, 0)]
def po_X11_image_u0 (kp : Nat → Nat) (L : List Nat) (f0 : Nat → va_E) (h0 : Nat) : Option Value → (Nat → va_E) → Prop := fun v f => (∃ r : Int32, v = some (.int r) ∧ (r.toInt = 0)) ∧ FM kp L ms_X11_image_u0 f0 f ∧ ((oI (f h0) 4).toInt = 1 ∧ (oI (f h0) 5).toInt = (oI (f0 h0) 5).toInt) ∧ (P8 f (oR (f0 (oR (f0 h0) 2)) 0) = P8 f0 (oR (f0 (oR (f0 h0) 0)) 0)) ∧ (L8 f (oR (f0 (oR (f0 h0) 2)) 5) = L8 f0 (oR (f0 (oR (f0 h0) 0)) 5)) ∧ (WU kp L [(oR (f0 (oR (f0 h0) 2)) 0), (oR (f0 (oR (f0 (oR (f0 h0) 2)) 0)) 1), (oR (f0 (oR (f0 (oR (f0 h0) 2)) 0)) 3), (oR (f0 (oR (f0 (oR (f0 h0) 2)) 0)) 4), (oR (f0 (oR (f0 (oR (f0 h0) 2)) 0)) 6), (oR (f0 (oR (f0 h0) 2)) 5), (oR (f0 (oR (f0 (oR (f0 h0) 2)) 5)) 4), (oR (f0 (oR (f0 (oR (f0 h0) 2)) 5)) 5)] f0 f)
set_option maxHeartbeats 4000000 in
set_option maxRecDepth 100000 in
theorem c_X11_image_u0 (l : Launch) (G : va_G) (cI cJ cZ cD cR cT : ClassId) (kp : Nat → Nat) (L : List Nat) (f0 : Nat → va_E) (hTH : TH cI cJ cZ cD cR cT kp L f0) (sz : Nat) (h0 : Nat) (rh0 : RK kp L h0 11) : Met l yX11_image (Cond.code yX11_image cX11_image 2 (some .int) :: wTab) ({ frames := 3, cells := 0, slots := 0, locals := 103 }) (va_Pc [.ref h0, .int 0] (PreW G (tys6 cI cJ cZ cD cR cT) (va_pl L f0) sz)) (QT (po_X11_image_u0 kp L f0 h0) G cI cJ cZ cD cR cT (va_A (va_pl L f0) sz) kp L) 0 0 (va_A (va_pl L f0) sz) := by
  refine metT (by decide) (Nat.le_of_ble_eq_true rfl) hTH ?_
  intro p e s m below meth c A ls E hW hl
  obtain ⟨hx, hb, -, hml, hown, hts, -, -, -⟩ := id E
  have hF : FM kp L ms_X11_image_u0 f0 f0 := FM.rf
  have hl : lv_has ls 2 [(0, .ref h0), (1, .int 0)] := hl
  obtain ⟨N0, mN0⟩ : ∃ x : Nat, oR (f0 h0) 0 = x := ⟨_, rfl⟩
  have rN0 : RK kp L N0 0 := by rw [← mN0]; exact th_ref hTH rh0 (by decide) (by decide) rfl
  obtain ⟨N2, mN2⟩ : ∃ x : Nat, oR (f0 h0) 2 = x := ⟨_, rfl⟩
  have rN2 : RK kp L N2 0 := by rw [← mN2]; exact th_ref hTH rh0 (by decide) (by decide) rfl
  obtain ⟨N00, mN00⟩ : ∃ x : Nat, oR (f0 N0) 0 = x := ⟨_, rfl⟩
  have rN00 : RK kp L N00 4 := by rw [← mN00]; exact th_ref hTH rN0 (by decide) (by decide) rfl
  obtain ⟨N05, mN05⟩ : ∃ x : Nat, oR (f0 N0) 5 = x := ⟨_, rfl⟩
  have rN05 : RK kp L N05 3 := by rw [← mN05]; exact th_ref hTH rN0 (by decide) (by decide) rfl
  obtain ⟨N20, mN20⟩ : ∃ x : Nat, oR (f0 N2) 0 = x := ⟨_, rfl⟩
  have rN20 : RK kp L N20 4 := by rw [← mN20]; exact th_ref hTH rN2 (by decide) (by decide) rfl
  obtain ⟨N25, mN25⟩ : ∃ x : Nat, oR (f0 N2) 5 = x := ⟨_, rfl⟩
  have rN25 : RK kp L N25 3 := by rw [← mN25]; exact th_ref hTH rN2 (by decide) (by decide) rfl
  obtain ⟨N001, mN001⟩ : ∃ x : Nat, oR (f0 N00) 1 = x := ⟨_, rfl⟩
  have rN001 : RK kp L N001 341 := by rw [← mN001]; exact th_ref hTH rN00 (by decide) (by decide) rfl
  obtain ⟨N003, mN003⟩ : ∃ x : Nat, oR (f0 N00) 3 = x := ⟨_, rfl⟩
  have rN003 : RK kp L N003 343 := by rw [← mN003]; exact th_ref hTH rN00 (by decide) (by decide) rfl
  obtain ⟨N004, mN004⟩ : ∃ x : Nat, oR (f0 N00) 4 = x := ⟨_, rfl⟩
  have rN004 : RK kp L N004 344 := by rw [← mN004]; exact th_ref hTH rN00 (by decide) (by decide) rfl
  obtain ⟨N006, mN006⟩ : ∃ x : Nat, oR (f0 N00) 6 = x := ⟨_, rfl⟩
  have rN006 : RK kp L N006 346 := by rw [← mN006]; exact th_ref hTH rN00 (by decide) (by decide) rfl
  obtain ⟨N054, mN054⟩ : ∃ x : Nat, oR (f0 N05) 4 = x := ⟨_, rfl⟩
  have rN054 : RK kp L N054 284 := by rw [← mN054]; exact th_ref hTH rN05 (by decide) (by decide) rfl
  obtain ⟨N055, mN055⟩ : ∃ x : Nat, oR (f0 N05) 5 = x := ⟨_, rfl⟩
  have rN055 : RK kp L N055 285 := by rw [← mN055]; exact th_ref hTH rN05 (by decide) (by decide) rfl
  obtain ⟨N201, mN201⟩ : ∃ x : Nat, oR (f0 N20) 1 = x := ⟨_, rfl⟩
  have rN201 : RK kp L N201 341 := by rw [← mN201]; exact th_ref hTH rN20 (by decide) (by decide) rfl
  obtain ⟨N203, mN203⟩ : ∃ x : Nat, oR (f0 N20) 3 = x := ⟨_, rfl⟩
  have rN203 : RK kp L N203 343 := by rw [← mN203]; exact th_ref hTH rN20 (by decide) (by decide) rfl
  obtain ⟨N204, mN204⟩ : ∃ x : Nat, oR (f0 N20) 4 = x := ⟨_, rfl⟩
  have rN204 : RK kp L N204 344 := by rw [← mN204]; exact th_ref hTH rN20 (by decide) (by decide) rfl
  obtain ⟨N206, mN206⟩ : ∃ x : Nat, oR (f0 N20) 6 = x := ⟨_, rfl⟩
  have rN206 : RK kp L N206 346 := by rw [← mN206]; exact th_ref hTH rN20 (by decide) (by decide) rfl
  obtain ⟨N254, mN254⟩ : ∃ x : Nat, oR (f0 N25) 4 = x := ⟨_, rfl⟩
  have rN254 : RK kp L N254 284 := by rw [← mN254]; exact th_ref hTH rN25 (by decide) (by decide) rfl
  obtain ⟨N255, mN255⟩ : ∃ x : Nat, oR (f0 N25) 5 = x := ⟨_, rfl⟩
  have rN255 : RK kp L N255 285 := by rw [← mN255]; exact th_ref hTH rN25 (by decide) (by decide) rfl
  obtain ⟨ko, mko⟩ : ∃ x : Int32, oI (f0 h0) 4 = x := ⟨_, rfl⟩
  have bko : (0 : Int) ≤ ko.toInt ∧ ko.toInt ≤ 1 := by rw [← mko]; exact th_iv hW rh0 (by decide) (by decide) rfl
  obtain ⟨kx, mkx⟩ : ∃ x : Int32, oI (f0 h0) 5 = x := ⟨_, rfl⟩
  have bkx : (0 : Int) ≤ kx.toInt ∧ kx.toInt ≤ 1 := by rw [← mkx]; exact th_iv hW rh0 (by decide) (by decide) rfl
  refine lv_iload_n hx hb dX11_image_0 rfl (lv_at hl 1 rfl) ?_
  refine lv_iconst (v := 0) hx hb dX11_image_1 (by decide) ?_
  refine lv_iconst (v := 1) hx hb dX11_image_2 (by decide) ?_
  have hW0 := hW.2.2.2
  refine t_callS (As := [.int 0, .int 0, .int 1]) (rest := []) E hW (c_X11_within l G cI cJ cZ cD cR cT kp L f0 hW.2.2.2 _ 0 0 1 (by decide)) wk_X11_within tw_599 rfl ⟨Nat.le_of_ble_eq_true rfl, Nat.le_of_ble_eq_true rfl⟩ ⟨rfl, rfl⟩ hl.1 rfl (Nat.le_of_ble_eq_true rfl) dX11_image_3 ⟨Nat.le_of_ble_eq_true rfl, Nat.le_of_ble_eq_true rfl⟩ (fun v1 f2 H locs q3 hW => ?_)
  obtain ⟨⟨x5, rfl, p6⟩, g4⟩ := q3
  have p6 : (x5.toInt = 1 ∧ (0 : Int) ≤ (0 : Int) ∧ (0 : Int) ≤ (1 : Int)) ∨ (x5.toInt = 0 ∧ ((0 : Int) < (0 : Int) ∨ (1 : Int) < (0 : Int))) := p6
  have m8 : P8 f2 N00 = P8 f0 N00 := (p8_fm hW0 rN00 g4 rfl).trans (rfl : P8 f0 N00 = P8 f0 N00)
  have m9 : L8 f2 N05 = L8 f0 N05 := (l8_fm hW0 rN05 g4 rfl).trans (rfl : L8 f0 N05 = L8 f0 N05)
  have m10 : P8 f2 N20 = P8 f0 N20 := (p8_fm hW0 rN20 g4 rfl).trans (rfl : P8 f0 N20 = P8 f0 N20)
  have m11 : L8 f2 N25 = L8 f0 N25 := (l8_fm hW0 rN25 g4 rfl).trans (rfl : L8 f0 N25 = L8 f0 N25)
  have z7 : WU kp L [N20, N201, N203, N204, N206, N25, N254, N255] f0 f2 := wu_fm (wu_rf : WU kp L [N20, N201, N203, N204, N206, N25, N254, N255] f0 f0) g4 rfl
  have hF := FM.tr hF g4 rfl
  refine q_if_ne (tgt := 15) hx hb dX11_image_6 (by decide) rfl (fun c12 => ?_) (fun c12 => ?_)
  · have q13 : (0 : Int) ≤ (0 : Int) ∧ (0 : Int) ≤ (1 : Int) := by omega
    clear p6
    refine lv_iload_n hx hb dX11_image_15 rfl (lv_at hl 1 rfl) ?_
    refine q_if_ne (X := 0) (tgt := 38) hx hb dX11_image_16 (by decide) rfl (fun c => absurd c (by decide)) (fun _ => ?_)
    refine lv_aload_n hx hb dX11_image_19 rfl (lv_at hl 0 rfl) ?_
    refine fg_RX11_21 E hW rh0 dX11_image_20 (fun a14 m15 r16 => ?_)
    obtain rfl : N2 = a14 := (((fm_R g4 rh0 rfl).trans mN2)).symm.trans m15
    refine lv_aload_n hx hb dX11_image_23 rfl (lv_at hl 0 rfl) ?_
    refine fg_RX11_12 E hW rh0 dX11_image_24 (fun a17 m18 r19 => ?_)
    obtain rfl : N0 = a17 := (((fm_R g4 rh0 rfl).trans mN0)).symm.trans m18
    have hW0 := hW.2.2.2
    refine t_callV (As := [.ref N0]) (rest := []) E hW (c_X0_copyFrom_u l G cI cJ cZ cD cR cT kp L f2 hW.2.2.2 _ N2 N0 rN2 rN0) rN2 (by decide) rfl wk_X0_copyFrom tw_1285 rfl ⟨Nat.le_of_ble_eq_true rfl, Nat.le_of_ble_eq_true rfl⟩ ⟨rfl, rfl⟩ hl.1 rfl (Nat.le_of_ble_eq_true rfl) dX11_image_27 ⟨Nat.le_of_ble_eq_true rfl, Nat.le_of_ble_eq_true rfl⟩ (fun v20 f21 H locs q22 hW => ?_)
    obtain ⟨rfl, g23, h24, h25, h26⟩ := q22
    have hF := FM.tr hF g23 rfl
    have z28 : WU kp L [N20, N201, N203, N204, N206, N25, N254, N255] f0 f21 := wu_call z7 h26 (by rw [((fm_R g4 rN2 rfl).trans mN20), ((fm_R g4 rN2 rfl).trans mN25), ((fm_R g4 rN20 rfl).trans mN201), ((fm_R g4 rN20 rfl).trans mN203), ((fm_R g4 rN20 rfl).trans mN204), ((fm_R g4 rN20 rfl).trans mN206), ((fm_R g4 rN25 rfl).trans mN254), ((fm_R g4 rN25 rfl).trans mN255)]; intro q h; simp only [List.mem_cons, List.not_mem_nil, or_false] at h ⊢; omega)
    have z29 : P8 f21 N20 = P8 f0 N00 := by have q := h24; rw [((fm_R g4 rN2 rfl).trans mN20), ((fm_R g4 rN0 rfl).trans mN00)] at q; exact q.trans m8
    have z30 : L8 f21 N25 = L8 f0 N05 := by have q := h25; rw [((fm_R g4 rN2 rfl).trans mN25), ((fm_R g4 rN0 rfl).trans mN05)] at q; exact q.trans m9
    refine lv_aload_n hx hb dX11_image_30 rfl (lv_at hl 0 rfl) ?_
    refine lv_iconst (v := 1) hx hb dX11_image_31 (by decide) ?_
    have hW0 := hW.2.2.2
    refine fp_RX11_349 E hW rh0 (by decide) dX11_image_32 (fun f31 H locs e32 n33 g34 hW => ?_)
    have m36 : P8 f31 N20 = P8 f0 N00 := (p8_fm hW0 rN20 g34 rfl).trans z29
    have m37 : L8 f31 N25 = L8 f0 N05 := (l8_fm hW0 rN25 g34 rfl).trans z30
    have z35 : WU kp L [N20, N201, N203, N204, N206, N25, N254, N255] f0 f31 := wu_fm z28 g34 rfl
    have hF := FM.tr hF g34 rfl
    refine lv_goto (tgt := 54) hx hb dX11_image_35 (by decide) ?_
    refine lv_aload_n hx hb dX11_image_54 rfl (lv_at hl 0 rfl) ?_
    refine lv_iconst (v := 0) hx hb dX11_image_55 (by decide) ?_
    have hW0 := hW.2.2.2
    refine t_callV (As := [.int 0]) (rest := []) E hW (c_X11_accept_x l G cI cJ cZ cD cR cT kp L f31 hW.2.2.2 _ h0 0 rh0) rh0 (by decide) rfl wk_X11_accept tw_611 rfl ⟨Nat.le_of_ble_eq_true rfl, Nat.le_of_ble_eq_true rfl⟩ ⟨rfl, rfl⟩ hl.1 rfl (Nat.le_of_ble_eq_true rfl) dX11_image_56 ⟨Nat.le_of_ble_eq_true rfl, Nat.le_of_ble_eq_true rfl⟩ (fun v38 f39 H locs q40 hW => ?_)
    obtain ⟨⟨x42, rfl, p43⟩, g41⟩ := q40
    have p43 : x42.toInt = (0 : Int) := p43
    have m45 : P8 f39 N20 = P8 f0 N00 := (p8_fm hW0 rN20 g41 rfl).trans m36
    have m46 : L8 f39 N25 = L8 f0 N05 := (l8_fm hW0 rN25 g41 rfl).trans m37
    have z44 : WU kp L [N20, N201, N203, N204, N206, N25, N254, N255] f0 f39 := wu_fm z35 g41 rfl
    have hF := FM.tr hF g41 rfl
    exact e_I E hW rfl ⟨⟨_, rfl, (by first | omega | trivial)⟩, hF, (by have h1 : (1 : Int32).toInt = 1 := rfl; rw [((fm_I g41 rh0 rfl).trans e32), ((fm_I g41 rh0 rfl).trans ((fm_I g34 rh0 rfl).trans ((fm_I g23 rh0 rfl).trans ((fm_I g4 rh0 rfl).trans mkx)))), mkx]; omega), (by rw [mN2, mN20, mN0, mN00]; exact m45), (by rw [mN2, mN25, mN0, mN05]; exact m46), (by rw [mN2, mN20, mN25, mN201, mN203, mN204, mN206, mN254, mN255]; exact z44)⟩ dX11_image_59
  · exfalso; omega
def ms_X11_back_u0 : List (Nat × Nat) := [(0, 6), (0, 9), (0, 12), (0, 13), (1, 0), (1, 8), (1, 12), (1, 13), (1, 14), (2, 0), (3, 0), (3, 1), (3, 2), (3, 3), (4, 0), (10, 0), (10, 7), (11, 15), (108, 0), (161, 0), (162, 0), (163, 0), (164, 0), (165, 0), (166, 0), (167, 0), (169, 0), (170, 0), (171, 0), (221, 0), (284, 0), (285, 0), (341, 0), (342, 0), (343, 0), (344, 0), (345, 0), (346, 0), (347, 0), (348, 0), (520, 0), (521, 0), (701, 0), (702, 0), (703, 0), (704, 0), (705, 0), (706, 0), (708, 0), (709, 0), (710, 0)]
def po_X11_back_u0 (kp : Nat → Nat) (L : List Nat) (f0 : Nat → va_E) (h0 : Nat) : Option Value → (Nat → va_E) → Prop := fun v f => (∃ r : Int32, v = some (.int r) ∧ ((r.toInt = -2 ∧ (oI (f0 h0) 4).toInt = 0) ∨ (r.toInt = 0 ∧ ¬ (oI (f0 h0) 4).toInt = 0))) ∧ FM kp L ms_X11_back_u0 f0 f ∧ (((oI (f0 h0) 4).toInt = 0 ∧ P8 f (oR (f0 (oR (f0 h0) 0)) 0) = P8 f0 (oR (f0 (oR (f0 h0) 0)) 0)) ∨ (¬ (oI (f0 h0) 4).toInt = 0 ∧ P8 f (oR (f0 (oR (f0 h0) 0)) 0) = P8 f0 (oR (f0 (oR (f0 h0) 2)) 0))) ∧ (((oI (f0 h0) 4).toInt = 0 ∧ L8 f (oR (f0 (oR (f0 h0) 0)) 5) = L8 f0 (oR (f0 (oR (f0 h0) 0)) 5)) ∨ (¬ (oI (f0 h0) 4).toInt = 0 ∧ L8 f (oR (f0 (oR (f0 h0) 0)) 5) = L8 f0 (oR (f0 (oR (f0 h0) 2)) 5))) ∧ (WU kp L [(oR (f0 (oR (f0 h0) 0)) 0), (oR (f0 (oR (f0 (oR (f0 h0) 0)) 0)) 1), (oR (f0 (oR (f0 (oR (f0 h0) 0)) 0)) 3), (oR (f0 (oR (f0 (oR (f0 h0) 0)) 0)) 4), (oR (f0 (oR (f0 (oR (f0 h0) 0)) 0)) 6), (oR (f0 (oR (f0 h0) 0)) 5), (oR (f0 (oR (f0 (oR (f0 h0) 0)) 5)) 4), (oR (f0 (oR (f0 (oR (f0 h0) 0)) 5)) 5)] f0 f)
set_option maxHeartbeats 4000000 in
set_option maxRecDepth 100000 in
theorem c_X11_back_u0 (l : Launch) (G : va_G) (cI cJ cZ cD cR cT : ClassId) (kp : Nat → Nat) (L : List Nat) (f0 : Nat → va_E) (hTH : TH cI cJ cZ cD cR cT kp L f0) (sz : Nat) (h0 : Nat) (rh0 : RK kp L h0 11) : Met l yX11_back (Cond.code yX11_back cX11_back 2 (some .int) :: wTab) ({ frames := 3, cells := 0, slots := 0, locals := 103 }) (va_Pc [.ref h0, .int 0] (PreW G (tys6 cI cJ cZ cD cR cT) (va_pl L f0) sz)) (QT (po_X11_back_u0 kp L f0 h0) G cI cJ cZ cD cR cT (va_A (va_pl L f0) sz) kp L) 0 0 (va_A (va_pl L f0) sz) := by
  refine metT (by decide) (Nat.le_of_ble_eq_true rfl) hTH ?_
  intro p e s m below meth c A ls E hW hl
  obtain ⟨hx, hb, -, hml, hown, hts, -, -, -⟩ := id E
  have hF : FM kp L ms_X11_back_u0 f0 f0 := FM.rf
  have hl : lv_has ls 2 [(0, .ref h0), (1, .int 0)] := hl
  obtain ⟨N0, mN0⟩ : ∃ x : Nat, oR (f0 h0) 0 = x := ⟨_, rfl⟩
  have rN0 : RK kp L N0 0 := by rw [← mN0]; exact th_ref hTH rh0 (by decide) (by decide) rfl
  obtain ⟨N2, mN2⟩ : ∃ x : Nat, oR (f0 h0) 2 = x := ⟨_, rfl⟩
  have rN2 : RK kp L N2 0 := by rw [← mN2]; exact th_ref hTH rh0 (by decide) (by decide) rfl
  obtain ⟨N00, mN00⟩ : ∃ x : Nat, oR (f0 N0) 0 = x := ⟨_, rfl⟩
  have rN00 : RK kp L N00 4 := by rw [← mN00]; exact th_ref hTH rN0 (by decide) (by decide) rfl
  obtain ⟨N05, mN05⟩ : ∃ x : Nat, oR (f0 N0) 5 = x := ⟨_, rfl⟩
  have rN05 : RK kp L N05 3 := by rw [← mN05]; exact th_ref hTH rN0 (by decide) (by decide) rfl
  obtain ⟨N20, mN20⟩ : ∃ x : Nat, oR (f0 N2) 0 = x := ⟨_, rfl⟩
  have rN20 : RK kp L N20 4 := by rw [← mN20]; exact th_ref hTH rN2 (by decide) (by decide) rfl
  obtain ⟨N25, mN25⟩ : ∃ x : Nat, oR (f0 N2) 5 = x := ⟨_, rfl⟩
  have rN25 : RK kp L N25 3 := by rw [← mN25]; exact th_ref hTH rN2 (by decide) (by decide) rfl
  obtain ⟨N001, mN001⟩ : ∃ x : Nat, oR (f0 N00) 1 = x := ⟨_, rfl⟩
  have rN001 : RK kp L N001 341 := by rw [← mN001]; exact th_ref hTH rN00 (by decide) (by decide) rfl
  obtain ⟨N003, mN003⟩ : ∃ x : Nat, oR (f0 N00) 3 = x := ⟨_, rfl⟩
  have rN003 : RK kp L N003 343 := by rw [← mN003]; exact th_ref hTH rN00 (by decide) (by decide) rfl
  obtain ⟨N004, mN004⟩ : ∃ x : Nat, oR (f0 N00) 4 = x := ⟨_, rfl⟩
  have rN004 : RK kp L N004 344 := by rw [← mN004]; exact th_ref hTH rN00 (by decide) (by decide) rfl
  obtain ⟨N006, mN006⟩ : ∃ x : Nat, oR (f0 N00) 6 = x := ⟨_, rfl⟩
  have rN006 : RK kp L N006 346 := by rw [← mN006]; exact th_ref hTH rN00 (by decide) (by decide) rfl
  obtain ⟨N054, mN054⟩ : ∃ x : Nat, oR (f0 N05) 4 = x := ⟨_, rfl⟩
  have rN054 : RK kp L N054 284 := by rw [← mN054]; exact th_ref hTH rN05 (by decide) (by decide) rfl
  obtain ⟨N055, mN055⟩ : ∃ x : Nat, oR (f0 N05) 5 = x := ⟨_, rfl⟩
  have rN055 : RK kp L N055 285 := by rw [← mN055]; exact th_ref hTH rN05 (by decide) (by decide) rfl
  obtain ⟨N201, mN201⟩ : ∃ x : Nat, oR (f0 N20) 1 = x := ⟨_, rfl⟩
  have rN201 : RK kp L N201 341 := by rw [← mN201]; exact th_ref hTH rN20 (by decide) (by decide) rfl
  obtain ⟨N203, mN203⟩ : ∃ x : Nat, oR (f0 N20) 3 = x := ⟨_, rfl⟩
  have rN203 : RK kp L N203 343 := by rw [← mN203]; exact th_ref hTH rN20 (by decide) (by decide) rfl
  obtain ⟨N204, mN204⟩ : ∃ x : Nat, oR (f0 N20) 4 = x := ⟨_, rfl⟩
  have rN204 : RK kp L N204 344 := by rw [← mN204]; exact th_ref hTH rN20 (by decide) (by decide) rfl
  obtain ⟨N206, mN206⟩ : ∃ x : Nat, oR (f0 N20) 6 = x := ⟨_, rfl⟩
  have rN206 : RK kp L N206 346 := by rw [← mN206]; exact th_ref hTH rN20 (by decide) (by decide) rfl
  obtain ⟨N254, mN254⟩ : ∃ x : Nat, oR (f0 N25) 4 = x := ⟨_, rfl⟩
  have rN254 : RK kp L N254 284 := by rw [← mN254]; exact th_ref hTH rN25 (by decide) (by decide) rfl
  obtain ⟨N255, mN255⟩ : ∃ x : Nat, oR (f0 N25) 5 = x := ⟨_, rfl⟩
  have rN255 : RK kp L N255 285 := by rw [← mN255]; exact th_ref hTH rN25 (by decide) (by decide) rfl
  obtain ⟨ko, mko⟩ : ∃ x : Int32, oI (f0 h0) 4 = x := ⟨_, rfl⟩
  have bko : (0 : Int) ≤ ko.toInt ∧ ko.toInt ≤ 1 := by rw [← mko]; exact th_iv hW rh0 (by decide) (by decide) rfl
  refine lv_iload_n hx hb dX11_back_0 rfl (lv_at hl 1 rfl) ?_
  refine lv_iconst (v := 0) hx hb dX11_back_1 (by decide) ?_
  refine lv_iconst (v := 1) hx hb dX11_back_2 (by decide) ?_
  have hW0 := hW.2.2.2
  refine t_callS (As := [.int 0, .int 0, .int 1]) (rest := []) E hW (c_X11_within l G cI cJ cZ cD cR cT kp L f0 hW.2.2.2 _ 0 0 1 (by decide)) wk_X11_within tw_599 rfl ⟨Nat.le_of_ble_eq_true rfl, Nat.le_of_ble_eq_true rfl⟩ ⟨rfl, rfl⟩ hl.1 rfl (Nat.le_of_ble_eq_true rfl) dX11_back_3 ⟨Nat.le_of_ble_eq_true rfl, Nat.le_of_ble_eq_true rfl⟩ (fun v1 f2 H locs q3 hW => ?_)
  obtain ⟨⟨x5, rfl, p6⟩, g4⟩ := q3
  have p6 : (x5.toInt = 1 ∧ (0 : Int) ≤ (0 : Int) ∧ (0 : Int) ≤ (1 : Int)) ∨ (x5.toInt = 0 ∧ ((0 : Int) < (0 : Int) ∨ (1 : Int) < (0 : Int))) := p6
  have m8 : P8 f2 N00 = P8 f0 N00 := (p8_fm hW0 rN00 g4 rfl).trans (rfl : P8 f0 N00 = P8 f0 N00)
  have m9 : L8 f2 N05 = L8 f0 N05 := (l8_fm hW0 rN05 g4 rfl).trans (rfl : L8 f0 N05 = L8 f0 N05)
  have m10 : P8 f2 N20 = P8 f0 N20 := (p8_fm hW0 rN20 g4 rfl).trans (rfl : P8 f0 N20 = P8 f0 N20)
  have m11 : L8 f2 N25 = L8 f0 N25 := (l8_fm hW0 rN25 g4 rfl).trans (rfl : L8 f0 N25 = L8 f0 N25)
  have z7 : WU kp L [N00, N001, N003, N004, N006, N05, N054, N055] f0 f2 := wu_fm (wu_rf : WU kp L [N00, N001, N003, N004, N006, N05, N054, N055] f0 f0) g4 rfl
  have hF := FM.tr hF g4 rfl
  refine q_if_ne (tgt := 15) hx hb dX11_back_6 (by decide) rfl (fun c12 => ?_) (fun c12 => ?_)
  · have q13 : (0 : Int) ≤ (0 : Int) ∧ (0 : Int) ≤ (1 : Int) := by omega
    clear p6
    refine lv_iload_n hx hb dX11_back_15 rfl (lv_at hl 1 rfl) ?_
    refine q_if_ne (X := 0) (tgt := 29) hx hb dX11_back_16 (by decide) rfl (fun c => absurd c (by decide)) (fun _ => ?_)
    refine lv_aload_n hx hb dX11_back_19 rfl (lv_at hl 0 rfl) ?_
    refine fg_RX11_349 E hW rh0 dX11_back_20 (fun y14 m15 b16 => ?_)
    obtain rfl : ko = y14 := (((fm_I g4 rh0 rfl).trans mko)).symm.trans m15
    refine q_if_ne (tgt := 43) hx hb dX11_back_23 (by decide) rfl (fun c17 => ?_) (fun c17 => ?_)
    · refine lv_aload_n hx hb dX11_back_43 rfl (lv_at hl 0 rfl) ?_
      refine fg_RX11_12 E hW rh0 dX11_back_44 (fun a18 m19 r20 => ?_)
      obtain rfl : N0 = a18 := (((fm_R g4 rh0 rfl).trans mN0)).symm.trans m19
      refine lv_iload_n hx hb dX11_back_47 rfl (lv_at hl 1 rfl) ?_
      refine q_if_ne (X := 0) (tgt := 58) hx hb dX11_back_48 (by decide) rfl (fun c => absurd c (by decide)) (fun _ => ?_)
      refine lv_aload_n hx hb dX11_back_51 rfl (lv_at hl 0 rfl) ?_
      refine fg_RX11_21 E hW rh0 dX11_back_52 (fun a21 m22 r23 => ?_)
      obtain rfl : N2 = a21 := (((fm_R g4 rh0 rfl).trans mN2)).symm.trans m22
      refine lv_goto (tgt := 62) hx hb dX11_back_55 (by decide) ?_
      have hW0 := hW.2.2.2
      refine t_callV (As := [.ref N2]) (rest := []) E hW (c_X0_copyFrom_u l G cI cJ cZ cD cR cT kp L f2 hW.2.2.2 _ N0 N2 rN0 rN2) rN0 (by decide) rfl wk_X0_copyFrom tw_1285 rfl ⟨Nat.le_of_ble_eq_true rfl, Nat.le_of_ble_eq_true rfl⟩ ⟨rfl, rfl⟩ hl.1 rfl (Nat.le_of_ble_eq_true rfl) dX11_back_62 ⟨Nat.le_of_ble_eq_true rfl, Nat.le_of_ble_eq_true rfl⟩ (fun v24 f25 H locs q26 hW => ?_)
      obtain ⟨rfl, g27, h28, h29, h30⟩ := q26
      have hF := FM.tr hF g27 rfl
      have z32 : WU kp L [N00, N001, N003, N004, N006, N05, N054, N055] f0 f25 := wu_call z7 h30 (by rw [((fm_R g4 rN0 rfl).trans mN00), ((fm_R g4 rN0 rfl).trans mN05), ((fm_R g4 rN00 rfl).trans mN001), ((fm_R g4 rN00 rfl).trans mN003), ((fm_R g4 rN00 rfl).trans mN004), ((fm_R g4 rN00 rfl).trans mN006), ((fm_R g4 rN05 rfl).trans mN054), ((fm_R g4 rN05 rfl).trans mN055)]; intro q h; simp only [List.mem_cons, List.not_mem_nil, or_false] at h ⊢; omega)
      have z33 : P8 f25 N00 = P8 f0 N20 := by have q := h28; rw [((fm_R g4 rN0 rfl).trans mN00), ((fm_R g4 rN2 rfl).trans mN20)] at q; exact q.trans m10
      have z34 : L8 f25 N05 = L8 f0 N25 := by have q := h29; rw [((fm_R g4 rN0 rfl).trans mN05), ((fm_R g4 rN2 rfl).trans mN25)] at q; exact q.trans m11
      refine lv_aload_n hx hb dX11_back_65 rfl (lv_at hl 0 rfl) ?_
      refine lv_iconst (v := 0) hx hb dX11_back_66 (by decide) ?_
      have hW0 := hW.2.2.2
      refine t_callV (As := [.int 0]) (rest := []) E hW (c_X11_accept_x l G cI cJ cZ cD cR cT kp L f25 hW.2.2.2 _ h0 0 rh0) rh0 (by decide) rfl wk_X11_accept tw_611 rfl ⟨Nat.le_of_ble_eq_true rfl, Nat.le_of_ble_eq_true rfl⟩ ⟨rfl, rfl⟩ hl.1 rfl (Nat.le_of_ble_eq_true rfl) dX11_back_67 ⟨Nat.le_of_ble_eq_true rfl, Nat.le_of_ble_eq_true rfl⟩ (fun v35 f36 H locs q37 hW => ?_)
      obtain ⟨⟨x39, rfl, p40⟩, g38⟩ := q37
      have p40 : x39.toInt = (0 : Int) := p40
      have m42 : P8 f36 N00 = P8 f0 N20 := (p8_fm hW0 rN00 g38 rfl).trans z33
      have m43 : L8 f36 N05 = L8 f0 N25 := (l8_fm hW0 rN05 g38 rfl).trans z34
      have z41 : WU kp L [N00, N001, N003, N004, N006, N05, N054, N055] f0 f36 := wu_fm z32 g38 rfl
      have hF := FM.tr hF g38 rfl
      exact e_I E hW rfl ⟨⟨_, rfl, (by rw [mko]; omega)⟩, hF, (Or.inr ⟨by rw [mko]; omega, by rw [mN0, mN00, mN2, mN20]; exact m42⟩), (Or.inr ⟨by rw [mko]; omega, by rw [mN0, mN05, mN2, mN25]; exact m43⟩), (by rw [mN0, mN00, mN05, mN001, mN003, mN004, mN006, mN054, mN055]; exact z41)⟩ dX11_back_70
    · refine lv_goto (tgt := 36) hx hb dX11_back_26 (by decide) ?_
      refine lv_aload_n hx hb dX11_back_36 rfl (lv_at hl 0 rfl) ?_
      refine lv_bipush (v := (-2)) hx hb dX11_back_37 (by decide) ?_
      have hW0 := hW.2.2.2
      refine t_callV (As := [.int (-2)]) (rest := []) E hW (c_X11_refuse_x l G cI cJ cZ cD cR cT kp L f2 hW.2.2.2 _ h0 (-2) rh0 (by decide)) rh0 (by decide) rfl wk_X11_refuse tw_603 rfl ⟨Nat.le_of_ble_eq_true rfl, Nat.le_of_ble_eq_true rfl⟩ ⟨rfl, rfl⟩ hl.1 rfl (Nat.le_of_ble_eq_true rfl) dX11_back_39 ⟨Nat.le_of_ble_eq_true rfl, Nat.le_of_ble_eq_true rfl⟩ (fun v44 f45 H locs q46 hW => ?_)
      obtain ⟨⟨x48, rfl, p49⟩, g47⟩ := q46
      have p49 : x48.toInt = (-2 : Int) := p49
      have m51 : P8 f45 N00 = P8 f0 N00 := (p8_fm hW0 rN00 g47 rfl).trans m8
      have m52 : L8 f45 N05 = L8 f0 N05 := (l8_fm hW0 rN05 g47 rfl).trans m9
      have m53 : P8 f45 N20 = P8 f0 N20 := (p8_fm hW0 rN20 g47 rfl).trans m10
      have m54 : L8 f45 N25 = L8 f0 N25 := (l8_fm hW0 rN25 g47 rfl).trans m11
      have z50 : WU kp L [N00, N001, N003, N004, N006, N05, N054, N055] f0 f45 := wu_fm z7 g47 rfl
      have hF := FM.tr hF g47 rfl
      exact e_I E hW rfl ⟨⟨_, rfl, (by rw [mko]; omega)⟩, hF, (Or.inl ⟨by rw [mko]; omega, by rw [mN0, mN00]; exact m51⟩), (Or.inl ⟨by rw [mko]; omega, by rw [mN0, mN05]; exact m52⟩), (by rw [mN0, mN00, mN05, mN001, mN003, mN004, mN006, mN054, mN055]; exact z50)⟩ dX11_back_42
  · exfalso; omega
def ms_X11_image_u1 : List (Nat × Nat) := [(0, 6), (0, 9), (0, 12), (0, 13), (1, 0), (1, 8), (1, 12), (1, 13), (1, 14), (2, 0), (3, 0), (3, 1), (3, 2), (3, 3), (4, 0), (10, 0), (10, 7), (11, 4), (11, 5), (11, 15), (108, 0), (161, 0), (162, 0), (163, 0), (164, 0), (165, 0), (166, 0), (167, 0), (169, 0), (170, 0), (171, 0), (221, 0), (284, 0), (285, 0), (341, 0), (342, 0), (343, 0), (344, 0), (345, 0), (346, 0), (347, 0), (348, 0), (520, 0), (521, 0), (701, 0), (702, 0), (703, 0), (704, 0), (705, 0), (706, 0), (708, 0), (709, 0), (710, 0)]
def po_X11_image_u1 (kp : Nat → Nat) (L : List Nat) (f0 : Nat → va_E) (h0 : Nat) : Option Value → (Nat → va_E) → Prop := fun v f => (∃ r : Int32, v = some (.int r) ∧ (r.toInt = 0)) ∧ FM kp L ms_X11_image_u1 f0 f ∧ ((oI (f h0) 5).toInt = 1 ∧ (oI (f h0) 4).toInt = (oI (f0 h0) 4).toInt) ∧ (P8 f (oR (f0 (oR (f0 h0) 3)) 0) = P8 f0 (oR (f0 (oR (f0 h0) 0)) 0)) ∧ (L8 f (oR (f0 (oR (f0 h0) 3)) 5) = L8 f0 (oR (f0 (oR (f0 h0) 0)) 5)) ∧ (WU kp L [(oR (f0 (oR (f0 h0) 3)) 0), (oR (f0 (oR (f0 (oR (f0 h0) 3)) 0)) 1), (oR (f0 (oR (f0 (oR (f0 h0) 3)) 0)) 3), (oR (f0 (oR (f0 (oR (f0 h0) 3)) 0)) 4), (oR (f0 (oR (f0 (oR (f0 h0) 3)) 0)) 6), (oR (f0 (oR (f0 h0) 3)) 5), (oR (f0 (oR (f0 (oR (f0 h0) 3)) 5)) 4), (oR (f0 (oR (f0 (oR (f0 h0) 3)) 5)) 5)] f0 f)
set_option maxHeartbeats 4000000 in
set_option maxRecDepth 100000 in
theorem c_X11_image_u1 (l : Launch) (G : va_G) (cI cJ cZ cD cR cT : ClassId) (kp : Nat → Nat) (L : List Nat) (f0 : Nat → va_E) (hTH : TH cI cJ cZ cD cR cT kp L f0) (sz : Nat) (h0 : Nat) (rh0 : RK kp L h0 11) : Met l yX11_image (Cond.code yX11_image cX11_image 2 (some .int) :: wTab) ({ frames := 3, cells := 0, slots := 0, locals := 103 }) (va_Pc [.ref h0, .int 1] (PreW G (tys6 cI cJ cZ cD cR cT) (va_pl L f0) sz)) (QT (po_X11_image_u1 kp L f0 h0) G cI cJ cZ cD cR cT (va_A (va_pl L f0) sz) kp L) 0 0 (va_A (va_pl L f0) sz) := by
  refine metT (by decide) (Nat.le_of_ble_eq_true rfl) hTH ?_
  intro p e s m below meth c A ls E hW hl
  obtain ⟨hx, hb, -, hml, hown, hts, -, -, -⟩ := id E
  have hF : FM kp L ms_X11_image_u1 f0 f0 := FM.rf
  have hl : lv_has ls 2 [(0, .ref h0), (1, .int 1)] := hl
  obtain ⟨N0, mN0⟩ : ∃ x : Nat, oR (f0 h0) 0 = x := ⟨_, rfl⟩
  have rN0 : RK kp L N0 0 := by rw [← mN0]; exact th_ref hTH rh0 (by decide) (by decide) rfl
  obtain ⟨N3, mN3⟩ : ∃ x : Nat, oR (f0 h0) 3 = x := ⟨_, rfl⟩
  have rN3 : RK kp L N3 0 := by rw [← mN3]; exact th_ref hTH rh0 (by decide) (by decide) rfl
  obtain ⟨N00, mN00⟩ : ∃ x : Nat, oR (f0 N0) 0 = x := ⟨_, rfl⟩
  have rN00 : RK kp L N00 4 := by rw [← mN00]; exact th_ref hTH rN0 (by decide) (by decide) rfl
  obtain ⟨N05, mN05⟩ : ∃ x : Nat, oR (f0 N0) 5 = x := ⟨_, rfl⟩
  have rN05 : RK kp L N05 3 := by rw [← mN05]; exact th_ref hTH rN0 (by decide) (by decide) rfl
  obtain ⟨N30, mN30⟩ : ∃ x : Nat, oR (f0 N3) 0 = x := ⟨_, rfl⟩
  have rN30 : RK kp L N30 4 := by rw [← mN30]; exact th_ref hTH rN3 (by decide) (by decide) rfl
  obtain ⟨N35, mN35⟩ : ∃ x : Nat, oR (f0 N3) 5 = x := ⟨_, rfl⟩
  have rN35 : RK kp L N35 3 := by rw [← mN35]; exact th_ref hTH rN3 (by decide) (by decide) rfl
  obtain ⟨N001, mN001⟩ : ∃ x : Nat, oR (f0 N00) 1 = x := ⟨_, rfl⟩
  have rN001 : RK kp L N001 341 := by rw [← mN001]; exact th_ref hTH rN00 (by decide) (by decide) rfl
  obtain ⟨N003, mN003⟩ : ∃ x : Nat, oR (f0 N00) 3 = x := ⟨_, rfl⟩
  have rN003 : RK kp L N003 343 := by rw [← mN003]; exact th_ref hTH rN00 (by decide) (by decide) rfl
  obtain ⟨N004, mN004⟩ : ∃ x : Nat, oR (f0 N00) 4 = x := ⟨_, rfl⟩
  have rN004 : RK kp L N004 344 := by rw [← mN004]; exact th_ref hTH rN00 (by decide) (by decide) rfl
  obtain ⟨N006, mN006⟩ : ∃ x : Nat, oR (f0 N00) 6 = x := ⟨_, rfl⟩
  have rN006 : RK kp L N006 346 := by rw [← mN006]; exact th_ref hTH rN00 (by decide) (by decide) rfl
  obtain ⟨N054, mN054⟩ : ∃ x : Nat, oR (f0 N05) 4 = x := ⟨_, rfl⟩
  have rN054 : RK kp L N054 284 := by rw [← mN054]; exact th_ref hTH rN05 (by decide) (by decide) rfl
  obtain ⟨N055, mN055⟩ : ∃ x : Nat, oR (f0 N05) 5 = x := ⟨_, rfl⟩
  have rN055 : RK kp L N055 285 := by rw [← mN055]; exact th_ref hTH rN05 (by decide) (by decide) rfl
  obtain ⟨N301, mN301⟩ : ∃ x : Nat, oR (f0 N30) 1 = x := ⟨_, rfl⟩
  have rN301 : RK kp L N301 341 := by rw [← mN301]; exact th_ref hTH rN30 (by decide) (by decide) rfl
  obtain ⟨N303, mN303⟩ : ∃ x : Nat, oR (f0 N30) 3 = x := ⟨_, rfl⟩
  have rN303 : RK kp L N303 343 := by rw [← mN303]; exact th_ref hTH rN30 (by decide) (by decide) rfl
  obtain ⟨N304, mN304⟩ : ∃ x : Nat, oR (f0 N30) 4 = x := ⟨_, rfl⟩
  have rN304 : RK kp L N304 344 := by rw [← mN304]; exact th_ref hTH rN30 (by decide) (by decide) rfl
  obtain ⟨N306, mN306⟩ : ∃ x : Nat, oR (f0 N30) 6 = x := ⟨_, rfl⟩
  have rN306 : RK kp L N306 346 := by rw [← mN306]; exact th_ref hTH rN30 (by decide) (by decide) rfl
  obtain ⟨N354, mN354⟩ : ∃ x : Nat, oR (f0 N35) 4 = x := ⟨_, rfl⟩
  have rN354 : RK kp L N354 284 := by rw [← mN354]; exact th_ref hTH rN35 (by decide) (by decide) rfl
  obtain ⟨N355, mN355⟩ : ∃ x : Nat, oR (f0 N35) 5 = x := ⟨_, rfl⟩
  have rN355 : RK kp L N355 285 := by rw [← mN355]; exact th_ref hTH rN35 (by decide) (by decide) rfl
  obtain ⟨ko, mko⟩ : ∃ x : Int32, oI (f0 h0) 5 = x := ⟨_, rfl⟩
  have bko : (0 : Int) ≤ ko.toInt ∧ ko.toInt ≤ 1 := by rw [← mko]; exact th_iv hW rh0 (by decide) (by decide) rfl
  obtain ⟨kx, mkx⟩ : ∃ x : Int32, oI (f0 h0) 4 = x := ⟨_, rfl⟩
  have bkx : (0 : Int) ≤ kx.toInt ∧ kx.toInt ≤ 1 := by rw [← mkx]; exact th_iv hW rh0 (by decide) (by decide) rfl
  refine lv_iload_n hx hb dX11_image_0 rfl (lv_at hl 1 rfl) ?_
  refine lv_iconst (v := 0) hx hb dX11_image_1 (by decide) ?_
  refine lv_iconst (v := 1) hx hb dX11_image_2 (by decide) ?_
  have hW0 := hW.2.2.2
  refine t_callS (As := [.int 1, .int 0, .int 1]) (rest := []) E hW (c_X11_within l G cI cJ cZ cD cR cT kp L f0 hW.2.2.2 _ 1 0 1 (by decide)) wk_X11_within tw_599 rfl ⟨Nat.le_of_ble_eq_true rfl, Nat.le_of_ble_eq_true rfl⟩ ⟨rfl, rfl⟩ hl.1 rfl (Nat.le_of_ble_eq_true rfl) dX11_image_3 ⟨Nat.le_of_ble_eq_true rfl, Nat.le_of_ble_eq_true rfl⟩ (fun v1 f2 H locs q3 hW => ?_)
  obtain ⟨⟨x5, rfl, p6⟩, g4⟩ := q3
  have p6 : (x5.toInt = 1 ∧ (0 : Int) ≤ (1 : Int) ∧ (1 : Int) ≤ (1 : Int)) ∨ (x5.toInt = 0 ∧ ((1 : Int) < (0 : Int) ∨ (1 : Int) < (1 : Int))) := p6
  have m8 : P8 f2 N00 = P8 f0 N00 := (p8_fm hW0 rN00 g4 rfl).trans (rfl : P8 f0 N00 = P8 f0 N00)
  have m9 : L8 f2 N05 = L8 f0 N05 := (l8_fm hW0 rN05 g4 rfl).trans (rfl : L8 f0 N05 = L8 f0 N05)
  have m10 : P8 f2 N30 = P8 f0 N30 := (p8_fm hW0 rN30 g4 rfl).trans (rfl : P8 f0 N30 = P8 f0 N30)
  have m11 : L8 f2 N35 = L8 f0 N35 := (l8_fm hW0 rN35 g4 rfl).trans (rfl : L8 f0 N35 = L8 f0 N35)
  have z7 : WU kp L [N30, N301, N303, N304, N306, N35, N354, N355] f0 f2 := wu_fm (wu_rf : WU kp L [N30, N301, N303, N304, N306, N35, N354, N355] f0 f0) g4 rfl
  have hF := FM.tr hF g4 rfl
  refine q_if_ne (tgt := 15) hx hb dX11_image_6 (by decide) rfl (fun c12 => ?_) (fun c12 => ?_)
  · have q13 : (0 : Int) ≤ (1 : Int) ∧ (1 : Int) ≤ (1 : Int) := by omega
    clear p6
    refine lv_iload_n hx hb dX11_image_15 rfl (lv_at hl 1 rfl) ?_
    refine q_if_ne (X := 1) (tgt := 38) hx hb dX11_image_16 (by decide) rfl (fun _ => ?_) (fun c => absurd c (by decide))
    refine lv_aload_n hx hb dX11_image_38 rfl (lv_at hl 0 rfl) ?_
    refine fg_RX11_24 E hW rh0 dX11_image_39 (fun a14 m15 r16 => ?_)
    obtain rfl : N3 = a14 := (((fm_R g4 rh0 rfl).trans mN3)).symm.trans m15
    refine lv_aload_n hx hb dX11_image_42 rfl (lv_at hl 0 rfl) ?_
    refine fg_RX11_12 E hW rh0 dX11_image_43 (fun a17 m18 r19 => ?_)
    obtain rfl : N0 = a17 := (((fm_R g4 rh0 rfl).trans mN0)).symm.trans m18
    have hW0 := hW.2.2.2
    refine t_callV (As := [.ref N0]) (rest := []) E hW (c_X0_copyFrom_u l G cI cJ cZ cD cR cT kp L f2 hW.2.2.2 _ N3 N0 rN3 rN0) rN3 (by decide) rfl wk_X0_copyFrom tw_1285 rfl ⟨Nat.le_of_ble_eq_true rfl, Nat.le_of_ble_eq_true rfl⟩ ⟨rfl, rfl⟩ hl.1 rfl (Nat.le_of_ble_eq_true rfl) dX11_image_46 ⟨Nat.le_of_ble_eq_true rfl, Nat.le_of_ble_eq_true rfl⟩ (fun v20 f21 H locs q22 hW => ?_)
    obtain ⟨rfl, g23, h24, h25, h26⟩ := q22
    have hF := FM.tr hF g23 rfl
    have z28 : WU kp L [N30, N301, N303, N304, N306, N35, N354, N355] f0 f21 := wu_call z7 h26 (by rw [((fm_R g4 rN3 rfl).trans mN30), ((fm_R g4 rN3 rfl).trans mN35), ((fm_R g4 rN30 rfl).trans mN301), ((fm_R g4 rN30 rfl).trans mN303), ((fm_R g4 rN30 rfl).trans mN304), ((fm_R g4 rN30 rfl).trans mN306), ((fm_R g4 rN35 rfl).trans mN354), ((fm_R g4 rN35 rfl).trans mN355)]; intro q h; simp only [List.mem_cons, List.not_mem_nil, or_false] at h ⊢; omega)
    have z29 : P8 f21 N30 = P8 f0 N00 := by have q := h24; rw [((fm_R g4 rN3 rfl).trans mN30), ((fm_R g4 rN0 rfl).trans mN00)] at q; exact q.trans m8
    have z30 : L8 f21 N35 = L8 f0 N05 := by have q := h25; rw [((fm_R g4 rN3 rfl).trans mN35), ((fm_R g4 rN0 rfl).trans mN05)] at q; exact q.trans m9
    refine lv_aload_n hx hb dX11_image_49 rfl (lv_at hl 0 rfl) ?_
    refine lv_iconst (v := 1) hx hb dX11_image_50 (by decide) ?_
    have hW0 := hW.2.2.2
    refine fp_RX11_353 E hW rh0 (by decide) dX11_image_51 (fun f31 H locs e32 n33 g34 hW => ?_)
    have m36 : P8 f31 N30 = P8 f0 N00 := (p8_fm hW0 rN30 g34 rfl).trans z29
    have m37 : L8 f31 N35 = L8 f0 N05 := (l8_fm hW0 rN35 g34 rfl).trans z30
    have z35 : WU kp L [N30, N301, N303, N304, N306, N35, N354, N355] f0 f31 := wu_fm z28 g34 rfl
    have hF := FM.tr hF g34 rfl
    refine lv_aload_n hx hb dX11_image_54 rfl (lv_at hl 0 rfl) ?_
    refine lv_iconst (v := 0) hx hb dX11_image_55 (by decide) ?_
    have hW0 := hW.2.2.2
    refine t_callV (As := [.int 0]) (rest := []) E hW (c_X11_accept_x l G cI cJ cZ cD cR cT kp L f31 hW.2.2.2 _ h0 0 rh0) rh0 (by decide) rfl wk_X11_accept tw_611 rfl ⟨Nat.le_of_ble_eq_true rfl, Nat.le_of_ble_eq_true rfl⟩ ⟨rfl, rfl⟩ hl.1 rfl (Nat.le_of_ble_eq_true rfl) dX11_image_56 ⟨Nat.le_of_ble_eq_true rfl, Nat.le_of_ble_eq_true rfl⟩ (fun v38 f39 H locs q40 hW => ?_)
    obtain ⟨⟨x42, rfl, p43⟩, g41⟩ := q40
    have p43 : x42.toInt = (0 : Int) := p43
    have m45 : P8 f39 N30 = P8 f0 N00 := (p8_fm hW0 rN30 g41 rfl).trans m36
    have m46 : L8 f39 N35 = L8 f0 N05 := (l8_fm hW0 rN35 g41 rfl).trans m37
    have z44 : WU kp L [N30, N301, N303, N304, N306, N35, N354, N355] f0 f39 := wu_fm z35 g41 rfl
    have hF := FM.tr hF g41 rfl
    exact e_I E hW rfl ⟨⟨_, rfl, (by first | omega | trivial)⟩, hF, (by have h1 : (1 : Int32).toInt = 1 := rfl; rw [((fm_I g41 rh0 rfl).trans e32), ((fm_I g41 rh0 rfl).trans ((fm_I g34 rh0 rfl).trans ((fm_I g23 rh0 rfl).trans ((fm_I g4 rh0 rfl).trans mkx)))), mkx]; omega), (by rw [mN3, mN30, mN0, mN00]; exact m45), (by rw [mN3, mN35, mN0, mN05]; exact m46), (by rw [mN3, mN30, mN35, mN301, mN303, mN304, mN306, mN354, mN355]; exact z44)⟩ dX11_image_59
  · exfalso; omega
def ms_X11_back_u1 : List (Nat × Nat) := [(0, 6), (0, 9), (0, 12), (0, 13), (1, 0), (1, 8), (1, 12), (1, 13), (1, 14), (2, 0), (3, 0), (3, 1), (3, 2), (3, 3), (4, 0), (10, 0), (10, 7), (11, 15), (108, 0), (161, 0), (162, 0), (163, 0), (164, 0), (165, 0), (166, 0), (167, 0), (169, 0), (170, 0), (171, 0), (221, 0), (284, 0), (285, 0), (341, 0), (342, 0), (343, 0), (344, 0), (345, 0), (346, 0), (347, 0), (348, 0), (520, 0), (521, 0), (701, 0), (702, 0), (703, 0), (704, 0), (705, 0), (706, 0), (708, 0), (709, 0), (710, 0)]
def po_X11_back_u1 (kp : Nat → Nat) (L : List Nat) (f0 : Nat → va_E) (h0 : Nat) : Option Value → (Nat → va_E) → Prop := fun v f => (∃ r : Int32, v = some (.int r) ∧ ((r.toInt = -2 ∧ (oI (f0 h0) 5).toInt = 0) ∨ (r.toInt = 0 ∧ ¬ (oI (f0 h0) 5).toInt = 0))) ∧ FM kp L ms_X11_back_u1 f0 f ∧ (((oI (f0 h0) 5).toInt = 0 ∧ P8 f (oR (f0 (oR (f0 h0) 0)) 0) = P8 f0 (oR (f0 (oR (f0 h0) 0)) 0)) ∨ (¬ (oI (f0 h0) 5).toInt = 0 ∧ P8 f (oR (f0 (oR (f0 h0) 0)) 0) = P8 f0 (oR (f0 (oR (f0 h0) 3)) 0))) ∧ (((oI (f0 h0) 5).toInt = 0 ∧ L8 f (oR (f0 (oR (f0 h0) 0)) 5) = L8 f0 (oR (f0 (oR (f0 h0) 0)) 5)) ∨ (¬ (oI (f0 h0) 5).toInt = 0 ∧ L8 f (oR (f0 (oR (f0 h0) 0)) 5) = L8 f0 (oR (f0 (oR (f0 h0) 3)) 5))) ∧ (WU kp L [(oR (f0 (oR (f0 h0) 0)) 0), (oR (f0 (oR (f0 (oR (f0 h0) 0)) 0)) 1), (oR (f0 (oR (f0 (oR (f0 h0) 0)) 0)) 3), (oR (f0 (oR (f0 (oR (f0 h0) 0)) 0)) 4), (oR (f0 (oR (f0 (oR (f0 h0) 0)) 0)) 6), (oR (f0 (oR (f0 h0) 0)) 5), (oR (f0 (oR (f0 (oR (f0 h0) 0)) 5)) 4), (oR (f0 (oR (f0 (oR (f0 h0) 0)) 5)) 5)] f0 f)
set_option maxHeartbeats 4000000 in
set_option maxRecDepth 100000 in
theorem c_X11_back_u1 (l : Launch) (G : va_G) (cI cJ cZ cD cR cT : ClassId) (kp : Nat → Nat) (L : List Nat) (f0 : Nat → va_E) (hTH : TH cI cJ cZ cD cR cT kp L f0) (sz : Nat) (h0 : Nat) (rh0 : RK kp L h0 11) : Met l yX11_back (Cond.code yX11_back cX11_back 2 (some .int) :: wTab) ({ frames := 3, cells := 0, slots := 0, locals := 103 }) (va_Pc [.ref h0, .int 1] (PreW G (tys6 cI cJ cZ cD cR cT) (va_pl L f0) sz)) (QT (po_X11_back_u1 kp L f0 h0) G cI cJ cZ cD cR cT (va_A (va_pl L f0) sz) kp L) 0 0 (va_A (va_pl L f0) sz) := by
  refine metT (by decide) (Nat.le_of_ble_eq_true rfl) hTH ?_
  intro p e s m below meth c A ls E hW hl
  obtain ⟨hx, hb, -, hml, hown, hts, -, -, -⟩ := id E
  have hF : FM kp L ms_X11_back_u1 f0 f0 := FM.rf
  have hl : lv_has ls 2 [(0, .ref h0), (1, .int 1)] := hl
  obtain ⟨N0, mN0⟩ : ∃ x : Nat, oR (f0 h0) 0 = x := ⟨_, rfl⟩
  have rN0 : RK kp L N0 0 := by rw [← mN0]; exact th_ref hTH rh0 (by decide) (by decide) rfl
  obtain ⟨N3, mN3⟩ : ∃ x : Nat, oR (f0 h0) 3 = x := ⟨_, rfl⟩
  have rN3 : RK kp L N3 0 := by rw [← mN3]; exact th_ref hTH rh0 (by decide) (by decide) rfl
  obtain ⟨N00, mN00⟩ : ∃ x : Nat, oR (f0 N0) 0 = x := ⟨_, rfl⟩
  have rN00 : RK kp L N00 4 := by rw [← mN00]; exact th_ref hTH rN0 (by decide) (by decide) rfl
  obtain ⟨N05, mN05⟩ : ∃ x : Nat, oR (f0 N0) 5 = x := ⟨_, rfl⟩
  have rN05 : RK kp L N05 3 := by rw [← mN05]; exact th_ref hTH rN0 (by decide) (by decide) rfl
  obtain ⟨N30, mN30⟩ : ∃ x : Nat, oR (f0 N3) 0 = x := ⟨_, rfl⟩
  have rN30 : RK kp L N30 4 := by rw [← mN30]; exact th_ref hTH rN3 (by decide) (by decide) rfl
  obtain ⟨N35, mN35⟩ : ∃ x : Nat, oR (f0 N3) 5 = x := ⟨_, rfl⟩
  have rN35 : RK kp L N35 3 := by rw [← mN35]; exact th_ref hTH rN3 (by decide) (by decide) rfl
  obtain ⟨N001, mN001⟩ : ∃ x : Nat, oR (f0 N00) 1 = x := ⟨_, rfl⟩
  have rN001 : RK kp L N001 341 := by rw [← mN001]; exact th_ref hTH rN00 (by decide) (by decide) rfl
  obtain ⟨N003, mN003⟩ : ∃ x : Nat, oR (f0 N00) 3 = x := ⟨_, rfl⟩
  have rN003 : RK kp L N003 343 := by rw [← mN003]; exact th_ref hTH rN00 (by decide) (by decide) rfl
  obtain ⟨N004, mN004⟩ : ∃ x : Nat, oR (f0 N00) 4 = x := ⟨_, rfl⟩
  have rN004 : RK kp L N004 344 := by rw [← mN004]; exact th_ref hTH rN00 (by decide) (by decide) rfl
  obtain ⟨N006, mN006⟩ : ∃ x : Nat, oR (f0 N00) 6 = x := ⟨_, rfl⟩
  have rN006 : RK kp L N006 346 := by rw [← mN006]; exact th_ref hTH rN00 (by decide) (by decide) rfl
  obtain ⟨N054, mN054⟩ : ∃ x : Nat, oR (f0 N05) 4 = x := ⟨_, rfl⟩
  have rN054 : RK kp L N054 284 := by rw [← mN054]; exact th_ref hTH rN05 (by decide) (by decide) rfl
  obtain ⟨N055, mN055⟩ : ∃ x : Nat, oR (f0 N05) 5 = x := ⟨_, rfl⟩
  have rN055 : RK kp L N055 285 := by rw [← mN055]; exact th_ref hTH rN05 (by decide) (by decide) rfl
  obtain ⟨N301, mN301⟩ : ∃ x : Nat, oR (f0 N30) 1 = x := ⟨_, rfl⟩
  have rN301 : RK kp L N301 341 := by rw [← mN301]; exact th_ref hTH rN30 (by decide) (by decide) rfl
  obtain ⟨N303, mN303⟩ : ∃ x : Nat, oR (f0 N30) 3 = x := ⟨_, rfl⟩
  have rN303 : RK kp L N303 343 := by rw [← mN303]; exact th_ref hTH rN30 (by decide) (by decide) rfl
  obtain ⟨N304, mN304⟩ : ∃ x : Nat, oR (f0 N30) 4 = x := ⟨_, rfl⟩
  have rN304 : RK kp L N304 344 := by rw [← mN304]; exact th_ref hTH rN30 (by decide) (by decide) rfl
  obtain ⟨N306, mN306⟩ : ∃ x : Nat, oR (f0 N30) 6 = x := ⟨_, rfl⟩
  have rN306 : RK kp L N306 346 := by rw [← mN306]; exact th_ref hTH rN30 (by decide) (by decide) rfl
  obtain ⟨N354, mN354⟩ : ∃ x : Nat, oR (f0 N35) 4 = x := ⟨_, rfl⟩
  have rN354 : RK kp L N354 284 := by rw [← mN354]; exact th_ref hTH rN35 (by decide) (by decide) rfl
  obtain ⟨N355, mN355⟩ : ∃ x : Nat, oR (f0 N35) 5 = x := ⟨_, rfl⟩
  have rN355 : RK kp L N355 285 := by rw [← mN355]; exact th_ref hTH rN35 (by decide) (by decide) rfl
  obtain ⟨ko, mko⟩ : ∃ x : Int32, oI (f0 h0) 5 = x := ⟨_, rfl⟩
  have bko : (0 : Int) ≤ ko.toInt ∧ ko.toInt ≤ 1 := by rw [← mko]; exact th_iv hW rh0 (by decide) (by decide) rfl
  refine lv_iload_n hx hb dX11_back_0 rfl (lv_at hl 1 rfl) ?_
  refine lv_iconst (v := 0) hx hb dX11_back_1 (by decide) ?_
  refine lv_iconst (v := 1) hx hb dX11_back_2 (by decide) ?_
  have hW0 := hW.2.2.2
  refine t_callS (As := [.int 1, .int 0, .int 1]) (rest := []) E hW (c_X11_within l G cI cJ cZ cD cR cT kp L f0 hW.2.2.2 _ 1 0 1 (by decide)) wk_X11_within tw_599 rfl ⟨Nat.le_of_ble_eq_true rfl, Nat.le_of_ble_eq_true rfl⟩ ⟨rfl, rfl⟩ hl.1 rfl (Nat.le_of_ble_eq_true rfl) dX11_back_3 ⟨Nat.le_of_ble_eq_true rfl, Nat.le_of_ble_eq_true rfl⟩ (fun v1 f2 H locs q3 hW => ?_)
  obtain ⟨⟨x5, rfl, p6⟩, g4⟩ := q3
  have p6 : (x5.toInt = 1 ∧ (0 : Int) ≤ (1 : Int) ∧ (1 : Int) ≤ (1 : Int)) ∨ (x5.toInt = 0 ∧ ((1 : Int) < (0 : Int) ∨ (1 : Int) < (1 : Int))) := p6
  have m8 : P8 f2 N00 = P8 f0 N00 := (p8_fm hW0 rN00 g4 rfl).trans (rfl : P8 f0 N00 = P8 f0 N00)
  have m9 : L8 f2 N05 = L8 f0 N05 := (l8_fm hW0 rN05 g4 rfl).trans (rfl : L8 f0 N05 = L8 f0 N05)
  have m10 : P8 f2 N30 = P8 f0 N30 := (p8_fm hW0 rN30 g4 rfl).trans (rfl : P8 f0 N30 = P8 f0 N30)
  have m11 : L8 f2 N35 = L8 f0 N35 := (l8_fm hW0 rN35 g4 rfl).trans (rfl : L8 f0 N35 = L8 f0 N35)
  have z7 : WU kp L [N00, N001, N003, N004, N006, N05, N054, N055] f0 f2 := wu_fm (wu_rf : WU kp L [N00, N001, N003, N004, N006, N05, N054, N055] f0 f0) g4 rfl
  have hF := FM.tr hF g4 rfl
  refine q_if_ne (tgt := 15) hx hb dX11_back_6 (by decide) rfl (fun c12 => ?_) (fun c12 => ?_)
  · have q13 : (0 : Int) ≤ (1 : Int) ∧ (1 : Int) ≤ (1 : Int) := by omega
    clear p6
    refine lv_iload_n hx hb dX11_back_15 rfl (lv_at hl 1 rfl) ?_
    refine q_if_ne (X := 1) (tgt := 29) hx hb dX11_back_16 (by decide) rfl (fun _ => ?_) (fun c => absurd c (by decide))
    refine lv_aload_n hx hb dX11_back_29 rfl (lv_at hl 0 rfl) ?_
    refine fg_RX11_353 E hW rh0 dX11_back_30 (fun y14 m15 b16 => ?_)
    obtain rfl : ko = y14 := (((fm_I g4 rh0 rfl).trans mko)).symm.trans m15
    refine q_if_ne (tgt := 43) hx hb dX11_back_33 (by decide) rfl (fun c17 => ?_) (fun c17 => ?_)
    · refine lv_aload_n hx hb dX11_back_43 rfl (lv_at hl 0 rfl) ?_
      refine fg_RX11_12 E hW rh0 dX11_back_44 (fun a18 m19 r20 => ?_)
      obtain rfl : N0 = a18 := (((fm_R g4 rh0 rfl).trans mN0)).symm.trans m19
      refine lv_iload_n hx hb dX11_back_47 rfl (lv_at hl 1 rfl) ?_
      refine q_if_ne (X := 1) (tgt := 58) hx hb dX11_back_48 (by decide) rfl (fun _ => ?_) (fun c => absurd c (by decide))
      refine lv_aload_n hx hb dX11_back_58 rfl (lv_at hl 0 rfl) ?_
      refine fg_RX11_24 E hW rh0 dX11_back_59 (fun a21 m22 r23 => ?_)
      obtain rfl : N3 = a21 := (((fm_R g4 rh0 rfl).trans mN3)).symm.trans m22
      have hW0 := hW.2.2.2
      refine t_callV (As := [.ref N3]) (rest := []) E hW (c_X0_copyFrom_u l G cI cJ cZ cD cR cT kp L f2 hW.2.2.2 _ N0 N3 rN0 rN3) rN0 (by decide) rfl wk_X0_copyFrom tw_1285 rfl ⟨Nat.le_of_ble_eq_true rfl, Nat.le_of_ble_eq_true rfl⟩ ⟨rfl, rfl⟩ hl.1 rfl (Nat.le_of_ble_eq_true rfl) dX11_back_62 ⟨Nat.le_of_ble_eq_true rfl, Nat.le_of_ble_eq_true rfl⟩ (fun v24 f25 H locs q26 hW => ?_)
      obtain ⟨rfl, g27, h28, h29, h30⟩ := q26
      have hF := FM.tr hF g27 rfl
      have z32 : WU kp L [N00, N001, N003, N004, N006, N05, N054, N055] f0 f25 := wu_call z7 h30 (by rw [((fm_R g4 rN0 rfl).trans mN00), ((fm_R g4 rN0 rfl).trans mN05), ((fm_R g4 rN00 rfl).trans mN001), ((fm_R g4 rN00 rfl).trans mN003), ((fm_R g4 rN00 rfl).trans mN004), ((fm_R g4 rN00 rfl).trans mN006), ((fm_R g4 rN05 rfl).trans mN054), ((fm_R g4 rN05 rfl).trans mN055)]; intro q h; simp only [List.mem_cons, List.not_mem_nil, or_false] at h ⊢; omega)
      have z33 : P8 f25 N00 = P8 f0 N30 := by have q := h28; rw [((fm_R g4 rN0 rfl).trans mN00), ((fm_R g4 rN3 rfl).trans mN30)] at q; exact q.trans m10
      have z34 : L8 f25 N05 = L8 f0 N35 := by have q := h29; rw [((fm_R g4 rN0 rfl).trans mN05), ((fm_R g4 rN3 rfl).trans mN35)] at q; exact q.trans m11
      refine lv_aload_n hx hb dX11_back_65 rfl (lv_at hl 0 rfl) ?_
      refine lv_iconst (v := 0) hx hb dX11_back_66 (by decide) ?_
      have hW0 := hW.2.2.2
      refine t_callV (As := [.int 0]) (rest := []) E hW (c_X11_accept_x l G cI cJ cZ cD cR cT kp L f25 hW.2.2.2 _ h0 0 rh0) rh0 (by decide) rfl wk_X11_accept tw_611 rfl ⟨Nat.le_of_ble_eq_true rfl, Nat.le_of_ble_eq_true rfl⟩ ⟨rfl, rfl⟩ hl.1 rfl (Nat.le_of_ble_eq_true rfl) dX11_back_67 ⟨Nat.le_of_ble_eq_true rfl, Nat.le_of_ble_eq_true rfl⟩ (fun v35 f36 H locs q37 hW => ?_)
      obtain ⟨⟨x39, rfl, p40⟩, g38⟩ := q37
      have p40 : x39.toInt = (0 : Int) := p40
      have m42 : P8 f36 N00 = P8 f0 N30 := (p8_fm hW0 rN00 g38 rfl).trans z33
      have m43 : L8 f36 N05 = L8 f0 N35 := (l8_fm hW0 rN05 g38 rfl).trans z34
      have z41 : WU kp L [N00, N001, N003, N004, N006, N05, N054, N055] f0 f36 := wu_fm z32 g38 rfl
      have hF := FM.tr hF g38 rfl
      exact e_I E hW rfl ⟨⟨_, rfl, (by rw [mko]; omega)⟩, hF, (Or.inr ⟨by rw [mko]; omega, by rw [mN0, mN00, mN3, mN30]; exact m42⟩), (Or.inr ⟨by rw [mko]; omega, by rw [mN0, mN05, mN3, mN35]; exact m43⟩), (by rw [mN0, mN00, mN05, mN001, mN003, mN004, mN006, mN054, mN055]; exact z41)⟩ dX11_back_70
    · refine lv_aload_n hx hb dX11_back_36 rfl (lv_at hl 0 rfl) ?_
      refine lv_bipush (v := (-2)) hx hb dX11_back_37 (by decide) ?_
      have hW0 := hW.2.2.2
      refine t_callV (As := [.int (-2)]) (rest := []) E hW (c_X11_refuse_x l G cI cJ cZ cD cR cT kp L f2 hW.2.2.2 _ h0 (-2) rh0 (by decide)) rh0 (by decide) rfl wk_X11_refuse tw_603 rfl ⟨Nat.le_of_ble_eq_true rfl, Nat.le_of_ble_eq_true rfl⟩ ⟨rfl, rfl⟩ hl.1 rfl (Nat.le_of_ble_eq_true rfl) dX11_back_39 ⟨Nat.le_of_ble_eq_true rfl, Nat.le_of_ble_eq_true rfl⟩ (fun v44 f45 H locs q46 hW => ?_)
      obtain ⟨⟨x48, rfl, p49⟩, g47⟩ := q46
      have p49 : x48.toInt = (-2 : Int) := p49
      have m51 : P8 f45 N00 = P8 f0 N00 := (p8_fm hW0 rN00 g47 rfl).trans m8
      have m52 : L8 f45 N05 = L8 f0 N05 := (l8_fm hW0 rN05 g47 rfl).trans m9
      have m53 : P8 f45 N30 = P8 f0 N30 := (p8_fm hW0 rN30 g47 rfl).trans m10
      have m54 : L8 f45 N35 = L8 f0 N35 := (l8_fm hW0 rN35 g47 rfl).trans m11
      have z50 : WU kp L [N00, N001, N003, N004, N006, N05, N054, N055] f0 f45 := wu_fm z7 g47 rfl
      have hF := FM.tr hF g47 rfl
      exact e_I E hW rfl ⟨⟨_, rfl, (by rw [mko]; omega)⟩, hF, (Or.inl ⟨by rw [mko]; omega, by rw [mN0, mN00]; exact m51⟩), (Or.inl ⟨by rw [mko]; omega, by rw [mN0, mN05]; exact m52⟩), (by rw [mN0, mN00, mN05, mN001, mN003, mN004, mN006, mN054, mN055]; exact z50)⟩ dX11_back_42
  · exfalso; omega
def ms_X11_image_un : List (Nat × Nat) := [(0, 6), (0, 9), (0, 12), (0, 13), (1, 0), (1, 8), (1, 12), (1, 13), (1, 14), (2, 0), (3, 0), (3, 1), (3, 2), (3, 3), (4, 0), (10, 0), (10, 7), (11, 4), (11, 5), (11, 15), (108, 0), (161, 0), (162, 0), (163, 0), (164, 0), (165, 0), (166, 0), (167, 0), (169, 0), (170, 0), (171, 0), (221, 0), (284, 0), (285, 0), (341, 0), (342, 0), (343, 0), (344, 0), (345, 0), (346, 0), (347, 0), (348, 0), (520, 0), (521, 0), (701, 0), (702, 0), (703, 0), (704, 0), (705, 0), (706, 0), (708, 0), (709, 0), (710, 0)]
def po_X11_image_un (kp : Nat → Nat) (L : List Nat) (f0 : Nat → va_E) (h0 : Nat) (u1 : Int32) : Option Value → (Nat → va_E) → Prop := fun v f => (∃ r : Int32, v = some (.int r) ∧ (r.toInt = -1)) ∧ FM kp L ms_X11_image_un f0 f ∧ ((oI (f h0) 4).toInt = (oI (f0 h0) 4).toInt ∧ (oI (f h0) 5).toInt = (oI (f0 h0) 5).toInt) ∧ (WU kp L [] f0 f)
set_option maxHeartbeats 4000000 in
set_option maxRecDepth 100000 in
theorem c_X11_image_un (l : Launch) (G : va_G) (cI cJ cZ cD cR cT : ClassId) (kp : Nat → Nat) (L : List Nat) (f0 : Nat → va_E) (hTH : TH cI cJ cZ cD cR cT kp L f0) (sz : Nat) (h0 : Nat) (u1 : Int32) (rh0 : RK kp L h0 11) (hno : ¬ (0 ≤ u1.toInt ∧ u1.toInt ≤ 1)) : Met l yX11_image (Cond.code yX11_image cX11_image 2 (some .int) :: wTab) ({ frames := 3, cells := 0, slots := 0, locals := 103 }) (va_Pc [.ref h0, .int u1] (PreW G (tys6 cI cJ cZ cD cR cT) (va_pl L f0) sz)) (QT (po_X11_image_un kp L f0 h0 u1) G cI cJ cZ cD cR cT (va_A (va_pl L f0) sz) kp L) 0 0 (va_A (va_pl L f0) sz) := by
  refine metT (by decide) (Nat.le_of_ble_eq_true rfl) hTH ?_
  intro p e s m below meth c A ls E hW hl
  obtain ⟨hx, hb, -, hml, hown, hts, -, -, -⟩ := id E
  have hF : FM kp L ms_X11_image_un f0 f0 := FM.rf
  have hl : lv_has ls 2 [(0, .ref h0), (1, .int u1)] := hl
  obtain ⟨N0, mN0⟩ : ∃ x : Nat, oR (f0 h0) 0 = x := ⟨_, rfl⟩
  have rN0 : RK kp L N0 0 := by rw [← mN0]; exact th_ref hTH rh0 (by decide) (by decide) rfl
  obtain ⟨N2, mN2⟩ : ∃ x : Nat, oR (f0 h0) 2 = x := ⟨_, rfl⟩
  have rN2 : RK kp L N2 0 := by rw [← mN2]; exact th_ref hTH rh0 (by decide) (by decide) rfl
  obtain ⟨N3, mN3⟩ : ∃ x : Nat, oR (f0 h0) 3 = x := ⟨_, rfl⟩
  have rN3 : RK kp L N3 0 := by rw [← mN3]; exact th_ref hTH rh0 (by decide) (by decide) rfl
  obtain ⟨N00, mN00⟩ : ∃ x : Nat, oR (f0 N0) 0 = x := ⟨_, rfl⟩
  have rN00 : RK kp L N00 4 := by rw [← mN00]; exact th_ref hTH rN0 (by decide) (by decide) rfl
  obtain ⟨N05, mN05⟩ : ∃ x : Nat, oR (f0 N0) 5 = x := ⟨_, rfl⟩
  have rN05 : RK kp L N05 3 := by rw [← mN05]; exact th_ref hTH rN0 (by decide) (by decide) rfl
  obtain ⟨N20, mN20⟩ : ∃ x : Nat, oR (f0 N2) 0 = x := ⟨_, rfl⟩
  have rN20 : RK kp L N20 4 := by rw [← mN20]; exact th_ref hTH rN2 (by decide) (by decide) rfl
  obtain ⟨N25, mN25⟩ : ∃ x : Nat, oR (f0 N2) 5 = x := ⟨_, rfl⟩
  have rN25 : RK kp L N25 3 := by rw [← mN25]; exact th_ref hTH rN2 (by decide) (by decide) rfl
  obtain ⟨N30, mN30⟩ : ∃ x : Nat, oR (f0 N3) 0 = x := ⟨_, rfl⟩
  have rN30 : RK kp L N30 4 := by rw [← mN30]; exact th_ref hTH rN3 (by decide) (by decide) rfl
  obtain ⟨N35, mN35⟩ : ∃ x : Nat, oR (f0 N3) 5 = x := ⟨_, rfl⟩
  have rN35 : RK kp L N35 3 := by rw [← mN35]; exact th_ref hTH rN3 (by decide) (by decide) rfl
  obtain ⟨N001, mN001⟩ : ∃ x : Nat, oR (f0 N00) 1 = x := ⟨_, rfl⟩
  have rN001 : RK kp L N001 341 := by rw [← mN001]; exact th_ref hTH rN00 (by decide) (by decide) rfl
  obtain ⟨N003, mN003⟩ : ∃ x : Nat, oR (f0 N00) 3 = x := ⟨_, rfl⟩
  have rN003 : RK kp L N003 343 := by rw [← mN003]; exact th_ref hTH rN00 (by decide) (by decide) rfl
  obtain ⟨N004, mN004⟩ : ∃ x : Nat, oR (f0 N00) 4 = x := ⟨_, rfl⟩
  have rN004 : RK kp L N004 344 := by rw [← mN004]; exact th_ref hTH rN00 (by decide) (by decide) rfl
  obtain ⟨N006, mN006⟩ : ∃ x : Nat, oR (f0 N00) 6 = x := ⟨_, rfl⟩
  have rN006 : RK kp L N006 346 := by rw [← mN006]; exact th_ref hTH rN00 (by decide) (by decide) rfl
  obtain ⟨N054, mN054⟩ : ∃ x : Nat, oR (f0 N05) 4 = x := ⟨_, rfl⟩
  have rN054 : RK kp L N054 284 := by rw [← mN054]; exact th_ref hTH rN05 (by decide) (by decide) rfl
  obtain ⟨N055, mN055⟩ : ∃ x : Nat, oR (f0 N05) 5 = x := ⟨_, rfl⟩
  have rN055 : RK kp L N055 285 := by rw [← mN055]; exact th_ref hTH rN05 (by decide) (by decide) rfl
  obtain ⟨N201, mN201⟩ : ∃ x : Nat, oR (f0 N20) 1 = x := ⟨_, rfl⟩
  have rN201 : RK kp L N201 341 := by rw [← mN201]; exact th_ref hTH rN20 (by decide) (by decide) rfl
  obtain ⟨N203, mN203⟩ : ∃ x : Nat, oR (f0 N20) 3 = x := ⟨_, rfl⟩
  have rN203 : RK kp L N203 343 := by rw [← mN203]; exact th_ref hTH rN20 (by decide) (by decide) rfl
  obtain ⟨N204, mN204⟩ : ∃ x : Nat, oR (f0 N20) 4 = x := ⟨_, rfl⟩
  have rN204 : RK kp L N204 344 := by rw [← mN204]; exact th_ref hTH rN20 (by decide) (by decide) rfl
  obtain ⟨N206, mN206⟩ : ∃ x : Nat, oR (f0 N20) 6 = x := ⟨_, rfl⟩
  have rN206 : RK kp L N206 346 := by rw [← mN206]; exact th_ref hTH rN20 (by decide) (by decide) rfl
  obtain ⟨N254, mN254⟩ : ∃ x : Nat, oR (f0 N25) 4 = x := ⟨_, rfl⟩
  have rN254 : RK kp L N254 284 := by rw [← mN254]; exact th_ref hTH rN25 (by decide) (by decide) rfl
  obtain ⟨N255, mN255⟩ : ∃ x : Nat, oR (f0 N25) 5 = x := ⟨_, rfl⟩
  have rN255 : RK kp L N255 285 := by rw [← mN255]; exact th_ref hTH rN25 (by decide) (by decide) rfl
  obtain ⟨N301, mN301⟩ : ∃ x : Nat, oR (f0 N30) 1 = x := ⟨_, rfl⟩
  have rN301 : RK kp L N301 341 := by rw [← mN301]; exact th_ref hTH rN30 (by decide) (by decide) rfl
  obtain ⟨N303, mN303⟩ : ∃ x : Nat, oR (f0 N30) 3 = x := ⟨_, rfl⟩
  have rN303 : RK kp L N303 343 := by rw [← mN303]; exact th_ref hTH rN30 (by decide) (by decide) rfl
  obtain ⟨N304, mN304⟩ : ∃ x : Nat, oR (f0 N30) 4 = x := ⟨_, rfl⟩
  have rN304 : RK kp L N304 344 := by rw [← mN304]; exact th_ref hTH rN30 (by decide) (by decide) rfl
  obtain ⟨N306, mN306⟩ : ∃ x : Nat, oR (f0 N30) 6 = x := ⟨_, rfl⟩
  have rN306 : RK kp L N306 346 := by rw [← mN306]; exact th_ref hTH rN30 (by decide) (by decide) rfl
  obtain ⟨N354, mN354⟩ : ∃ x : Nat, oR (f0 N35) 4 = x := ⟨_, rfl⟩
  have rN354 : RK kp L N354 284 := by rw [← mN354]; exact th_ref hTH rN35 (by decide) (by decide) rfl
  obtain ⟨N355, mN355⟩ : ∃ x : Nat, oR (f0 N35) 5 = x := ⟨_, rfl⟩
  have rN355 : RK kp L N355 285 := by rw [← mN355]; exact th_ref hTH rN35 (by decide) (by decide) rfl
  obtain ⟨k4, mk4⟩ : ∃ x : Int32, oI (f0 h0) 4 = x := ⟨_, rfl⟩
  have bk4 : (0 : Int) ≤ k4.toInt ∧ k4.toInt ≤ 1 := by rw [← mk4]; exact th_iv hW rh0 (by decide) (by decide) rfl
  obtain ⟨k5, mk5⟩ : ∃ x : Int32, oI (f0 h0) 5 = x := ⟨_, rfl⟩
  have bk5 : (0 : Int) ≤ k5.toInt ∧ k5.toInt ≤ 1 := by rw [← mk5]; exact th_iv hW rh0 (by decide) (by decide) rfl
  refine lv_iload_n hx hb dX11_image_0 rfl (lv_at hl 1 rfl) ?_
  refine lv_iconst (v := 0) hx hb dX11_image_1 (by decide) ?_
  refine lv_iconst (v := 1) hx hb dX11_image_2 (by decide) ?_
  have hW0 := hW.2.2.2
  refine t_callS (As := [.int u1, .int 0, .int 1]) (rest := []) E hW (c_X11_within l G cI cJ cZ cD cR cT kp L f0 hW.2.2.2 _ u1 0 1 (by decide)) wk_X11_within tw_599 rfl ⟨Nat.le_of_ble_eq_true rfl, Nat.le_of_ble_eq_true rfl⟩ ⟨rfl, rfl⟩ hl.1 rfl (Nat.le_of_ble_eq_true rfl) dX11_image_3 ⟨Nat.le_of_ble_eq_true rfl, Nat.le_of_ble_eq_true rfl⟩ (fun v1 f2 H locs q3 hW => ?_)
  obtain ⟨⟨x5, rfl, p6⟩, g4⟩ := q3
  have p6 : (x5.toInt = 1 ∧ (0 : Int) ≤ u1.toInt ∧ u1.toInt ≤ (1 : Int)) ∨ (x5.toInt = 0 ∧ (u1.toInt < (0 : Int) ∨ (1 : Int) < u1.toInt)) := p6
  have z7 : WU kp L [] f0 f2 := wu_fm (wu_rf : WU kp L [] f0 f0) g4 rfl
  have hF := FM.tr hF g4 rfl
  refine q_if_ne (tgt := 15) hx hb dX11_image_6 (by decide) rfl (fun c8 => ?_) (fun c8 => ?_)
  · have q9 : (0 : Int) ≤ u1.toInt ∧ u1.toInt ≤ (1 : Int) := by omega
    clear p6
    refine lv_iload_n hx hb dX11_image_15 rfl (lv_at hl 1 rfl) ?_
    refine q_if_ne (tgt := 38) hx hb dX11_image_16 (by decide) rfl (fun c10 => ?_) (fun c10 => ?_)
    · refine lv_aload_n hx hb dX11_image_38 rfl (lv_at hl 0 rfl) ?_
      refine fg_RX11_24 E hW rh0 dX11_image_39 (fun a11 m12 r13 => ?_)
      obtain rfl : N3 = a11 := (((fm_R g4 rh0 rfl).trans mN3)).symm.trans m12
      refine lv_aload_n hx hb dX11_image_42 rfl (lv_at hl 0 rfl) ?_
      refine fg_RX11_12 E hW rh0 dX11_image_43 (fun a14 m15 r16 => ?_)
      obtain rfl : N0 = a14 := (((fm_R g4 rh0 rfl).trans mN0)).symm.trans m15
      have hW0 := hW.2.2.2
      refine t_callV (As := [.ref N0]) (rest := []) E hW (c_X0_copyFrom_u l G cI cJ cZ cD cR cT kp L f2 hW.2.2.2 _ N3 N0 rN3 rN0) rN3 (by decide) rfl wk_X0_copyFrom tw_1285 rfl ⟨Nat.le_of_ble_eq_true rfl, Nat.le_of_ble_eq_true rfl⟩ ⟨rfl, rfl⟩ hl.1 rfl (Nat.le_of_ble_eq_true rfl) dX11_image_46 ⟨Nat.le_of_ble_eq_true rfl, Nat.le_of_ble_eq_true rfl⟩ (fun v17 f18 H locs q19 hW => ?_)
      obtain ⟨rfl, g20, h21, h22, h23⟩ := q19
      have hF := FM.tr hF g20 rfl
      have z25 : WU kp L [] f0 f18 := wu_call z7 h23 (by rw [((fm_R g4 rN3 rfl).trans mN30), ((fm_R g4 rN3 rfl).trans mN35), ((fm_R g4 rN30 rfl).trans mN301), ((fm_R g4 rN30 rfl).trans mN303), ((fm_R g4 rN30 rfl).trans mN304), ((fm_R g4 rN30 rfl).trans mN306), ((fm_R g4 rN35 rfl).trans mN354), ((fm_R g4 rN35 rfl).trans mN355)]; intro q h; simp only [List.mem_cons, List.not_mem_nil, or_false] at h ⊢; omega)
      refine lv_aload_n hx hb dX11_image_49 rfl (lv_at hl 0 rfl) ?_
      refine lv_iconst (v := 1) hx hb dX11_image_50 (by decide) ?_
      have hW0 := hW.2.2.2
      refine fp_RX11_353 E hW rh0 (by decide) dX11_image_51 (fun f26 H locs e27 n28 g29 hW => ?_)
      have z30 : WU kp L [] f0 f26 := wu_fm z25 g29 rfl
      have hF := FM.tr hF g29 rfl
      refine lv_aload_n hx hb dX11_image_54 rfl (lv_at hl 0 rfl) ?_
      refine lv_iconst (v := 0) hx hb dX11_image_55 (by decide) ?_
      have hW0 := hW.2.2.2
      refine t_callV (As := [.int 0]) (rest := []) E hW (c_X11_accept_x l G cI cJ cZ cD cR cT kp L f26 hW.2.2.2 _ h0 0 rh0) rh0 (by decide) rfl wk_X11_accept tw_611 rfl ⟨Nat.le_of_ble_eq_true rfl, Nat.le_of_ble_eq_true rfl⟩ ⟨rfl, rfl⟩ hl.1 rfl (Nat.le_of_ble_eq_true rfl) dX11_image_56 ⟨Nat.le_of_ble_eq_true rfl, Nat.le_of_ble_eq_true rfl⟩ (fun v31 f32 H locs q33 hW => ?_)
      obtain ⟨⟨x35, rfl, p36⟩, g34⟩ := q33
      have p36 : x35.toInt = (0 : Int) := p36
      have z37 : WU kp L [] f0 f32 := wu_fm z30 g34 rfl
      have hF := FM.tr hF g34 rfl
      exact e_I E hW rfl ⟨⟨_, rfl, (by first | omega | trivial)⟩, hF, (by have h1 : (1 : Int32).toInt = 1 := rfl; rw [((fm_I g34 rh0 rfl).trans ((fm_I g29 rh0 rfl).trans ((fm_I g20 rh0 rfl).trans ((fm_I g4 rh0 rfl).trans mk4)))), ((fm_I g34 rh0 rfl).trans e27), mk4, mk5]; omega), z37⟩ dX11_image_59
    · refine lv_aload_n hx hb dX11_image_19 rfl (lv_at hl 0 rfl) ?_
      refine fg_RX11_21 E hW rh0 dX11_image_20 (fun a38 m39 r40 => ?_)
      obtain rfl : N2 = a38 := (((fm_R g4 rh0 rfl).trans mN2)).symm.trans m39
      refine lv_aload_n hx hb dX11_image_23 rfl (lv_at hl 0 rfl) ?_
      refine fg_RX11_12 E hW rh0 dX11_image_24 (fun a41 m42 r43 => ?_)
      obtain rfl : N0 = a41 := (((fm_R g4 rh0 rfl).trans mN0)).symm.trans m42
      have hW0 := hW.2.2.2
      refine t_callV (As := [.ref N0]) (rest := []) E hW (c_X0_copyFrom_u l G cI cJ cZ cD cR cT kp L f2 hW.2.2.2 _ N2 N0 rN2 rN0) rN2 (by decide) rfl wk_X0_copyFrom tw_1285 rfl ⟨Nat.le_of_ble_eq_true rfl, Nat.le_of_ble_eq_true rfl⟩ ⟨rfl, rfl⟩ hl.1 rfl (Nat.le_of_ble_eq_true rfl) dX11_image_27 ⟨Nat.le_of_ble_eq_true rfl, Nat.le_of_ble_eq_true rfl⟩ (fun v44 f45 H locs q46 hW => ?_)
      obtain ⟨rfl, g47, h48, h49, h50⟩ := q46
      have hF := FM.tr hF g47 rfl
      have z52 : WU kp L [] f0 f45 := wu_call z7 h50 (by rw [((fm_R g4 rN2 rfl).trans mN20), ((fm_R g4 rN2 rfl).trans mN25), ((fm_R g4 rN20 rfl).trans mN201), ((fm_R g4 rN20 rfl).trans mN203), ((fm_R g4 rN20 rfl).trans mN204), ((fm_R g4 rN20 rfl).trans mN206), ((fm_R g4 rN25 rfl).trans mN254), ((fm_R g4 rN25 rfl).trans mN255)]; intro q h; simp only [List.mem_cons, List.not_mem_nil, or_false] at h ⊢; omega)
      refine lv_aload_n hx hb dX11_image_30 rfl (lv_at hl 0 rfl) ?_
      refine lv_iconst (v := 1) hx hb dX11_image_31 (by decide) ?_
      have hW0 := hW.2.2.2
      refine fp_RX11_349 E hW rh0 (by decide) dX11_image_32 (fun f53 H locs e54 n55 g56 hW => ?_)
      have z57 : WU kp L [] f0 f53 := wu_fm z52 g56 rfl
      have hF := FM.tr hF g56 rfl
      refine lv_goto (tgt := 54) hx hb dX11_image_35 (by decide) ?_
      refine lv_aload_n hx hb dX11_image_54 rfl (lv_at hl 0 rfl) ?_
      refine lv_iconst (v := 0) hx hb dX11_image_55 (by decide) ?_
      have hW0 := hW.2.2.2
      refine t_callV (As := [.int 0]) (rest := []) E hW (c_X11_accept_x l G cI cJ cZ cD cR cT kp L f53 hW.2.2.2 _ h0 0 rh0) rh0 (by decide) rfl wk_X11_accept tw_611 rfl ⟨Nat.le_of_ble_eq_true rfl, Nat.le_of_ble_eq_true rfl⟩ ⟨rfl, rfl⟩ hl.1 rfl (Nat.le_of_ble_eq_true rfl) dX11_image_56 ⟨Nat.le_of_ble_eq_true rfl, Nat.le_of_ble_eq_true rfl⟩ (fun v58 f59 H locs q60 hW => ?_)
      obtain ⟨⟨x62, rfl, p63⟩, g61⟩ := q60
      have p63 : x62.toInt = (0 : Int) := p63
      have z64 : WU kp L [] f0 f59 := wu_fm z57 g61 rfl
      have hF := FM.tr hF g61 rfl
      exact e_I E hW rfl ⟨⟨_, rfl, (by first | omega | trivial)⟩, hF, (by have h1 : (1 : Int32).toInt = 1 := rfl; rw [((fm_I g61 rh0 rfl).trans e54), ((fm_I g61 rh0 rfl).trans ((fm_I g56 rh0 rfl).trans ((fm_I g47 rh0 rfl).trans ((fm_I g4 rh0 rfl).trans mk5)))), mk4, mk5]; omega), z64⟩ dX11_image_59
  · have q65 : (u1.toInt < (0 : Int) ∨ (1 : Int) < u1.toInt) := by omega
    clear p6
    refine lv_aload_n hx hb dX11_image_9 rfl (lv_at hl 0 rfl) ?_
    refine lv_iconst (v := (-1)) hx hb dX11_image_10 (by decide) ?_
    have hW0 := hW.2.2.2
    refine t_callV (As := [.int (-1)]) (rest := []) E hW (c_X11_refuse_x l G cI cJ cZ cD cR cT kp L f2 hW.2.2.2 _ h0 (-1) rh0 (by decide)) rh0 (by decide) rfl wk_X11_refuse tw_603 rfl ⟨Nat.le_of_ble_eq_true rfl, Nat.le_of_ble_eq_true rfl⟩ ⟨rfl, rfl⟩ hl.1 rfl (Nat.le_of_ble_eq_true rfl) dX11_image_11 ⟨Nat.le_of_ble_eq_true rfl, Nat.le_of_ble_eq_true rfl⟩ (fun v66 f67 H locs q68 hW => ?_)
    obtain ⟨⟨x70, rfl, p71⟩, g69⟩ := q68
    have p71 : x70.toInt = (-1 : Int) := p71
    have z72 : WU kp L [] f0 f67 := wu_fm z7 g69 rfl
    have hF := FM.tr hF g69 rfl
    exact e_I E hW rfl ⟨⟨_, rfl, (by first | omega | trivial)⟩, hF, (by have h1 : (1 : Int32).toInt = 1 := rfl; rw [((fm_I g69 rh0 rfl).trans ((fm_I g4 rh0 rfl).trans mk4)), ((fm_I g69 rh0 rfl).trans ((fm_I g4 rh0 rfl).trans mk5)), mk4, mk5]; omega), z72⟩ dX11_image_14
def ms_X11_back_un : List (Nat × Nat) := [(0, 6), (0, 9), (0, 12), (0, 13), (1, 0), (1, 8), (1, 12), (1, 13), (1, 14), (2, 0), (3, 0), (3, 1), (3, 2), (3, 3), (4, 0), (10, 0), (10, 7), (11, 15), (108, 0), (161, 0), (162, 0), (163, 0), (164, 0), (165, 0), (166, 0), (167, 0), (169, 0), (170, 0), (171, 0), (221, 0), (284, 0), (285, 0), (341, 0), (342, 0), (343, 0), (344, 0), (345, 0), (346, 0), (347, 0), (348, 0), (520, 0), (521, 0), (701, 0), (702, 0), (703, 0), (704, 0), (705, 0), (706, 0), (708, 0), (709, 0), (710, 0)]
def po_X11_back_un (kp : Nat → Nat) (L : List Nat) (f0 : Nat → va_E) (h0 : Nat) (u1 : Int32) : Option Value → (Nat → va_E) → Prop := fun v f => (∃ r : Int32, v = some (.int r) ∧ (r.toInt = -1)) ∧ FM kp L ms_X11_back_un f0 f ∧ ((oI (f h0) 4).toInt = (oI (f0 h0) 4).toInt ∧ (oI (f h0) 5).toInt = (oI (f0 h0) 5).toInt) ∧ (WU kp L [] f0 f)
set_option maxHeartbeats 4000000 in
set_option maxRecDepth 100000 in
theorem c_X11_back_un (l : Launch) (G : va_G) (cI cJ cZ cD cR cT : ClassId) (kp : Nat → Nat) (L : List Nat) (f0 : Nat → va_E) (hTH : TH cI cJ cZ cD cR cT kp L f0) (sz : Nat) (h0 : Nat) (u1 : Int32) (rh0 : RK kp L h0 11) (hno : ¬ (0 ≤ u1.toInt ∧ u1.toInt ≤ 1)) : Met l yX11_back (Cond.code yX11_back cX11_back 2 (some .int) :: wTab) ({ frames := 3, cells := 0, slots := 0, locals := 103 }) (va_Pc [.ref h0, .int u1] (PreW G (tys6 cI cJ cZ cD cR cT) (va_pl L f0) sz)) (QT (po_X11_back_un kp L f0 h0 u1) G cI cJ cZ cD cR cT (va_A (va_pl L f0) sz) kp L) 0 0 (va_A (va_pl L f0) sz) := by
  refine metT (by decide) (Nat.le_of_ble_eq_true rfl) hTH ?_
  intro p e s m below meth c A ls E hW hl
  obtain ⟨hx, hb, -, hml, hown, hts, -, -, -⟩ := id E
  have hF : FM kp L ms_X11_back_un f0 f0 := FM.rf
  have hl : lv_has ls 2 [(0, .ref h0), (1, .int u1)] := hl
  obtain ⟨N0, mN0⟩ : ∃ x : Nat, oR (f0 h0) 0 = x := ⟨_, rfl⟩
  have rN0 : RK kp L N0 0 := by rw [← mN0]; exact th_ref hTH rh0 (by decide) (by decide) rfl
  obtain ⟨N2, mN2⟩ : ∃ x : Nat, oR (f0 h0) 2 = x := ⟨_, rfl⟩
  have rN2 : RK kp L N2 0 := by rw [← mN2]; exact th_ref hTH rh0 (by decide) (by decide) rfl
  obtain ⟨N3, mN3⟩ : ∃ x : Nat, oR (f0 h0) 3 = x := ⟨_, rfl⟩
  have rN3 : RK kp L N3 0 := by rw [← mN3]; exact th_ref hTH rh0 (by decide) (by decide) rfl
  obtain ⟨N00, mN00⟩ : ∃ x : Nat, oR (f0 N0) 0 = x := ⟨_, rfl⟩
  have rN00 : RK kp L N00 4 := by rw [← mN00]; exact th_ref hTH rN0 (by decide) (by decide) rfl
  obtain ⟨N05, mN05⟩ : ∃ x : Nat, oR (f0 N0) 5 = x := ⟨_, rfl⟩
  have rN05 : RK kp L N05 3 := by rw [← mN05]; exact th_ref hTH rN0 (by decide) (by decide) rfl
  obtain ⟨N20, mN20⟩ : ∃ x : Nat, oR (f0 N2) 0 = x := ⟨_, rfl⟩
  have rN20 : RK kp L N20 4 := by rw [← mN20]; exact th_ref hTH rN2 (by decide) (by decide) rfl
  obtain ⟨N25, mN25⟩ : ∃ x : Nat, oR (f0 N2) 5 = x := ⟨_, rfl⟩
  have rN25 : RK kp L N25 3 := by rw [← mN25]; exact th_ref hTH rN2 (by decide) (by decide) rfl
  obtain ⟨N30, mN30⟩ : ∃ x : Nat, oR (f0 N3) 0 = x := ⟨_, rfl⟩
  have rN30 : RK kp L N30 4 := by rw [← mN30]; exact th_ref hTH rN3 (by decide) (by decide) rfl
  obtain ⟨N35, mN35⟩ : ∃ x : Nat, oR (f0 N3) 5 = x := ⟨_, rfl⟩
  have rN35 : RK kp L N35 3 := by rw [← mN35]; exact th_ref hTH rN3 (by decide) (by decide) rfl
  obtain ⟨N001, mN001⟩ : ∃ x : Nat, oR (f0 N00) 1 = x := ⟨_, rfl⟩
  have rN001 : RK kp L N001 341 := by rw [← mN001]; exact th_ref hTH rN00 (by decide) (by decide) rfl
  obtain ⟨N003, mN003⟩ : ∃ x : Nat, oR (f0 N00) 3 = x := ⟨_, rfl⟩
  have rN003 : RK kp L N003 343 := by rw [← mN003]; exact th_ref hTH rN00 (by decide) (by decide) rfl
  obtain ⟨N004, mN004⟩ : ∃ x : Nat, oR (f0 N00) 4 = x := ⟨_, rfl⟩
  have rN004 : RK kp L N004 344 := by rw [← mN004]; exact th_ref hTH rN00 (by decide) (by decide) rfl
  obtain ⟨N006, mN006⟩ : ∃ x : Nat, oR (f0 N00) 6 = x := ⟨_, rfl⟩
  have rN006 : RK kp L N006 346 := by rw [← mN006]; exact th_ref hTH rN00 (by decide) (by decide) rfl
  obtain ⟨N054, mN054⟩ : ∃ x : Nat, oR (f0 N05) 4 = x := ⟨_, rfl⟩
  have rN054 : RK kp L N054 284 := by rw [← mN054]; exact th_ref hTH rN05 (by decide) (by decide) rfl
  obtain ⟨N055, mN055⟩ : ∃ x : Nat, oR (f0 N05) 5 = x := ⟨_, rfl⟩
  have rN055 : RK kp L N055 285 := by rw [← mN055]; exact th_ref hTH rN05 (by decide) (by decide) rfl
  obtain ⟨N201, mN201⟩ : ∃ x : Nat, oR (f0 N20) 1 = x := ⟨_, rfl⟩
  have rN201 : RK kp L N201 341 := by rw [← mN201]; exact th_ref hTH rN20 (by decide) (by decide) rfl
  obtain ⟨N203, mN203⟩ : ∃ x : Nat, oR (f0 N20) 3 = x := ⟨_, rfl⟩
  have rN203 : RK kp L N203 343 := by rw [← mN203]; exact th_ref hTH rN20 (by decide) (by decide) rfl
  obtain ⟨N204, mN204⟩ : ∃ x : Nat, oR (f0 N20) 4 = x := ⟨_, rfl⟩
  have rN204 : RK kp L N204 344 := by rw [← mN204]; exact th_ref hTH rN20 (by decide) (by decide) rfl
  obtain ⟨N206, mN206⟩ : ∃ x : Nat, oR (f0 N20) 6 = x := ⟨_, rfl⟩
  have rN206 : RK kp L N206 346 := by rw [← mN206]; exact th_ref hTH rN20 (by decide) (by decide) rfl
  obtain ⟨N254, mN254⟩ : ∃ x : Nat, oR (f0 N25) 4 = x := ⟨_, rfl⟩
  have rN254 : RK kp L N254 284 := by rw [← mN254]; exact th_ref hTH rN25 (by decide) (by decide) rfl
  obtain ⟨N255, mN255⟩ : ∃ x : Nat, oR (f0 N25) 5 = x := ⟨_, rfl⟩
  have rN255 : RK kp L N255 285 := by rw [← mN255]; exact th_ref hTH rN25 (by decide) (by decide) rfl
  obtain ⟨N301, mN301⟩ : ∃ x : Nat, oR (f0 N30) 1 = x := ⟨_, rfl⟩
  have rN301 : RK kp L N301 341 := by rw [← mN301]; exact th_ref hTH rN30 (by decide) (by decide) rfl
  obtain ⟨N303, mN303⟩ : ∃ x : Nat, oR (f0 N30) 3 = x := ⟨_, rfl⟩
  have rN303 : RK kp L N303 343 := by rw [← mN303]; exact th_ref hTH rN30 (by decide) (by decide) rfl
  obtain ⟨N304, mN304⟩ : ∃ x : Nat, oR (f0 N30) 4 = x := ⟨_, rfl⟩
  have rN304 : RK kp L N304 344 := by rw [← mN304]; exact th_ref hTH rN30 (by decide) (by decide) rfl
  obtain ⟨N306, mN306⟩ : ∃ x : Nat, oR (f0 N30) 6 = x := ⟨_, rfl⟩
  have rN306 : RK kp L N306 346 := by rw [← mN306]; exact th_ref hTH rN30 (by decide) (by decide) rfl
  obtain ⟨N354, mN354⟩ : ∃ x : Nat, oR (f0 N35) 4 = x := ⟨_, rfl⟩
  have rN354 : RK kp L N354 284 := by rw [← mN354]; exact th_ref hTH rN35 (by decide) (by decide) rfl
  obtain ⟨N355, mN355⟩ : ∃ x : Nat, oR (f0 N35) 5 = x := ⟨_, rfl⟩
  have rN355 : RK kp L N355 285 := by rw [← mN355]; exact th_ref hTH rN35 (by decide) (by decide) rfl
  obtain ⟨k4, mk4⟩ : ∃ x : Int32, oI (f0 h0) 4 = x := ⟨_, rfl⟩
  have bk4 : (0 : Int) ≤ k4.toInt ∧ k4.toInt ≤ 1 := by rw [← mk4]; exact th_iv hW rh0 (by decide) (by decide) rfl
  obtain ⟨k5, mk5⟩ : ∃ x : Int32, oI (f0 h0) 5 = x := ⟨_, rfl⟩
  have bk5 : (0 : Int) ≤ k5.toInt ∧ k5.toInt ≤ 1 := by rw [← mk5]; exact th_iv hW rh0 (by decide) (by decide) rfl
  refine lv_iload_n hx hb dX11_back_0 rfl (lv_at hl 1 rfl) ?_
  refine lv_iconst (v := 0) hx hb dX11_back_1 (by decide) ?_
  refine lv_iconst (v := 1) hx hb dX11_back_2 (by decide) ?_
  have hW0 := hW.2.2.2
  refine t_callS (As := [.int u1, .int 0, .int 1]) (rest := []) E hW (c_X11_within l G cI cJ cZ cD cR cT kp L f0 hW.2.2.2 _ u1 0 1 (by decide)) wk_X11_within tw_599 rfl ⟨Nat.le_of_ble_eq_true rfl, Nat.le_of_ble_eq_true rfl⟩ ⟨rfl, rfl⟩ hl.1 rfl (Nat.le_of_ble_eq_true rfl) dX11_back_3 ⟨Nat.le_of_ble_eq_true rfl, Nat.le_of_ble_eq_true rfl⟩ (fun v1 f2 H locs q3 hW => ?_)
  obtain ⟨⟨x5, rfl, p6⟩, g4⟩ := q3
  have p6 : (x5.toInt = 1 ∧ (0 : Int) ≤ u1.toInt ∧ u1.toInt ≤ (1 : Int)) ∨ (x5.toInt = 0 ∧ (u1.toInt < (0 : Int) ∨ (1 : Int) < u1.toInt)) := p6
  have z7 : WU kp L [] f0 f2 := wu_fm (wu_rf : WU kp L [] f0 f0) g4 rfl
  have hF := FM.tr hF g4 rfl
  refine q_if_ne (tgt := 15) hx hb dX11_back_6 (by decide) rfl (fun c8 => ?_) (fun c8 => ?_)
  · have q9 : (0 : Int) ≤ u1.toInt ∧ u1.toInt ≤ (1 : Int) := by omega
    clear p6
    refine lv_iload_n hx hb dX11_back_15 rfl (lv_at hl 1 rfl) ?_
    refine q_if_ne (tgt := 29) hx hb dX11_back_16 (by decide) rfl (fun c10 => ?_) (fun c10 => ?_)
    · refine lv_aload_n hx hb dX11_back_29 rfl (lv_at hl 0 rfl) ?_
      refine fg_RX11_353 E hW rh0 dX11_back_30 (fun y11 m12 b13 => ?_)
      obtain rfl : k5 = y11 := (((fm_I g4 rh0 rfl).trans mk5)).symm.trans m12
      refine q_if_ne (tgt := 43) hx hb dX11_back_33 (by decide) rfl (fun c14 => ?_) (fun c14 => ?_)
      · refine lv_aload_n hx hb dX11_back_43 rfl (lv_at hl 0 rfl) ?_
        refine fg_RX11_12 E hW rh0 dX11_back_44 (fun a15 m16 r17 => ?_)
        obtain rfl : N0 = a15 := (((fm_R g4 rh0 rfl).trans mN0)).symm.trans m16
        refine lv_iload_n hx hb dX11_back_47 rfl (lv_at hl 1 rfl) ?_
        refine q_if_ne (tgt := 58) hx hb dX11_back_48 (by decide) rfl (fun c18 => ?_) (fun c18 => ?_)
        · refine lv_aload_n hx hb dX11_back_58 rfl (lv_at hl 0 rfl) ?_
          refine fg_RX11_24 E hW rh0 dX11_back_59 (fun a19 m20 r21 => ?_)
          obtain rfl : N3 = a19 := (((fm_R g4 rh0 rfl).trans mN3)).symm.trans m20
          have hW0 := hW.2.2.2
          refine t_callV (As := [.ref N3]) (rest := []) E hW (c_X0_copyFrom_u l G cI cJ cZ cD cR cT kp L f2 hW.2.2.2 _ N0 N3 rN0 rN3) rN0 (by decide) rfl wk_X0_copyFrom tw_1285 rfl ⟨Nat.le_of_ble_eq_true rfl, Nat.le_of_ble_eq_true rfl⟩ ⟨rfl, rfl⟩ hl.1 rfl (Nat.le_of_ble_eq_true rfl) dX11_back_62 ⟨Nat.le_of_ble_eq_true rfl, Nat.le_of_ble_eq_true rfl⟩ (fun v22 f23 H locs q24 hW => ?_)
          obtain ⟨rfl, g25, h26, h27, h28⟩ := q24
          have hF := FM.tr hF g25 rfl
          have z30 : WU kp L [] f0 f23 := wu_call z7 h28 (by rw [((fm_R g4 rN0 rfl).trans mN00), ((fm_R g4 rN0 rfl).trans mN05), ((fm_R g4 rN00 rfl).trans mN001), ((fm_R g4 rN00 rfl).trans mN003), ((fm_R g4 rN00 rfl).trans mN004), ((fm_R g4 rN00 rfl).trans mN006), ((fm_R g4 rN05 rfl).trans mN054), ((fm_R g4 rN05 rfl).trans mN055)]; intro q h; simp only [List.mem_cons, List.not_mem_nil, or_false] at h ⊢; omega)
          refine lv_aload_n hx hb dX11_back_65 rfl (lv_at hl 0 rfl) ?_
          refine lv_iconst (v := 0) hx hb dX11_back_66 (by decide) ?_
          have hW0 := hW.2.2.2
          refine t_callV (As := [.int 0]) (rest := []) E hW (c_X11_accept_x l G cI cJ cZ cD cR cT kp L f23 hW.2.2.2 _ h0 0 rh0) rh0 (by decide) rfl wk_X11_accept tw_611 rfl ⟨Nat.le_of_ble_eq_true rfl, Nat.le_of_ble_eq_true rfl⟩ ⟨rfl, rfl⟩ hl.1 rfl (Nat.le_of_ble_eq_true rfl) dX11_back_67 ⟨Nat.le_of_ble_eq_true rfl, Nat.le_of_ble_eq_true rfl⟩ (fun v31 f32 H locs q33 hW => ?_)
          obtain ⟨⟨x35, rfl, p36⟩, g34⟩ := q33
          have p36 : x35.toInt = (0 : Int) := p36
          have z37 : WU kp L [] f0 f32 := wu_fm z30 g34 rfl
          have hF := FM.tr hF g34 rfl
          exact e_I E hW rfl ⟨⟨_, rfl, (by first | omega | trivial)⟩, hF, (by have h1 : (1 : Int32).toInt = 1 := rfl; rw [((fm_I g34 rh0 rfl).trans ((fm_I g25 rh0 rfl).trans ((fm_I g4 rh0 rfl).trans mk4))), ((fm_I g34 rh0 rfl).trans ((fm_I g25 rh0 rfl).trans m12)), mk4, mk5]; omega), z37⟩ dX11_back_70
        · exfalso; omega
      · refine lv_aload_n hx hb dX11_back_36 rfl (lv_at hl 0 rfl) ?_
        refine lv_bipush (v := (-2)) hx hb dX11_back_37 (by decide) ?_
        have hW0 := hW.2.2.2
        refine t_callV (As := [.int (-2)]) (rest := []) E hW (c_X11_refuse_x l G cI cJ cZ cD cR cT kp L f2 hW.2.2.2 _ h0 (-2) rh0 (by decide)) rh0 (by decide) rfl wk_X11_refuse tw_603 rfl ⟨Nat.le_of_ble_eq_true rfl, Nat.le_of_ble_eq_true rfl⟩ ⟨rfl, rfl⟩ hl.1 rfl (Nat.le_of_ble_eq_true rfl) dX11_back_39 ⟨Nat.le_of_ble_eq_true rfl, Nat.le_of_ble_eq_true rfl⟩ (fun v38 f39 H locs q40 hW => ?_)
        obtain ⟨⟨x42, rfl, p43⟩, g41⟩ := q40
        have p43 : x42.toInt = (-2 : Int) := p43
        have z44 : WU kp L [] f0 f39 := wu_fm z7 g41 rfl
        have hF := FM.tr hF g41 rfl
        exact e_I E hW rfl ⟨⟨_, rfl, (by first | omega | trivial)⟩, hF, (by have h1 : (1 : Int32).toInt = 1 := rfl; rw [((fm_I g41 rh0 rfl).trans ((fm_I g4 rh0 rfl).trans mk4)), ((fm_I g41 rh0 rfl).trans m12), mk4, mk5]; omega), z44⟩ dX11_back_42
    · refine lv_aload_n hx hb dX11_back_19 rfl (lv_at hl 0 rfl) ?_
      refine fg_RX11_349 E hW rh0 dX11_back_20 (fun y45 m46 b47 => ?_)
      obtain rfl : k4 = y45 := (((fm_I g4 rh0 rfl).trans mk4)).symm.trans m46
      refine q_if_ne (tgt := 43) hx hb dX11_back_23 (by decide) rfl (fun c48 => ?_) (fun c48 => ?_)
      · refine lv_aload_n hx hb dX11_back_43 rfl (lv_at hl 0 rfl) ?_
        refine fg_RX11_12 E hW rh0 dX11_back_44 (fun a49 m50 r51 => ?_)
        obtain rfl : N0 = a49 := (((fm_R g4 rh0 rfl).trans mN0)).symm.trans m50
        refine lv_iload_n hx hb dX11_back_47 rfl (lv_at hl 1 rfl) ?_
        refine q_if_ne (tgt := 58) hx hb dX11_back_48 (by decide) rfl (fun c52 => ?_) (fun c52 => ?_)
        · exfalso; omega
        · refine lv_aload_n hx hb dX11_back_51 rfl (lv_at hl 0 rfl) ?_
          refine fg_RX11_21 E hW rh0 dX11_back_52 (fun a53 m54 r55 => ?_)
          obtain rfl : N2 = a53 := (((fm_R g4 rh0 rfl).trans mN2)).symm.trans m54
          refine lv_goto (tgt := 62) hx hb dX11_back_55 (by decide) ?_
          have hW0 := hW.2.2.2
          refine t_callV (As := [.ref N2]) (rest := []) E hW (c_X0_copyFrom_u l G cI cJ cZ cD cR cT kp L f2 hW.2.2.2 _ N0 N2 rN0 rN2) rN0 (by decide) rfl wk_X0_copyFrom tw_1285 rfl ⟨Nat.le_of_ble_eq_true rfl, Nat.le_of_ble_eq_true rfl⟩ ⟨rfl, rfl⟩ hl.1 rfl (Nat.le_of_ble_eq_true rfl) dX11_back_62 ⟨Nat.le_of_ble_eq_true rfl, Nat.le_of_ble_eq_true rfl⟩ (fun v56 f57 H locs q58 hW => ?_)
          obtain ⟨rfl, g59, h60, h61, h62⟩ := q58
          have hF := FM.tr hF g59 rfl
          have z64 : WU kp L [] f0 f57 := wu_call z7 h62 (by rw [((fm_R g4 rN0 rfl).trans mN00), ((fm_R g4 rN0 rfl).trans mN05), ((fm_R g4 rN00 rfl).trans mN001), ((fm_R g4 rN00 rfl).trans mN003), ((fm_R g4 rN00 rfl).trans mN004), ((fm_R g4 rN00 rfl).trans mN006), ((fm_R g4 rN05 rfl).trans mN054), ((fm_R g4 rN05 rfl).trans mN055)]; intro q h; simp only [List.mem_cons, List.not_mem_nil, or_false] at h ⊢; omega)
          refine lv_aload_n hx hb dX11_back_65 rfl (lv_at hl 0 rfl) ?_
          refine lv_iconst (v := 0) hx hb dX11_back_66 (by decide) ?_
          have hW0 := hW.2.2.2
          refine t_callV (As := [.int 0]) (rest := []) E hW (c_X11_accept_x l G cI cJ cZ cD cR cT kp L f57 hW.2.2.2 _ h0 0 rh0) rh0 (by decide) rfl wk_X11_accept tw_611 rfl ⟨Nat.le_of_ble_eq_true rfl, Nat.le_of_ble_eq_true rfl⟩ ⟨rfl, rfl⟩ hl.1 rfl (Nat.le_of_ble_eq_true rfl) dX11_back_67 ⟨Nat.le_of_ble_eq_true rfl, Nat.le_of_ble_eq_true rfl⟩ (fun v65 f66 H locs q67 hW => ?_)
          obtain ⟨⟨x69, rfl, p70⟩, g68⟩ := q67
          have p70 : x69.toInt = (0 : Int) := p70
          have z71 : WU kp L [] f0 f66 := wu_fm z64 g68 rfl
          have hF := FM.tr hF g68 rfl
          exact e_I E hW rfl ⟨⟨_, rfl, (by first | omega | trivial)⟩, hF, (by have h1 : (1 : Int32).toInt = 1 := rfl; rw [((fm_I g68 rh0 rfl).trans ((fm_I g59 rh0 rfl).trans m46)), ((fm_I g68 rh0 rfl).trans ((fm_I g59 rh0 rfl).trans ((fm_I g4 rh0 rfl).trans mk5))), mk4, mk5]; omega), z71⟩ dX11_back_70
      · refine lv_goto (tgt := 36) hx hb dX11_back_26 (by decide) ?_
        refine lv_aload_n hx hb dX11_back_36 rfl (lv_at hl 0 rfl) ?_
        refine lv_bipush (v := (-2)) hx hb dX11_back_37 (by decide) ?_
        have hW0 := hW.2.2.2
        refine t_callV (As := [.int (-2)]) (rest := []) E hW (c_X11_refuse_x l G cI cJ cZ cD cR cT kp L f2 hW.2.2.2 _ h0 (-2) rh0 (by decide)) rh0 (by decide) rfl wk_X11_refuse tw_603 rfl ⟨Nat.le_of_ble_eq_true rfl, Nat.le_of_ble_eq_true rfl⟩ ⟨rfl, rfl⟩ hl.1 rfl (Nat.le_of_ble_eq_true rfl) dX11_back_39 ⟨Nat.le_of_ble_eq_true rfl, Nat.le_of_ble_eq_true rfl⟩ (fun v72 f73 H locs q74 hW => ?_)
        obtain ⟨⟨x76, rfl, p77⟩, g75⟩ := q74
        have p77 : x76.toInt = (-2 : Int) := p77
        have z78 : WU kp L [] f0 f73 := wu_fm z7 g75 rfl
        have hF := FM.tr hF g75 rfl
        exact e_I E hW rfl ⟨⟨_, rfl, (by first | omega | trivial)⟩, hF, (by have h1 : (1 : Int32).toInt = 1 := rfl; rw [((fm_I g75 rh0 rfl).trans m46), ((fm_I g75 rh0 rfl).trans ((fm_I g4 rh0 rfl).trans mk5)), mk4, mk5]; omega), z78⟩ dX11_back_42
  · have q79 : (u1.toInt < (0 : Int) ∨ (1 : Int) < u1.toInt) := by omega
    clear p6
    refine lv_aload_n hx hb dX11_back_9 rfl (lv_at hl 0 rfl) ?_
    refine lv_iconst (v := (-1)) hx hb dX11_back_10 (by decide) ?_
    have hW0 := hW.2.2.2
    refine t_callV (As := [.int (-1)]) (rest := []) E hW (c_X11_refuse_x l G cI cJ cZ cD cR cT kp L f2 hW.2.2.2 _ h0 (-1) rh0 (by decide)) rh0 (by decide) rfl wk_X11_refuse tw_603 rfl ⟨Nat.le_of_ble_eq_true rfl, Nat.le_of_ble_eq_true rfl⟩ ⟨rfl, rfl⟩ hl.1 rfl (Nat.le_of_ble_eq_true rfl) dX11_back_11 ⟨Nat.le_of_ble_eq_true rfl, Nat.le_of_ble_eq_true rfl⟩ (fun v80 f81 H locs q82 hW => ?_)
    obtain ⟨⟨x84, rfl, p85⟩, g83⟩ := q82
    have p85 : x84.toInt = (-1 : Int) := p85
    have z86 : WU kp L [] f0 f81 := wu_fm z7 g83 rfl
    have hF := FM.tr hF g83 rfl
    exact e_I E hW rfl ⟨⟨_, rfl, (by first | omega | trivial)⟩, hF, (by have h1 : (1 : Int32).toInt = 1 := rfl; rw [((fm_I g83 rh0 rfl).trans ((fm_I g4 rh0 rfl).trans mk4)), ((fm_I g83 rh0 rfl).trans ((fm_I g4 rh0 rfl).trans mk5)), mk4, mk5]; omega), z86⟩ dX11_back_14
def ms_X11_gotOnPaper_ut : List (Nat × Nat) := [(0, 6), (0, 9), (0, 12), (0, 13), (0, 14), (1, 0), (1, 8), (1, 12), (1, 13), (1, 14), (2, 0), (3, 0), (3, 1), (3, 2), (3, 3), (4, 0), (10, 0), (10, 7), (108, 0), (115, 0), (161, 0), (162, 0), (163, 0), (164, 0), (165, 0), (166, 0), (167, 0), (169, 0), (170, 0), (171, 0), (221, 0), (222, 0), (223, 0), (284, 0), (285, 0), (341, 0), (342, 0), (343, 0), (344, 0), (345, 0), (346, 0), (347, 0), (348, 0), (349, 0), (520, 0), (521, 0), (701, 0), (702, 0), (703, 0), (704, 0), (705, 0), (706, 0), (708, 0), (709, 0), (710, 0)]
def po_X11_gotOnPaper_ut (kp : Nat → Nat) (L : List Nat) (f0 : Nat → va_E) (h0 : Nat) (u1 : Int32) (u2 : Nat) : Option Value → (Nat → va_E) → Prop := fun v f => (∃ r : Int64, v = some (.long r) ∧ (True)) ∧ FM kp L ms_X11_gotOnPaper_ut f0 f ∧ (WU kp L [(oR (f0 (oR (f0 h0) 1)) 0), (oR (f0 (oR (f0 (oR (f0 h0) 1)) 0)) 1), (oR (f0 (oR (f0 (oR (f0 h0) 1)) 0)) 3), (oR (f0 (oR (f0 (oR (f0 h0) 1)) 0)) 4), (oR (f0 (oR (f0 (oR (f0 h0) 1)) 0)) 6), (oR (f0 (oR (f0 h0) 1)) 5), (oR (f0 (oR (f0 (oR (f0 h0) 1)) 5)) 4), (oR (f0 (oR (f0 (oR (f0 h0) 1)) 5)) 5)] f0 f)
set_option maxHeartbeats 4000000 in
set_option maxRecDepth 100000 in
theorem c_X11_gotOnPaper_ut (l : Launch) (G : va_G) (cI cJ cZ cD cR cT : ClassId) (kp : Nat → Nat) (L : List Nat) (f0 : Nat → va_E) (hTH : TH cI cJ cZ cD cR cT kp L f0) (sz : Nat) (h0 : Nat) (u1 : Int32) (u2 : Nat) (rh0 : RK kp L h0 11) (ru2 : RK kp L u2 9) : Met l yX11_gotOnPaper (Cond.code yX11_gotOnPaper cX11_gotOnPaper 4 (some .long) :: wTab) ({ frames := 7, cells := 0, slots := 0, locals := 191 }) (va_Pc [.ref h0, .int u1, .ref u2] (PreW G (tys6 cI cJ cZ cD cR cT) (va_pl L f0) sz)) (QT (po_X11_gotOnPaper_ut kp L f0 h0 u1 u2) G cI cJ cZ cD cR cT (va_A (va_pl L f0) sz) kp L) 0 0 (va_A (va_pl L f0) sz) := by
  refine metT (by decide) (Nat.le_of_ble_eq_true rfl) hTH ?_
  intro p e s m below meth c A ls E hW hl
  obtain ⟨hx, hb, -, hml, hown, hts, -, -, -⟩ := id E
  have hF : FM kp L ms_X11_gotOnPaper_ut f0 f0 := FM.rf
  have hl : lv_has ls 4 [(0, .ref h0), (1, .int u1), (2, .ref u2)] := hl
  obtain ⟨N1, mN1⟩ : ∃ x : Nat, oR (f0 h0) 1 = x := ⟨_, rfl⟩
  have rN1 : RK kp L N1 0 := by rw [← mN1]; exact th_ref hTH rh0 (by decide) (by decide) rfl
  obtain ⟨N10, mN10⟩ : ∃ x : Nat, oR (f0 N1) 0 = x := ⟨_, rfl⟩
  have rN10 : RK kp L N10 4 := by rw [← mN10]; exact th_ref hTH rN1 (by decide) (by decide) rfl
  obtain ⟨N15, mN15⟩ : ∃ x : Nat, oR (f0 N1) 5 = x := ⟨_, rfl⟩
  have rN15 : RK kp L N15 3 := by rw [← mN15]; exact th_ref hTH rN1 (by decide) (by decide) rfl
  obtain ⟨N101, mN101⟩ : ∃ x : Nat, oR (f0 N10) 1 = x := ⟨_, rfl⟩
  have rN101 : RK kp L N101 341 := by rw [← mN101]; exact th_ref hTH rN10 (by decide) (by decide) rfl
  obtain ⟨N103, mN103⟩ : ∃ x : Nat, oR (f0 N10) 3 = x := ⟨_, rfl⟩
  have rN103 : RK kp L N103 343 := by rw [← mN103]; exact th_ref hTH rN10 (by decide) (by decide) rfl
  obtain ⟨N104, mN104⟩ : ∃ x : Nat, oR (f0 N10) 4 = x := ⟨_, rfl⟩
  have rN104 : RK kp L N104 344 := by rw [← mN104]; exact th_ref hTH rN10 (by decide) (by decide) rfl
  obtain ⟨N106, mN106⟩ : ∃ x : Nat, oR (f0 N10) 6 = x := ⟨_, rfl⟩
  have rN106 : RK kp L N106 346 := by rw [← mN106]; exact th_ref hTH rN10 (by decide) (by decide) rfl
  obtain ⟨N154, mN154⟩ : ∃ x : Nat, oR (f0 N15) 4 = x := ⟨_, rfl⟩
  have rN154 : RK kp L N154 284 := by rw [← mN154]; exact th_ref hTH rN15 (by decide) (by decide) rfl
  obtain ⟨N155, mN155⟩ : ∃ x : Nat, oR (f0 N15) 5 = x := ⟨_, rfl⟩
  have rN155 : RK kp L N155 285 := by rw [← mN155]; exact th_ref hTH rN15 (by decide) (by decide) rfl
  refine lv_aload_n hx hb dX11_gotOnPaper_0 rfl (lv_at hl 0 rfl) ?_
  refine fg_RX11_18 E hW rh0 dX11_gotOnPaper_1 (fun a1 m2 r3 => ?_)
  obtain rfl : N1 = a1 := (mN1).symm.trans m2
  refine lv_aload_n hx hb dX11_gotOnPaper_4 rfl (lv_at hl 0 rfl) ?_
  refine fg_RX11_12 E hW rh0 dX11_gotOnPaper_5 (fun a4 m5 r6 => ?_)
  have hW0 := hW.2.2.2
  refine t_callV (As := [.ref a4]) (rest := []) E hW (c_X0_copyFrom_u l G cI cJ cZ cD cR cT kp L f0 hW.2.2.2 _ N1 a4 rN1 r6) rN1 (by decide) rfl wk_X0_copyFrom tw_1285 rfl ⟨Nat.le_of_ble_eq_true rfl, Nat.le_of_ble_eq_true rfl⟩ ⟨rfl, rfl⟩ hl.1 rfl (Nat.le_of_ble_eq_true rfl) dX11_gotOnPaper_8 ⟨Nat.le_of_ble_eq_true rfl, Nat.le_of_ble_eq_true rfl⟩ (fun v7 f8 H locs q9 hW => ?_)
  obtain ⟨rfl, g10, h11, h12, h13⟩ := q9
  have hF := FM.tr hF g10 rfl
  have z15 : WU kp L [N10, N101, N103, N104, N106, N15, N154, N155] f0 f8 := wu_call (wu_rf : WU kp L [N10, N101, N103, N104, N106, N15, N154, N155] f0 f0) h13 (by rw [mN10, mN15, mN101, mN103, mN104, mN106, mN154, mN155]; intro q h; simp only [List.mem_cons, List.not_mem_nil, or_false] at h ⊢; omega)
  refine lv_aload_n hx hb dX11_gotOnPaper_11 rfl (lv_at hl 2 rfl) ?_
  refine lv_ifnull hx hb dX11_gotOnPaper_12 ?_
  refine lv_aload_n hx hb dX11_gotOnPaper_15 rfl (lv_at hl 0 rfl) ?_
  refine fg_RX11_18 E hW rh0 dX11_gotOnPaper_16 (fun a16 m17 r18 => ?_)
  obtain rfl : N1 = a16 := (((fm_R g10 rh0 rfl).trans m2)).symm.trans m17
  refine fg_RX11_219 E hW rN1 dX11_gotOnPaper_19 (fun a19 m20 r21 => ?_)
  refine lv_aload_n hx hb dX11_gotOnPaper_22 rfl (lv_at hl 2 rfl) ?_
  have hW0 := hW.2.2.2
  refine t_callV (As := [.ref u2]) (rest := []) E hW (c_X2_add l G cI cJ cZ cD cR cT kp L f8 hW.2.2.2 _ a19 u2 r21 ru2) r21 (by decide) rfl wk_X2_add tw_1050 rfl ⟨Nat.le_of_ble_eq_true rfl, Nat.le_of_ble_eq_true rfl⟩ ⟨rfl, rfl⟩ hl.1 rfl (Nat.le_of_ble_eq_true rfl) dX11_gotOnPaper_23 ⟨Nat.le_of_ble_eq_true rfl, Nat.le_of_ble_eq_true rfl⟩ (fun v22 f23 H locs q24 hW => ?_)
  obtain ⟨⟨x26, rfl, p27⟩, g25⟩ := q24
  have z28 : WU kp L [N10, N101, N103, N104, N106, N15, N154, N155] f0 f23 := wu_fm z15 g25 rfl
  have hF := FM.tr hF g25 rfl
  refine lv_pop hx hb dX11_gotOnPaper_26 rfl ?_
  refine lv_iconst (v := 0) hx hb dX11_gotOnPaper_27 (by decide) ?_
  refine lv_istore_n (lv' := [(3, .int 0), (0, .ref h0), (1, .int u1), (2, .ref u2)]) hx hb dX11_gotOnPaper_28 rfl hl (by decide) rfl (fun ls hl => ?_)
  have L1781 : ∀ (n : Nat), ∀ (f1766 : Nat → va_E) (y1778 : Int32) (m1767 : oR (f1766 N1) 0 = N10) (m1768 : oR (f1766 N1) 4 = a19) (m1769 : oR (f1766 N1) 5 = N15) (m1770 : oR (f1766 N10) 1 = N101) (m1771 : oR (f1766 N10) 3 = N103) (m1772 : oR (f1766 N10) 4 = N104) (m1773 : oR (f1766 N10) 6 = N106) (m1774 : oR (f1766 N15) 4 = N154) (m1775 : oR (f1766 N15) 5 = N155) (m1776 : oR (f1766 h0) 0 = a4) (m1777 : oR (f1766 h0) 1 = N1) (b1779 : (0 : Int) ≤ y1778.toInt) (z1780 : WU kp L [N10, N101, N103, N104, N106, N15, N154, N155] f0 f1766) (hm : (2147483648 : Int) - y1778.toInt ≤ n) (H : Heap) (locs : List Loc) (ls : Array Slot), WS G cI cJ cZ cD cR cT A kp L f1766 s H locs → FM kp L ms_X11_gotOnPaper_ut f0 f1766 → lv_has ls 4 [(3, .int y1778), (0, .ref h0), (1, .int u1), (2, .ref u2)] → W p l e ({ frames := 7, cells := 0, slots := 0, locals := 191 }) s m ([.ref h0, .int u1, .ref u2] : List Value).toArray below meth c H locs 0 0 (MQ below (QT (po_X11_gotOnPaper_ut kp L f0 h0 u1 u2) G cI cJ cZ cD cR cT A kp L) ([.ref h0, .int u1, .ref u2] : List Value).toArray s 0 0 A) (F0 m 29 ls []) := by
    intro n
    induction n with
    | zero =>
      intro f1766 y1778 m1767 m1768 m1769 m1770 m1771 m1772 m1773 m1774 m1775 m1776 m1777 b1779 z1780 hm H locs ls hW hF hl
      have hz := i32_b y1778
      exfalso; omega
    | succ n ih =>
      intro f1766 y1778 m1767 m1768 m1769 m1770 m1771 m1772 m1773 m1774 m1775 m1776 m1777 b1779 z1780 hm H locs ls hW hF hl
      clear p27
      have ih29 := ih
      refine lv_iload_n hx hb dX11_gotOnPaper_29 rfl (lv_at hl 0 rfl) ?_
      refine lv_iload_n hx hb dX11_gotOnPaper_30 rfl (lv_at hl 2 rfl) ?_
      refine q_icmp_ge (tgt := 47) hx hb dX11_gotOnPaper_31 (by decide) rfl rfl (fun c1782 => ?_) (fun c1782 => ?_)
      · refine lv_aload_n hx hb dX11_gotOnPaper_47 rfl (lv_at hl 1 rfl) ?_
        refine fg_RX11_18 E hW rh0 dX11_gotOnPaper_48 (fun a1783 m1784 r1785 => ?_)
        obtain rfl : N1 = a1783 := (m1777).symm.trans m1784
        refine fg_RX11_395 E hW rN1 dX11_gotOnPaper_51 (fun y1786 m1787 => ?_)
        exact e_J E hW rfl ⟨⟨_, rfl, trivial⟩, hF, (by rw [mN1, mN10, mN15, mN101, mN103, mN104, mN106, mN154, mN155]; exact z1780)⟩ dX11_gotOnPaper_54
      · have hb1788 : y1778.toInt ≤ 2147483646 := by have := i32_b u1; omega
        refine lv_aload_n hx hb dX11_gotOnPaper_34 rfl (lv_at hl 1 rfl) ?_
        refine fg_RX11_18 E hW rh0 dX11_gotOnPaper_35 (fun a1789 m1790 r1791 => ?_)
        obtain rfl : N1 = a1789 := (m1777).symm.trans m1790
        have hW0 := hW.2.2.2
        refine t_callV (As := []) (rest := []) E hW (c_X0_passWeek_u l G cI cJ cZ cD cR cT kp L f1766 hW.2.2.2 _ N1 rN1) rN1 (by decide) rfl wk_X0_passWeek tw_1114 rfl ⟨Nat.le_of_ble_eq_true rfl, Nat.le_of_ble_eq_true rfl⟩ ⟨rfl, rfl⟩ hl.1 rfl (Nat.le_of_ble_eq_true rfl) dX11_gotOnPaper_38 ⟨Nat.le_of_ble_eq_true rfl, Nat.le_of_ble_eq_true rfl⟩ (fun v1792 f1793 H locs q1794 hW => ?_)
        obtain ⟨rfl, g1795, h1796⟩ := q1794
        have hF := FM.tr hF g1795 rfl
        have z1798 : WU kp L [N10, N101, N103, N104, N106, N15, N154, N155] f0 f1793 := wu_call z1780 h1796 (fun q h => absurd h List.not_mem_nil)
        refine q_iinc hx hb dX11_gotOnPaper_41 hl (k := 0) rfl rfl rfl (by omega) (by decide) (fun i1799 ls h1800 hl => ?_)
        have hl : lv_has ls 4 [(3, .int i1799), (0, .ref h0), (1, .int u1), (2, .ref u2)] := hl
        refine lv_goto (tgt := 29) hx hb dX11_gotOnPaper_44 (by decide) ?_
        exact ih29 f1793 i1799 ((fm_R g1795 rN1 rfl).trans m1767) ((fm_R g1795 rN1 rfl).trans m1768) ((fm_R g1795 rN1 rfl).trans m1769) ((fm_R g1795 rN10 rfl).trans m1770) ((fm_R g1795 rN10 rfl).trans m1771) ((fm_R g1795 rN10 rfl).trans m1772) ((fm_R g1795 rN10 rfl).trans m1773) ((fm_R g1795 rN15 rfl).trans m1774) ((fm_R g1795 rN15 rfl).trans m1775) ((fm_R g1795 rh0 rfl).trans m1776) ((fm_R g1795 rh0 rfl).trans m1790) (by omega) z1798 (by omega) _ _ _ hW hF (lv_sub hl [0, 1, 2, 3] rfl)
  have hk1801 : (0 : Int32).toInt = 0 := rfl
  exact L1781 2147483648 f23 0 ((fm_R g25 rN1 rfl).trans ((fm_R g10 rN1 rfl).trans mN10)) ((fm_R g25 rN1 rfl).trans m20) ((fm_R g25 rN1 rfl).trans ((fm_R g10 rN1 rfl).trans mN15)) ((fm_R g25 rN10 rfl).trans ((fm_R g10 rN10 rfl).trans mN101)) ((fm_R g25 rN10 rfl).trans ((fm_R g10 rN10 rfl).trans mN103)) ((fm_R g25 rN10 rfl).trans ((fm_R g10 rN10 rfl).trans mN104)) ((fm_R g25 rN10 rfl).trans ((fm_R g10 rN10 rfl).trans mN106)) ((fm_R g25 rN15 rfl).trans ((fm_R g10 rN15 rfl).trans mN154)) ((fm_R g25 rN15 rfl).trans ((fm_R g10 rN15 rfl).trans mN155)) ((fm_R g25 rh0 rfl).trans ((fm_R g10 rh0 rfl).trans m5)) ((fm_R g25 rh0 rfl).trans m17) (by decide) z28 (by omega) _ _ _ hW hF (lv_sub hl [0, 1, 2, 3] rfl)
def ms_X11_gotOnPaper_un : List (Nat × Nat) := [(0, 6), (0, 9), (0, 12), (0, 13), (0, 14), (1, 0), (1, 8), (1, 12), (1, 13), (1, 14), (2, 0), (3, 0), (3, 1), (3, 2), (3, 3), (4, 0), (10, 0), (10, 7), (108, 0), (115, 0), (161, 0), (162, 0), (163, 0), (164, 0), (165, 0), (166, 0), (167, 0), (169, 0), (170, 0), (171, 0), (221, 0), (222, 0), (223, 0), (284, 0), (285, 0), (341, 0), (342, 0), (343, 0), (344, 0), (345, 0), (346, 0), (347, 0), (348, 0), (349, 0), (520, 0), (521, 0), (701, 0), (702, 0), (703, 0), (704, 0), (705, 0), (706, 0), (708, 0), (709, 0), (710, 0)]
def po_X11_gotOnPaper_un (kp : Nat → Nat) (L : List Nat) (f0 : Nat → va_E) (h0 : Nat) (u1 : Int32) : Option Value → (Nat → va_E) → Prop := fun v f => (∃ r : Int64, v = some (.long r) ∧ (True)) ∧ FM kp L ms_X11_gotOnPaper_un f0 f ∧ (WU kp L [(oR (f0 (oR (f0 h0) 1)) 0), (oR (f0 (oR (f0 (oR (f0 h0) 1)) 0)) 1), (oR (f0 (oR (f0 (oR (f0 h0) 1)) 0)) 3), (oR (f0 (oR (f0 (oR (f0 h0) 1)) 0)) 4), (oR (f0 (oR (f0 (oR (f0 h0) 1)) 0)) 6), (oR (f0 (oR (f0 h0) 1)) 5), (oR (f0 (oR (f0 (oR (f0 h0) 1)) 5)) 4), (oR (f0 (oR (f0 (oR (f0 h0) 1)) 5)) 5)] f0 f)
set_option maxHeartbeats 4000000 in
set_option maxRecDepth 100000 in
theorem c_X11_gotOnPaper_un (l : Launch) (G : va_G) (cI cJ cZ cD cR cT : ClassId) (kp : Nat → Nat) (L : List Nat) (f0 : Nat → va_E) (hTH : TH cI cJ cZ cD cR cT kp L f0) (sz : Nat) (h0 : Nat) (u1 : Int32) (rh0 : RK kp L h0 11) : Met l yX11_gotOnPaper (Cond.code yX11_gotOnPaper cX11_gotOnPaper 4 (some .long) :: wTab) ({ frames := 7, cells := 0, slots := 0, locals := 191 }) (va_Pc [.ref h0, .int u1, .null] (PreW G (tys6 cI cJ cZ cD cR cT) (va_pl L f0) sz)) (QT (po_X11_gotOnPaper_un kp L f0 h0 u1) G cI cJ cZ cD cR cT (va_A (va_pl L f0) sz) kp L) 0 0 (va_A (va_pl L f0) sz) := by
  refine metT (by decide) (Nat.le_of_ble_eq_true rfl) hTH ?_
  intro p e s m below meth c A ls E hW hl
  obtain ⟨hx, hb, -, hml, hown, hts, -, -, -⟩ := id E
  have hF : FM kp L ms_X11_gotOnPaper_un f0 f0 := FM.rf
  have hl : lv_has ls 4 [(0, .ref h0), (1, .int u1), (2, .null)] := hl
  obtain ⟨N1, mN1⟩ : ∃ x : Nat, oR (f0 h0) 1 = x := ⟨_, rfl⟩
  have rN1 : RK kp L N1 0 := by rw [← mN1]; exact th_ref hTH rh0 (by decide) (by decide) rfl
  obtain ⟨N10, mN10⟩ : ∃ x : Nat, oR (f0 N1) 0 = x := ⟨_, rfl⟩
  have rN10 : RK kp L N10 4 := by rw [← mN10]; exact th_ref hTH rN1 (by decide) (by decide) rfl
  obtain ⟨N15, mN15⟩ : ∃ x : Nat, oR (f0 N1) 5 = x := ⟨_, rfl⟩
  have rN15 : RK kp L N15 3 := by rw [← mN15]; exact th_ref hTH rN1 (by decide) (by decide) rfl
  obtain ⟨N101, mN101⟩ : ∃ x : Nat, oR (f0 N10) 1 = x := ⟨_, rfl⟩
  have rN101 : RK kp L N101 341 := by rw [← mN101]; exact th_ref hTH rN10 (by decide) (by decide) rfl
  obtain ⟨N103, mN103⟩ : ∃ x : Nat, oR (f0 N10) 3 = x := ⟨_, rfl⟩
  have rN103 : RK kp L N103 343 := by rw [← mN103]; exact th_ref hTH rN10 (by decide) (by decide) rfl
  obtain ⟨N104, mN104⟩ : ∃ x : Nat, oR (f0 N10) 4 = x := ⟨_, rfl⟩
  have rN104 : RK kp L N104 344 := by rw [← mN104]; exact th_ref hTH rN10 (by decide) (by decide) rfl
  obtain ⟨N106, mN106⟩ : ∃ x : Nat, oR (f0 N10) 6 = x := ⟨_, rfl⟩
  have rN106 : RK kp L N106 346 := by rw [← mN106]; exact th_ref hTH rN10 (by decide) (by decide) rfl
  obtain ⟨N154, mN154⟩ : ∃ x : Nat, oR (f0 N15) 4 = x := ⟨_, rfl⟩
  have rN154 : RK kp L N154 284 := by rw [← mN154]; exact th_ref hTH rN15 (by decide) (by decide) rfl
  obtain ⟨N155, mN155⟩ : ∃ x : Nat, oR (f0 N15) 5 = x := ⟨_, rfl⟩
  have rN155 : RK kp L N155 285 := by rw [← mN155]; exact th_ref hTH rN15 (by decide) (by decide) rfl
  refine lv_aload_n hx hb dX11_gotOnPaper_0 rfl (lv_at hl 0 rfl) ?_
  refine fg_RX11_18 E hW rh0 dX11_gotOnPaper_1 (fun a1 m2 r3 => ?_)
  obtain rfl : N1 = a1 := (mN1).symm.trans m2
  refine lv_aload_n hx hb dX11_gotOnPaper_4 rfl (lv_at hl 0 rfl) ?_
  refine fg_RX11_12 E hW rh0 dX11_gotOnPaper_5 (fun a4 m5 r6 => ?_)
  have hW0 := hW.2.2.2
  refine t_callV (As := [.ref a4]) (rest := []) E hW (c_X0_copyFrom_u l G cI cJ cZ cD cR cT kp L f0 hW.2.2.2 _ N1 a4 rN1 r6) rN1 (by decide) rfl wk_X0_copyFrom tw_1285 rfl ⟨Nat.le_of_ble_eq_true rfl, Nat.le_of_ble_eq_true rfl⟩ ⟨rfl, rfl⟩ hl.1 rfl (Nat.le_of_ble_eq_true rfl) dX11_gotOnPaper_8 ⟨Nat.le_of_ble_eq_true rfl, Nat.le_of_ble_eq_true rfl⟩ (fun v7 f8 H locs q9 hW => ?_)
  obtain ⟨rfl, g10, h11, h12, h13⟩ := q9
  have hF := FM.tr hF g10 rfl
  have z15 : WU kp L [N10, N101, N103, N104, N106, N15, N154, N155] f0 f8 := wu_call (wu_rf : WU kp L [N10, N101, N103, N104, N106, N15, N154, N155] f0 f0) h13 (by rw [mN10, mN15, mN101, mN103, mN104, mN106, mN154, mN155]; intro q h; simp only [List.mem_cons, List.not_mem_nil, or_false] at h ⊢; omega)
  refine lv_aload_nN hx hb dX11_gotOnPaper_11 rfl (lv_at hl 2 rfl) ?_
  refine lv_ifnullN (tgt := 27) hx hb dX11_gotOnPaper_12 (by decide) ?_
  refine lv_iconst (v := 0) hx hb dX11_gotOnPaper_27 (by decide) ?_
  refine lv_istore_n (lv' := [(3, .int 0), (0, .ref h0), (1, .int u1), (2, .null)]) hx hb dX11_gotOnPaper_28 rfl hl (by decide) rfl (fun ls hl => ?_)
  have L1705 : ∀ (n : Nat), ∀ (f1691 : Nat → va_E) (y1702 : Int32) (m1692 : oR (f1691 N1) 0 = N10) (m1693 : oR (f1691 N1) 5 = N15) (m1694 : oR (f1691 N10) 1 = N101) (m1695 : oR (f1691 N10) 3 = N103) (m1696 : oR (f1691 N10) 4 = N104) (m1697 : oR (f1691 N10) 6 = N106) (m1698 : oR (f1691 N15) 4 = N154) (m1699 : oR (f1691 N15) 5 = N155) (m1700 : oR (f1691 h0) 0 = a4) (m1701 : oR (f1691 h0) 1 = N1) (b1703 : (0 : Int) ≤ y1702.toInt) (z1704 : WU kp L [N10, N101, N103, N104, N106, N15, N154, N155] f0 f1691) (hm : (2147483648 : Int) - y1702.toInt ≤ n) (H : Heap) (locs : List Loc) (ls : Array Slot), WS G cI cJ cZ cD cR cT A kp L f1691 s H locs → FM kp L ms_X11_gotOnPaper_un f0 f1691 → lv_has ls 4 [(3, .int y1702), (0, .ref h0), (1, .int u1), (2, .null)] → W p l e ({ frames := 7, cells := 0, slots := 0, locals := 191 }) s m ([.ref h0, .int u1, .null] : List Value).toArray below meth c H locs 0 0 (MQ below (QT (po_X11_gotOnPaper_un kp L f0 h0 u1) G cI cJ cZ cD cR cT A kp L) ([.ref h0, .int u1, .null] : List Value).toArray s 0 0 A) (F0 m 29 ls []) := by
    intro n
    induction n with
    | zero =>
      intro f1691 y1702 m1692 m1693 m1694 m1695 m1696 m1697 m1698 m1699 m1700 m1701 b1703 z1704 hm H locs ls hW hF hl
      have hz := i32_b y1702
      exfalso; omega
    | succ n ih =>
      intro f1691 y1702 m1692 m1693 m1694 m1695 m1696 m1697 m1698 m1699 m1700 m1701 b1703 z1704 hm H locs ls hW hF hl
      have ih29 := ih
      refine lv_iload_n hx hb dX11_gotOnPaper_29 rfl (lv_at hl 0 rfl) ?_
      refine lv_iload_n hx hb dX11_gotOnPaper_30 rfl (lv_at hl 2 rfl) ?_
      refine q_icmp_ge (tgt := 47) hx hb dX11_gotOnPaper_31 (by decide) rfl rfl (fun c1706 => ?_) (fun c1706 => ?_)
      · refine lv_aload_n hx hb dX11_gotOnPaper_47 rfl (lv_at hl 1 rfl) ?_
        refine fg_RX11_18 E hW rh0 dX11_gotOnPaper_48 (fun a1707 m1708 r1709 => ?_)
        obtain rfl : N1 = a1707 := (m1701).symm.trans m1708
        refine fg_RX11_395 E hW rN1 dX11_gotOnPaper_51 (fun y1710 m1711 => ?_)
        exact e_J E hW rfl ⟨⟨_, rfl, trivial⟩, hF, (by rw [mN1, mN10, mN15, mN101, mN103, mN104, mN106, mN154, mN155]; exact z1704)⟩ dX11_gotOnPaper_54
      · have hb1712 : y1702.toInt ≤ 2147483646 := by have := i32_b u1; omega
        refine lv_aload_n hx hb dX11_gotOnPaper_34 rfl (lv_at hl 1 rfl) ?_
        refine fg_RX11_18 E hW rh0 dX11_gotOnPaper_35 (fun a1713 m1714 r1715 => ?_)
        obtain rfl : N1 = a1713 := (m1701).symm.trans m1714
        have hW0 := hW.2.2.2
        refine t_callV (As := []) (rest := []) E hW (c_X0_passWeek_u l G cI cJ cZ cD cR cT kp L f1691 hW.2.2.2 _ N1 rN1) rN1 (by decide) rfl wk_X0_passWeek tw_1114 rfl ⟨Nat.le_of_ble_eq_true rfl, Nat.le_of_ble_eq_true rfl⟩ ⟨rfl, rfl⟩ hl.1 rfl (Nat.le_of_ble_eq_true rfl) dX11_gotOnPaper_38 ⟨Nat.le_of_ble_eq_true rfl, Nat.le_of_ble_eq_true rfl⟩ (fun v1716 f1717 H locs q1718 hW => ?_)
        obtain ⟨rfl, g1719, h1720⟩ := q1718
        have hF := FM.tr hF g1719 rfl
        have z1722 : WU kp L [N10, N101, N103, N104, N106, N15, N154, N155] f0 f1717 := wu_call z1704 h1720 (fun q h => absurd h List.not_mem_nil)
        refine q_iinc hx hb dX11_gotOnPaper_41 hl (k := 0) rfl rfl rfl (by omega) (by decide) (fun i1723 ls h1724 hl => ?_)
        have hl : lv_has ls 4 [(3, .int i1723), (0, .ref h0), (1, .int u1), (2, .null)] := hl
        refine lv_goto (tgt := 29) hx hb dX11_gotOnPaper_44 (by decide) ?_
        exact ih29 f1717 i1723 ((fm_R g1719 rN1 rfl).trans m1692) ((fm_R g1719 rN1 rfl).trans m1693) ((fm_R g1719 rN10 rfl).trans m1694) ((fm_R g1719 rN10 rfl).trans m1695) ((fm_R g1719 rN10 rfl).trans m1696) ((fm_R g1719 rN10 rfl).trans m1697) ((fm_R g1719 rN15 rfl).trans m1698) ((fm_R g1719 rN15 rfl).trans m1699) ((fm_R g1719 rh0 rfl).trans m1700) ((fm_R g1719 rh0 rfl).trans m1714) (by omega) z1722 (by omega) _ _ _ hW hF (lv_sub hl [0, 1, 2, 3] rfl)
  have hk1725 : (0 : Int32).toInt = 0 := rfl
  exact L1705 2147483648 f8 0 ((fm_R g10 rN1 rfl).trans mN10) ((fm_R g10 rN1 rfl).trans mN15) ((fm_R g10 rN10 rfl).trans mN101) ((fm_R g10 rN10 rfl).trans mN103) ((fm_R g10 rN10 rfl).trans mN104) ((fm_R g10 rN10 rfl).trans mN106) ((fm_R g10 rN15 rfl).trans mN154) ((fm_R g10 rN15 rfl).trans mN155) ((fm_R g10 rh0 rfl).trans m5) ((fm_R g10 rh0 rfl).trans m2) (by decide) z15 (by omega) _ _ _ hW hF (lv_sub hl [0, 1, 2, 3] rfl)
def ms_X11_worstOf_u : List (Nat × Nat) := [(0, 6), (0, 9), (0, 10), (0, 11), (0, 12), (0, 13), (0, 14), (1, 0), (1, 8), (1, 12), (1, 13), (1, 14), (2, 0), (3, 0), (3, 1), (3, 2), (3, 3), (4, 0), (10, 0), (10, 7), (108, 0), (115, 0), (161, 0), (162, 0), (163, 0), (164, 0), (165, 0), (166, 0), (167, 0), (169, 0), (170, 0), (171, 0), (221, 0), (222, 0), (223, 0), (284, 0), (285, 0), (341, 0), (342, 0), (343, 0), (344, 0), (345, 0), (346, 0), (347, 0), (348, 0), (349, 0), (520, 0), (521, 0), (701, 0), (702, 0), (703, 0), (704, 0), (705, 0), (706, 0), (708, 0), (709, 0), (710, 0)]
def po_X11_worstOf_u (kp : Nat → Nat) (L : List Nat) (f0 : Nat → va_E) (h0 : Nat) (u1 : Int32) (u2 : Int32) (u3 : Int32) : Option Value → (Nat → va_E) → Prop := fun v f => (∃ r : Int32, v = some (.int r) ∧ ((0 : Int) ≤ r.toInt)) ∧ FM kp L ms_X11_worstOf_u f0 f ∧ (WU kp L [(oR (f0 (oR (f0 h0) 1)) 0), (oR (f0 (oR (f0 (oR (f0 h0) 1)) 0)) 1), (oR (f0 (oR (f0 (oR (f0 h0) 1)) 0)) 3), (oR (f0 (oR (f0 (oR (f0 h0) 1)) 0)) 4), (oR (f0 (oR (f0 (oR (f0 h0) 1)) 0)) 6), (oR (f0 (oR (f0 h0) 1)) 5), (oR (f0 (oR (f0 (oR (f0 h0) 1)) 5)) 4), (oR (f0 (oR (f0 (oR (f0 h0) 1)) 5)) 5)] f0 f)
set_option maxHeartbeats 4000000 in
set_option maxRecDepth 100000 in
theorem c_X11_worstOf_u (l : Launch) (G : va_G) (cI cJ cZ cD cR cT : ClassId) (kp : Nat → Nat) (L : List Nat) (f0 : Nat → va_E) (hTH : TH cI cJ cZ cD cR cT kp L f0) (sz : Nat) (h0 : Nat) (u1 : Int32) (u2 : Int32) (u3 : Int32) (rh0 : RK kp L h0 11) (pu3 : (1 : Int) ≤ u3.toInt ∧ u3.toInt ≤ 41) : Met l yX11_worstOf (Cond.code yX11_worstOf cX11_worstOf 7 (some .int) :: wTab) ({ frames := 7, cells := 0, slots := 0, locals := 191 }) (va_Pc [.ref h0, .int u1, .int u2, .int u3] (PreW G (tys6 cI cJ cZ cD cR cT) (va_pl L f0) sz)) (QT (po_X11_worstOf_u kp L f0 h0 u1 u2 u3) G cI cJ cZ cD cR cT (va_A (va_pl L f0) sz) kp L) 0 0 (va_A (va_pl L f0) sz) := by
  refine metT (by decide) (Nat.le_of_ble_eq_true rfl) hTH ?_
  intro p e s m below meth c A ls E hW hl
  obtain ⟨hx, hb, -, hml, hown, hts, -, -, -⟩ := id E
  have hF : FM kp L ms_X11_worstOf_u f0 f0 := FM.rf
  have hl : lv_has ls 7 [(0, .ref h0), (1, .int u1), (2, .int u2), (3, .int u3)] := hl
  obtain ⟨N1, mN1⟩ : ∃ x : Nat, oR (f0 h0) 1 = x := ⟨_, rfl⟩
  have rN1 : RK kp L N1 0 := by rw [← mN1]; exact th_ref hTH rh0 (by decide) (by decide) rfl
  obtain ⟨N10, mN10⟩ : ∃ x : Nat, oR (f0 N1) 0 = x := ⟨_, rfl⟩
  have rN10 : RK kp L N10 4 := by rw [← mN10]; exact th_ref hTH rN1 (by decide) (by decide) rfl
  obtain ⟨N15, mN15⟩ : ∃ x : Nat, oR (f0 N1) 5 = x := ⟨_, rfl⟩
  have rN15 : RK kp L N15 3 := by rw [← mN15]; exact th_ref hTH rN1 (by decide) (by decide) rfl
  obtain ⟨N101, mN101⟩ : ∃ x : Nat, oR (f0 N10) 1 = x := ⟨_, rfl⟩
  have rN101 : RK kp L N101 341 := by rw [← mN101]; exact th_ref hTH rN10 (by decide) (by decide) rfl
  obtain ⟨N103, mN103⟩ : ∃ x : Nat, oR (f0 N10) 3 = x := ⟨_, rfl⟩
  have rN103 : RK kp L N103 343 := by rw [← mN103]; exact th_ref hTH rN10 (by decide) (by decide) rfl
  obtain ⟨N104, mN104⟩ : ∃ x : Nat, oR (f0 N10) 4 = x := ⟨_, rfl⟩
  have rN104 : RK kp L N104 344 := by rw [← mN104]; exact th_ref hTH rN10 (by decide) (by decide) rfl
  obtain ⟨N106, mN106⟩ : ∃ x : Nat, oR (f0 N10) 6 = x := ⟨_, rfl⟩
  have rN106 : RK kp L N106 346 := by rw [← mN106]; exact th_ref hTH rN10 (by decide) (by decide) rfl
  obtain ⟨N154, mN154⟩ : ∃ x : Nat, oR (f0 N15) 4 = x := ⟨_, rfl⟩
  have rN154 : RK kp L N154 284 := by rw [← mN154]; exact th_ref hTH rN15 (by decide) (by decide) rfl
  obtain ⟨N155, mN155⟩ : ∃ x : Nat, oR (f0 N15) 5 = x := ⟨_, rfl⟩
  have rN155 : RK kp L N155 285 := by rw [← mN155]; exact th_ref hTH rN15 (by decide) (by decide) rfl
  refine lv_iconst (v := 0) hx hb dX11_worstOf_0 (by decide) ?_
  refine lv_istore (lv' := [(4, .int 0), (0, .ref h0), (1, .int u1), (2, .int u2), (3, .int u3)]) hx hb dX11_worstOf_1 hl (by decide) rfl (fun ls hl => ?_)
  refine lv_iconst (v := 0) hx hb dX11_worstOf_3 (by decide) ?_
  refine lv_istore (lv' := [(5, .int 0), (4, .int 0), (0, .ref h0), (1, .int u1), (2, .int u2), (3, .int u3)]) hx hb dX11_worstOf_4 hl (by decide) rfl (fun ls hl => ?_)
  have L11284 : ∀ (n : Nat), ∀ (f11269 : Nat → va_E) (y11279 : Int32) (y11281 : Int32) (m11270 : oR (f11269 N1) 0 = N10) (m11271 : oR (f11269 N1) 5 = N15) (m11272 : oR (f11269 N10) 1 = N101) (m11273 : oR (f11269 N10) 3 = N103) (m11274 : oR (f11269 N10) 4 = N104) (m11275 : oR (f11269 N10) 6 = N106) (m11276 : oR (f11269 N15) 4 = N154) (m11277 : oR (f11269 N15) 5 = N155) (m11278 : oR (f11269 h0) 1 = N1) (b11280 : (0 : Int) ≤ y11279.toInt ∧ y11279.toInt ≤ 3) (b11282 : (0 : Int) ≤ y11281.toInt) (z11283 : WU kp L [N10, N101, N103, N104, N106, N15, N154, N155] f0 f11269) (hm : (4 : Int) - y11279.toInt ≤ n) (H : Heap) (locs : List Loc) (ls : Array Slot), WS G cI cJ cZ cD cR cT A kp L f11269 s H locs → FM kp L ms_X11_worstOf_u f0 f11269 → lv_has ls 7 [(5, .int y11279), (4, .int y11281), (0, .ref h0), (1, .int u1), (2, .int u2), (3, .int u3)] → W p l e ({ frames := 7, cells := 0, slots := 0, locals := 191 }) s m ([.ref h0, .int u1, .int u2, .int u3] : List Value).toArray below meth c H locs 0 0 (MQ below (QT (po_X11_worstOf_u kp L f0 h0 u1 u2 u3) G cI cJ cZ cD cR cT A kp L) ([.ref h0, .int u1, .int u2, .int u3] : List Value).toArray s 0 0 A) (F0 m 6 ls []) := by
    intro n
    induction n with
    | zero =>
      intro f11269 y11279 y11281 m11270 m11271 m11272 m11273 m11274 m11275 m11276 m11277 m11278 b11280 b11282 z11283 hm H locs ls hW hF hl
      have hz := i32_b y11279
      exfalso; omega
    | succ n ih =>
      intro f11269 y11279 y11281 m11270 m11271 m11272 m11273 m11274 m11275 m11276 m11277 m11278 b11280 b11282 z11283 hm H locs ls hW hF hl
      have ih6 := ih
      refine lv_iload hx hb dX11_worstOf_6 (lv_at hl 0 rfl) ?_
      refine lv_aload_n hx hb dX11_worstOf_8 rfl (lv_at hl 2 rfl) ?_
      refine fg_RX11_312 E hW rh0 dX11_worstOf_9 (fun y11285 m11286 b11287 => ?_)
      refine q_icmp_ge (tgt := 145) hx hb dX11_worstOf_12 (by decide) rfl rfl (fun c11288 => ?_) (fun c11288 => ?_)
      · refine lv_iload hx hb dX11_worstOf_145 (lv_at hl 1 rfl) ?_
        exact e_I E hW rfl ⟨⟨_, rfl, (by first | omega | trivial)⟩, hF, (by rw [mN1, mN10, mN15, mN101, mN103, mN104, mN106, mN154, mN155]; exact z11283)⟩ dX11_worstOf_147
      · refine lv_iload hx hb dX11_worstOf_15 (lv_at hl 1 rfl) ?_
        refine lv_iload_n hx hb dX11_worstOf_17 rfl (lv_at hl 5 rfl) ?_
        refine q_icmp_ge (tgt := 145) hx hb dX11_worstOf_18 (by decide) rfl rfl (fun c11289 => ?_) (fun c11289 => ?_)
        · refine lv_iload hx hb dX11_worstOf_145 (lv_at hl 1 rfl) ?_
          exact e_I E hW rfl ⟨⟨_, rfl, (by first | omega | trivial)⟩, hF, (by rw [mN1, mN10, mN15, mN101, mN103, mN104, mN106, mN154, mN155]; exact z11283)⟩ dX11_worstOf_147
        · refine lv_aload_n hx hb dX11_worstOf_21 rfl (lv_at hl 2 rfl) ?_
          refine fg_RX11_18 E hW rh0 dX11_worstOf_22 (fun a11290 m11291 r11292 => ?_)
          obtain rfl : N1 = a11290 := (m11278).symm.trans m11291
          refine lv_aload_n hx hb dX11_worstOf_25 rfl (lv_at hl 2 rfl) ?_
          refine fg_RX11_12 E hW rh0 dX11_worstOf_26 (fun a11293 m11294 r11295 => ?_)
          have hW0 := hW.2.2.2
          refine t_callV (As := [.ref a11293]) (rest := []) E hW (c_X0_copyFrom_u l G cI cJ cZ cD cR cT kp L f11269 hW.2.2.2 _ N1 a11293 rN1 r11295) rN1 (by decide) rfl wk_X0_copyFrom tw_1285 rfl ⟨Nat.le_of_ble_eq_true rfl, Nat.le_of_ble_eq_true rfl⟩ ⟨rfl, rfl⟩ hl.1 rfl (Nat.le_of_ble_eq_true rfl) dX11_worstOf_29 ⟨Nat.le_of_ble_eq_true rfl, Nat.le_of_ble_eq_true rfl⟩ (fun v11296 f11297 H locs q11298 hW => ?_)
          obtain ⟨rfl, g11299, h11300, h11301, h11302⟩ := q11298
          have hF := FM.tr hF g11299 rfl
          have z11304 : WU kp L [N10, N101, N103, N104, N106, N15, N154, N155] f0 f11297 := wu_call z11283 h11302 (by rw [m11270, m11271, m11272, m11273, m11274, m11275, m11276, m11277]; intro q h; simp only [List.mem_cons, List.not_mem_nil, or_false] at h ⊢; omega)
          refine lv_aload_n hx hb dX11_worstOf_32 rfl (lv_at hl 2 rfl) ?_
          refine fg_RX11_18 E hW rh0 dX11_worstOf_33 (fun a11305 m11306 r11307 => ?_)
          obtain rfl : N1 = a11305 := (((fm_R g11299 rh0 rfl).trans m11291)).symm.trans m11306
          refine lv_aload_n hx hb dX11_worstOf_36 rfl (lv_at hl 2 rfl) ?_
          refine fg_RX11_45 E hW rh0 dX11_worstOf_37 (fun a11308 m11309 r11310 => ?_)
          refine lv_iload hx hb dX11_worstOf_40 (lv_at hl 0 rfl) ?_
          refine gl_770 E hW r11310 ⟨by omega, by omega⟩ dX11_worstOf_42 (fun y11311 m11312 => ?_)
          refine lv_aload_n hx hb dX11_worstOf_43 rfl (lv_at hl 2 rfl) ?_
          refine fg_RX11_48 E hW rh0 dX11_worstOf_44 (fun a11314 m11315 r11316 => ?_)
          refine lv_iload hx hb dX11_worstOf_47 (lv_at hl 0 rfl) ?_
          refine gl_771 E hW r11316 ⟨by omega, by omega⟩ dX11_worstOf_49 (fun y11317 m11318 => ?_)
          have hW0 := hW.2.2.2
          refine t_callV (As := [.int y11311, .int y11317]) (rest := []) E hW (c_X0_tellCrops l G cI cJ cZ cD cR cT kp L f11297 hW.2.2.2 _ N1 y11311 y11317 rN1) rN1 (by decide) rfl wk_X0_tellCrops tw_1318 rfl ⟨Nat.le_of_ble_eq_true rfl, Nat.le_of_ble_eq_true rfl⟩ ⟨rfl, rfl⟩ hl.1 rfl (Nat.le_of_ble_eq_true rfl) dX11_worstOf_50 ⟨Nat.le_of_ble_eq_true rfl, Nat.le_of_ble_eq_true rfl⟩ (fun v11320 f11321 H locs q11322 hW => ?_)
          obtain ⟨rfl, g11323⟩ := q11322
          have z11324 : WU kp L [N10, N101, N103, N104, N106, N15, N154, N155] f0 f11321 := wu_fm z11304 g11323 rfl
          have hF := FM.tr hF g11323 rfl
          refine lv_iconst (v := 0) hx hb dX11_worstOf_53 (by decide) ?_
          refine lv_istore (lv' := [(6, .int 0), (5, .int y11279), (4, .int y11281), (0, .ref h0), (1, .int u1), (2, .int u2), (3, .int u3)]) hx hb dX11_worstOf_54 hl (by decide) rfl (fun ls hl => ?_)
          have L11643 : ∀ (n : Nat), ∀ (f11626 : Nat → va_E) (y11640 : Int32) (m11627 : oR (f11626 N1) 0 = N10) (m11628 : oR (f11626 N1) 5 = N15) (m11629 : oR (f11626 N10) 1 = N101) (m11630 : oR (f11626 N10) 3 = N103) (m11631 : oR (f11626 N10) 4 = N104) (m11632 : oR (f11626 N10) 6 = N106) (m11633 : oR (f11626 N15) 4 = N154) (m11634 : oR (f11626 N15) 5 = N155) (m11635 : oR (f11626 h0) 0 = a11293) (m11636 : oR (f11626 h0) 1 = N1) (m11637 : oR (f11626 h0) 10 = a11308) (m11638 : oR (f11626 h0) 11 = a11314) (m11639 : oI (f11626 h0) 12 = y11285) (b11641 : (0 : Int) ≤ y11640.toInt ∧ y11640.toInt ≤ 6) (z11642 : WU kp L [N10, N101, N103, N104, N106, N15, N154, N155] f0 f11626) (hm : (7 : Int) - y11640.toInt ≤ n) (H : Heap) (locs : List Loc) (ls : Array Slot), WS G cI cJ cZ cD cR cT A kp L f11626 s H locs → FM kp L ms_X11_worstOf_u f0 f11626 → lv_has ls 7 [(6, .int y11640), (5, .int y11279), (4, .int y11281), (0, .ref h0), (1, .int u1), (2, .int u2), (3, .int u3)] → W p l e ({ frames := 7, cells := 0, slots := 0, locals := 191 }) s m ([.ref h0, .int u1, .int u2, .int u3] : List Value).toArray below meth c H locs 0 0 (MQ below (QT (po_X11_worstOf_u kp L f0 h0 u1 u2 u3) G cI cJ cZ cD cR cT A kp L) ([.ref h0, .int u1, .int u2, .int u3] : List Value).toArray s 0 0 A) (F0 m 56 ls []) := by
            intro n
            induction n with
            | zero =>
              intro f11626 y11640 m11627 m11628 m11629 m11630 m11631 m11632 m11633 m11634 m11635 m11636 m11637 m11638 m11639 b11641 z11642 hm H locs ls hW hF hl
              have hz := i32_b y11640
              exfalso; omega
            | succ n ih =>
              intro f11626 y11640 m11627 m11628 m11629 m11630 m11631 m11632 m11633 m11634 m11635 m11636 m11637 m11638 m11639 b11641 z11642 hm H locs ls hW hF hl
              have ih56 := ih
              refine lv_iload hx hb dX11_worstOf_56 (lv_at hl 0 rfl) ?_
              refine lv_aload_n hx hb dX11_worstOf_58 rfl (lv_at hl 3 rfl) ?_
              refine fg_RX11_309 E hW rh0 dX11_worstOf_59 (fun y11644 m11645 b11646 => ?_)
              refine q_icmp_ge (tgt := 92) hx hb dX11_worstOf_62 (by decide) rfl rfl (fun c11647 => ?_) (fun c11647 => ?_)
              · refine lv_iconst (v := 0) hx hb dX11_worstOf_92 (by decide) ?_
                refine lv_istore (lv' := [(6, .int 0), (5, .int y11279), (4, .int y11281), (0, .ref h0), (1, .int u1), (2, .int u2), (3, .int u3)]) hx hb dX11_worstOf_93 hl (by decide) rfl (fun ls hl => ?_)
                have L14023 : ∀ (n : Nat), ∀ (f14005 : Nat → va_E) (y14020 : Int32) (m14006 : oR (f14005 N1) 0 = N10) (m14007 : oR (f14005 N1) 5 = N15) (m14008 : oR (f14005 N10) 1 = N101) (m14009 : oR (f14005 N10) 3 = N103) (m14010 : oR (f14005 N10) 4 = N104) (m14011 : oR (f14005 N10) 6 = N106) (m14012 : oR (f14005 N15) 4 = N154) (m14013 : oR (f14005 N15) 5 = N155) (m14014 : oR (f14005 h0) 0 = a11293) (m14015 : oR (f14005 h0) 1 = N1) (m14016 : oI (f14005 h0) 9 = y11644) (m14017 : oR (f14005 h0) 10 = a11308) (m14018 : oR (f14005 h0) 11 = a11314) (m14019 : oI (f14005 h0) 12 = y11285) (b14021 : (0 : Int) ≤ y14020.toInt) (z14022 : WU kp L [N10, N101, N103, N104, N106, N15, N154, N155] f0 f14005) (hm : (2147483648 : Int) - y14020.toInt ≤ n) (H : Heap) (locs : List Loc) (ls : Array Slot), WS G cI cJ cZ cD cR cT A kp L f14005 s H locs → FM kp L ms_X11_worstOf_u f0 f14005 → lv_has ls 7 [(6, .int y14020), (5, .int y11279), (4, .int y11281), (0, .ref h0), (1, .int u1), (2, .int u2), (3, .int u3)] → W p l e ({ frames := 7, cells := 0, slots := 0, locals := 191 }) s m ([.ref h0, .int u1, .int u2, .int u3] : List Value).toArray below meth c H locs 0 0 (MQ below (QT (po_X11_worstOf_u kp L f0 h0 u1 u2 u3) G cI cJ cZ cD cR cT A kp L) ([.ref h0, .int u1, .int u2, .int u3] : List Value).toArray s 0 0 A) (F0 m 95 ls []) := by
                  intro n
                  induction n with
                  | zero =>
                    intro f14005 y14020 m14006 m14007 m14008 m14009 m14010 m14011 m14012 m14013 m14014 m14015 m14016 m14017 m14018 m14019 b14021 z14022 hm H locs ls hW hF hl
                    have hz := i32_b y14020
                    exfalso; omega
                  | succ n ih =>
                    intro f14005 y14020 m14006 m14007 m14008 m14009 m14010 m14011 m14012 m14013 m14014 m14015 m14016 m14017 m14018 m14019 b14021 z14022 hm H locs ls hW hF hl
                    have ih95 := ih
                    refine lv_iload hx hb dX11_worstOf_95 (lv_at hl 0 rfl) ?_
                    refine lv_iload_n hx hb dX11_worstOf_97 rfl (lv_at hl 5 rfl) ?_
                    refine q_icmp_ge (tgt := 125) hx hb dX11_worstOf_98 (by decide) rfl rfl (fun c14024 => ?_) (fun c14024 => ?_)
                    · refine lv_iload hx hb dX11_worstOf_125 (lv_at hl 2 rfl) ?_
                      refine lv_aload_n hx hb dX11_worstOf_127 rfl (lv_at hl 3 rfl) ?_
                      refine fg_RX11_18 E hW rh0 dX11_worstOf_128 (fun a14025 m14026 r14027 => ?_)
                      obtain rfl : N1 = a14025 := (m14015).symm.trans m14026
                      refine fg_RX11_389 E hW rN1 dX11_worstOf_131 (fun y14028 m14029 => ?_)
                      refine t_max (own := RX11) E tw_1322 ⟨tw_714, tw_115, tw_715⟩ hl.1 ⟨Nat.le_of_ble_eq_true rfl, Nat.le_of_ble_eq_true rfl⟩ ⟨Nat.le_of_ble_eq_true rfl, Nat.le_of_ble_eq_true rfl⟩ rfl rfl dX11_worstOf_134 (fun x14031 h14032 => ?_)
                      refine lv_istore (lv' := [(4, .int x14031), (6, .int y14020), (5, .int y11279), (0, .ref h0), (1, .int u1), (2, .int u2), (3, .int u3)]) hx hb dX11_worstOf_137 hl (by decide) rfl (fun ls hl => ?_)
                      refine q_iinc hx hb dX11_worstOf_139 hl (k := 2) rfl rfl rfl (by omega) (by decide) (fun i14033 ls h14034 hl => ?_)
                      have hl : lv_has ls 7 [(5, .int i14033), (4, .int x14031), (6, .int y14020), (0, .ref h0), (1, .int u1), (2, .int u2), (3, .int u3)] := hl
                      refine lv_goto (tgt := 6) hx hb dX11_worstOf_142 (by decide) ?_
                      exact ih6 f14005 i14033 x14031 m14006 m14007 m14008 m14009 m14010 m14011 m14012 m14013 m14026 (by omega) (by omega) z14022 (by omega) _ _ _ hW hF (lv_sub hl [0, 1, 3, 4, 5, 6] rfl)
                    · have hb14035 : y14020.toInt ≤ 2147483646 := by have := i32_b u2; omega
                      refine lv_aload_n hx hb dX11_worstOf_101 rfl (lv_at hl 3 rfl) ?_
                      refine fg_RX11_18 E hW rh0 dX11_worstOf_102 (fun a14036 m14037 r14038 => ?_)
                      obtain rfl : N1 = a14036 := (m14015).symm.trans m14037
                      refine fg_RX11_389 E hW rN1 dX11_worstOf_105 (fun y14039 m14040 => ?_)
                      refine lv_iload_n hx hb dX11_worstOf_108 rfl (lv_at hl 6 rfl) ?_
                      refine q_icmp_ge (tgt := 125) hx hb dX11_worstOf_109 (by decide) rfl rfl (fun c14042 => ?_) (fun c14042 => ?_)
                      · refine lv_iload hx hb dX11_worstOf_125 (lv_at hl 2 rfl) ?_
                        refine lv_aload_n hx hb dX11_worstOf_127 rfl (lv_at hl 3 rfl) ?_
                        refine fg_RX11_18 E hW rh0 dX11_worstOf_128 (fun a14043 m14044 r14045 => ?_)
                        obtain rfl : N1 = a14043 := (m14037).symm.trans m14044
                        refine fg_RX11_389 E hW rN1 dX11_worstOf_131 (fun y14046 m14047 => ?_)
                        obtain rfl : y14039 = y14046 := (m14040).symm.trans m14047
                        refine t_max (own := RX11) E tw_1322 ⟨tw_714, tw_115, tw_715⟩ hl.1 ⟨Nat.le_of_ble_eq_true rfl, Nat.le_of_ble_eq_true rfl⟩ ⟨Nat.le_of_ble_eq_true rfl, Nat.le_of_ble_eq_true rfl⟩ rfl rfl dX11_worstOf_134 (fun x14049 h14050 => ?_)
                        refine lv_istore (lv' := [(4, .int x14049), (6, .int y14020), (5, .int y11279), (0, .ref h0), (1, .int u1), (2, .int u2), (3, .int u3)]) hx hb dX11_worstOf_137 hl (by decide) rfl (fun ls hl => ?_)
                        refine q_iinc hx hb dX11_worstOf_139 hl (k := 2) rfl rfl rfl (by omega) (by decide) (fun i14051 ls h14052 hl => ?_)
                        have hl : lv_has ls 7 [(5, .int i14051), (4, .int x14049), (6, .int y14020), (0, .ref h0), (1, .int u1), (2, .int u2), (3, .int u3)] := hl
                        refine lv_goto (tgt := 6) hx hb dX11_worstOf_142 (by decide) ?_
                        exact ih6 f14005 i14051 x14049 m14006 m14007 m14008 m14009 m14010 m14011 m14012 m14013 m14044 (by omega) (by omega) z14022 (by omega) _ _ _ hW hF (lv_sub hl [0, 1, 3, 4, 5, 6] rfl)
                      · refine lv_aload_n hx hb dX11_worstOf_112 rfl (lv_at hl 3 rfl) ?_
                        refine fg_RX11_18 E hW rh0 dX11_worstOf_113 (fun a14053 m14054 r14055 => ?_)
                        obtain rfl : N1 = a14053 := (m14037).symm.trans m14054
                        have hW0 := hW.2.2.2
                        refine t_callV (As := []) (rest := []) E hW (c_X0_passWeek_u l G cI cJ cZ cD cR cT kp L f14005 hW.2.2.2 _ N1 rN1) rN1 (by decide) rfl wk_X0_passWeek tw_1114 rfl ⟨Nat.le_of_ble_eq_true rfl, Nat.le_of_ble_eq_true rfl⟩ ⟨rfl, rfl⟩ hl.1 rfl (Nat.le_of_ble_eq_true rfl) dX11_worstOf_116 ⟨Nat.le_of_ble_eq_true rfl, Nat.le_of_ble_eq_true rfl⟩ (fun v14056 f14057 H locs q14058 hW => ?_)
                        obtain ⟨rfl, g14059, h14060⟩ := q14058
                        have hF := FM.tr hF g14059 rfl
                        have z14062 : WU kp L [N10, N101, N103, N104, N106, N15, N154, N155] f0 f14057 := wu_call z14022 h14060 (fun q h => absurd h List.not_mem_nil)
                        refine q_iinc hx hb dX11_worstOf_119 hl (k := 0) rfl rfl rfl (by omega) (by decide) (fun i14063 ls h14064 hl => ?_)
                        have hl : lv_has ls 7 [(6, .int i14063), (5, .int y11279), (4, .int y11281), (0, .ref h0), (1, .int u1), (2, .int u2), (3, .int u3)] := hl
                        refine lv_goto (tgt := 95) hx hb dX11_worstOf_122 (by decide) ?_
                        exact ih95 f14057 i14063 ((fm_R g14059 rN1 rfl).trans m14006) ((fm_R g14059 rN1 rfl).trans m14007) ((fm_R g14059 rN10 rfl).trans m14008) ((fm_R g14059 rN10 rfl).trans m14009) ((fm_R g14059 rN10 rfl).trans m14010) ((fm_R g14059 rN10 rfl).trans m14011) ((fm_R g14059 rN15 rfl).trans m14012) ((fm_R g14059 rN15 rfl).trans m14013) ((fm_R g14059 rh0 rfl).trans m14014) ((fm_R g14059 rh0 rfl).trans m14054) ((fm_I g14059 rh0 rfl).trans m14016) ((fm_R g14059 rh0 rfl).trans m14017) ((fm_R g14059 rh0 rfl).trans m14018) ((fm_I g14059 rh0 rfl).trans m14019) (by omega) z14062 (by omega) _ _ _ hW hF (lv_sub hl [0, 1, 2, 3, 4, 5, 6] rfl)
                have hk14065 : (0 : Int32).toInt = 0 := rfl
                exact L14023 2147483648 f11626 0 m11627 m11628 m11629 m11630 m11631 m11632 m11633 m11634 m11635 m11636 m11645 m11637 m11638 m11639 (by decide) z11642 (by omega) _ _ _ hW hF (lv_sub hl [0, 1, 2, 3, 4, 5, 6] rfl)
              · refine lv_aload_n hx hb dX11_worstOf_65 rfl (lv_at hl 3 rfl) ?_
                refine fg_RX11_18 E hW rh0 dX11_worstOf_66 (fun a14066 m14067 r14068 => ?_)
                obtain rfl : N1 = a14066 := (m11636).symm.trans m14067
                refine fg_RX11_386 E hW rN1 dX11_worstOf_69 (fun a14069 m14070 r14071 => ?_)
                refine lv_aload_n hx hb dX11_worstOf_72 rfl (lv_at hl 3 rfl) ?_
                refine fg_RX11_41 E hW rh0 dX11_worstOf_73 (fun a14072 m14073 r14074 => ?_)
                refine lv_iload hx hb dX11_worstOf_76 (lv_at hl 0 rfl) ?_
                refine gl_768 E hW r14074 ⟨by omega, by omega⟩ dX11_worstOf_78 (fun y14075 m14076 b14077 => ?_)
                refine lv_iload_n hx hb dX11_worstOf_79 rfl (lv_at hl 4 rfl) ?_
                refine lv_iload hx hb dX11_worstOf_80 (lv_at hl 0 rfl) ?_
                refine u_ishr hx hb dX11_worstOf_82 (fun x14078 => ?_)
                refine lv_iconst (v := 1) hx hb dX11_worstOf_83 (by decide) ?_
                refine q_iand (M := 1) (k := 1) hx hb dX11_worstOf_84 (by decide) (by decide) (by decide) (fun x14079 h14080 => ?_)
                have hW0 := hW.2.2.2
                refine gs_108 E hW r14071 ⟨by omega, by omega⟩ dX11_worstOf_85 (fun f14081 H locs e14082 n14083 g14084 hW => ?_)
                have z14085 : WU kp L [N10, N101, N103, N104, N106, N15, N154, N155] f0 f14081 := wu_fm z11642 g14084 rfl
                have hF := FM.tr hF g14084 rfl
                refine q_iinc hx hb dX11_worstOf_86 hl (k := 0) rfl rfl rfl (by omega) (by decide) (fun i14086 ls h14087 hl => ?_)
                have hl : lv_has ls 7 [(6, .int i14086), (5, .int y11279), (4, .int y11281), (0, .ref h0), (1, .int u1), (2, .int u2), (3, .int u3)] := hl
                refine lv_goto (tgt := 56) hx hb dX11_worstOf_89 (by decide) ?_
                exact ih56 f14081 i14086 ((fm_R g14084 rN1 rfl).trans m11627) ((fm_R g14084 rN1 rfl).trans m11628) ((fm_R g14084 rN10 rfl).trans m11629) ((fm_R g14084 rN10 rfl).trans m11630) ((fm_R g14084 rN10 rfl).trans m11631) ((fm_R g14084 rN10 rfl).trans m11632) ((fm_R g14084 rN15 rfl).trans m11633) ((fm_R g14084 rN15 rfl).trans m11634) ((fm_R g14084 rh0 rfl).trans m11635) ((fm_R g14084 rh0 rfl).trans m14067) ((fm_R g14084 rh0 rfl).trans m11637) ((fm_R g14084 rh0 rfl).trans m11638) ((fm_I g14084 rh0 rfl).trans m11639) (by omega) z14085 (by omega) _ _ _ hW hF (lv_sub hl [0, 1, 2, 3, 4, 5, 6] rfl)
          have hk14088 : (0 : Int32).toInt = 0 := rfl
          exact L11643 7 f11321 0 ((fm_R g11323 rN1 rfl).trans ((fm_R g11299 rN1 rfl).trans m11270)) ((fm_R g11323 rN1 rfl).trans ((fm_R g11299 rN1 rfl).trans m11271)) ((fm_R g11323 rN10 rfl).trans ((fm_R g11299 rN10 rfl).trans m11272)) ((fm_R g11323 rN10 rfl).trans ((fm_R g11299 rN10 rfl).trans m11273)) ((fm_R g11323 rN10 rfl).trans ((fm_R g11299 rN10 rfl).trans m11274)) ((fm_R g11323 rN10 rfl).trans ((fm_R g11299 rN10 rfl).trans m11275)) ((fm_R g11323 rN15 rfl).trans ((fm_R g11299 rN15 rfl).trans m11276)) ((fm_R g11323 rN15 rfl).trans ((fm_R g11299 rN15 rfl).trans m11277)) ((fm_R g11323 rh0 rfl).trans ((fm_R g11299 rh0 rfl).trans m11294)) ((fm_R g11323 rh0 rfl).trans m11306) ((fm_R g11323 rh0 rfl).trans m11309) ((fm_R g11323 rh0 rfl).trans m11315) ((fm_I g11323 rh0 rfl).trans ((fm_I g11299 rh0 rfl).trans m11286)) (by decide) z11324 (by omega) _ _ _ hW hF (lv_sub hl [0, 1, 2, 3, 4, 5, 6] rfl)
  have hk14089 : (0 : Int32).toInt = 0 := rfl
  have hk14090 : (0 : Int32).toInt = 0 := rfl
  exact L11284 4 f0 0 0 mN10 mN15 mN101 mN103 mN104 mN106 mN154 mN155 mN1 (by decide) (by decide) (wu_rf : WU kp L [N10, N101, N103, N104, N106, N15, N154, N155] f0 f0) (by omega) _ _ _ hW hF (lv_sub hl [0, 1, 2, 3, 4, 5] rfl)
def ms_X11_choose_u : List (Nat × Nat) := [(0, 6), (0, 9), (0, 10), (0, 11), (0, 12), (0, 13), (0, 14), (1, 0), (1, 8), (1, 12), (1, 13), (1, 14), (2, 0), (3, 0), (3, 1), (3, 2), (3, 3), (4, 0), (10, 0), (10, 7), (11, 14), (108, 0), (115, 0), (161, 0), (162, 0), (163, 0), (164, 0), (165, 0), (166, 0), (167, 0), (169, 0), (170, 0), (171, 0), (221, 0), (222, 0), (223, 0), (284, 0), (285, 0), (341, 0), (342, 0), (343, 0), (344, 0), (345, 0), (346, 0), (347, 0), (348, 0), (349, 0), (520, 0), (521, 0), (701, 0), (702, 0), (703, 0), (704, 0), (705, 0), (706, 0), (708, 0), (709, 0), (710, 0), (773, 0)]
def po_X11_choose_u (kp : Nat → Nat) (L : List Nat) (f0 : Nat → va_E) (h0 : Nat) (u1 : Int32) : Option Value → (Nat → va_E) → Prop := fun v f => (∃ r : Int32, v = some (.int r) ∧ ((-1 : Int) ≤ r.toInt ∧ r.toInt ≤ 41)) ∧ FM kp L ms_X11_choose_u f0 f ∧ (WU kp L [(oR (f0 (oR (f0 h0) 1)) 0), (oR (f0 (oR (f0 (oR (f0 h0) 1)) 0)) 1), (oR (f0 (oR (f0 (oR (f0 h0) 1)) 0)) 3), (oR (f0 (oR (f0 (oR (f0 h0) 1)) 0)) 4), (oR (f0 (oR (f0 (oR (f0 h0) 1)) 0)) 6), (oR (f0 (oR (f0 h0) 1)) 5), (oR (f0 (oR (f0 (oR (f0 h0) 1)) 5)) 4), (oR (f0 (oR (f0 (oR (f0 h0) 1)) 5)) 5)] f0 f)
set_option maxHeartbeats 4000000 in
set_option maxRecDepth 100000 in
theorem c_X11_choose_u (l : Launch) (G : va_G) (cI cJ cZ cD cR cT : ClassId) (kp : Nat → Nat) (L : List Nat) (f0 : Nat → va_E) (hTH : TH cI cJ cZ cD cR cT kp L f0) (sz : Nat) (h0 : Nat) (u1 : Int32) (rh0 : RK kp L h0 11) : Met l yX11_choose (Cond.code yX11_choose cX11_choose 8 (some .int) :: wTab) ({ frames := 8, cells := 0, slots := 0, locals := 217 }) (va_Pc [.ref h0, .int u1] (PreW G (tys6 cI cJ cZ cD cR cT) (va_pl L f0) sz)) (QT (po_X11_choose_u kp L f0 h0 u1) G cI cJ cZ cD cR cT (va_A (va_pl L f0) sz) kp L) 0 0 (va_A (va_pl L f0) sz) := by
  refine metT (by decide) (Nat.le_of_ble_eq_true rfl) hTH ?_
  intro p e s m below meth c A ls E hW hl
  obtain ⟨hx, hb, -, hml, hown, hts, -, -, -⟩ := id E
  have hF : FM kp L ms_X11_choose_u f0 f0 := FM.rf
  have hl : lv_has ls 8 [(0, .ref h0), (1, .int u1)] := hl
  obtain ⟨N1, mN1⟩ : ∃ x : Nat, oR (f0 h0) 1 = x := ⟨_, rfl⟩
  have rN1 : RK kp L N1 0 := by rw [← mN1]; exact th_ref hTH rh0 (by decide) (by decide) rfl
  obtain ⟨N10, mN10⟩ : ∃ x : Nat, oR (f0 N1) 0 = x := ⟨_, rfl⟩
  have rN10 : RK kp L N10 4 := by rw [← mN10]; exact th_ref hTH rN1 (by decide) (by decide) rfl
  obtain ⟨N15, mN15⟩ : ∃ x : Nat, oR (f0 N1) 5 = x := ⟨_, rfl⟩
  have rN15 : RK kp L N15 3 := by rw [← mN15]; exact th_ref hTH rN1 (by decide) (by decide) rfl
  obtain ⟨N101, mN101⟩ : ∃ x : Nat, oR (f0 N10) 1 = x := ⟨_, rfl⟩
  have rN101 : RK kp L N101 341 := by rw [← mN101]; exact th_ref hTH rN10 (by decide) (by decide) rfl
  obtain ⟨N103, mN103⟩ : ∃ x : Nat, oR (f0 N10) 3 = x := ⟨_, rfl⟩
  have rN103 : RK kp L N103 343 := by rw [← mN103]; exact th_ref hTH rN10 (by decide) (by decide) rfl
  obtain ⟨N104, mN104⟩ : ∃ x : Nat, oR (f0 N10) 4 = x := ⟨_, rfl⟩
  have rN104 : RK kp L N104 344 := by rw [← mN104]; exact th_ref hTH rN10 (by decide) (by decide) rfl
  obtain ⟨N106, mN106⟩ : ∃ x : Nat, oR (f0 N10) 6 = x := ⟨_, rfl⟩
  have rN106 : RK kp L N106 346 := by rw [← mN106]; exact th_ref hTH rN10 (by decide) (by decide) rfl
  obtain ⟨N154, mN154⟩ : ∃ x : Nat, oR (f0 N15) 4 = x := ⟨_, rfl⟩
  have rN154 : RK kp L N154 284 := by rw [← mN154]; exact th_ref hTH rN15 (by decide) (by decide) rfl
  obtain ⟨N155, mN155⟩ : ∃ x : Nat, oR (f0 N15) 5 = x := ⟨_, rfl⟩
  have rN155 : RK kp L N155 285 := by rw [← mN155]; exact th_ref hTH rN15 (by decide) (by decide) rfl
  refine lv_aload_n hx hb dX11_choose_0 rfl (lv_at hl 0 rfl) ?_
  refine lv_iload_n hx hb dX11_choose_1 rfl (lv_at hl 1 rfl) ?_
  have hW0 := hW.2.2.2
  refine t_callV (As := [.int u1]) (rest := []) E hW (c_X11_canChoose l G cI cJ cZ cD cR cT kp L f0 hW.2.2.2 _ h0 u1 rh0) rh0 (by decide) rfl wk_X11_canChoose tw_1272 rfl ⟨Nat.le_of_ble_eq_true rfl, Nat.le_of_ble_eq_true rfl⟩ ⟨rfl, rfl⟩ hl.1 rfl (Nat.le_of_ble_eq_true rfl) dX11_choose_2 ⟨Nat.le_of_ble_eq_true rfl, Nat.le_of_ble_eq_true rfl⟩ (fun v1 f2 H locs q3 hW => ?_)
  obtain ⟨⟨x5, rfl, p6⟩, g4⟩ := q3
  have z7 : WU kp L [N10, N101, N103, N104, N106, N15, N154, N155] f0 f2 := wu_fm (wu_rf : WU kp L [N10, N101, N103, N104, N106, N15, N154, N155] f0 f0) g4 rfl
  have hF := FM.tr hF g4 rfl
  refine q_if_ne (tgt := 10) hx hb dX11_choose_5 (by decide) rfl (fun c8 => ?_) (fun c8 => ?_)
  · refine lv_bipush (v := 41) hx hb dX11_choose_10 (by decide) ?_
    refine lv_istore_n (lv' := [(2, .int 41), (0, .ref h0), (1, .int u1)]) hx hb dX11_choose_12 rfl hl (by decide) rfl (fun ls hl => ?_)
    refine lv_iconst (v := 0) hx hb dX11_choose_13 (by decide) ?_
    refine lv_istore_n (lv' := [(3, .int 0), (2, .int 41), (0, .ref h0), (1, .int u1)]) hx hb dX11_choose_14 rfl hl (by decide) rfl (fun ls hl => ?_)
    refine lv_iconst (v := 0) hx hb dX11_choose_15 (by decide) ?_
    refine lv_istore (lv' := [(4, .int 0), (3, .int 0), (2, .int 41), (0, .ref h0), (1, .int u1)]) hx hb dX11_choose_16 hl (by decide) rfl (fun ls hl => ?_)
    have L27467 : ∀ (n : Nat), ∀ (f27451 : Nat → va_E) (y27461 : Int32) (y27463 : Int32) (y27464 : Int32) (m27452 : oR (f27451 N1) 0 = N10) (m27453 : oR (f27451 N1) 5 = N15) (m27454 : oR (f27451 N10) 1 = N101) (m27455 : oR (f27451 N10) 3 = N103) (m27456 : oR (f27451 N10) 4 = N104) (m27457 : oR (f27451 N10) 6 = N106) (m27458 : oR (f27451 N15) 4 = N154) (m27459 : oR (f27451 N15) 5 = N155) (m27460 : oR (f27451 h0) 1 = N1) (b27462 : (0 : Int) ≤ y27461.toInt ∧ y27461.toInt ≤ 7) (b27465 : (0 : Int) ≤ y27464.toInt ∧ y27464.toInt ≤ 41) (z27466 : WU kp L [N10, N101, N103, N104, N106, N15, N154, N155] f0 f27451) (hm : (8 : Int) - y27461.toInt ≤ n) (H : Heap) (locs : List Loc) (ls : Array Slot), WS G cI cJ cZ cD cR cT A kp L f27451 s H locs → FM kp L ms_X11_choose_u f0 f27451 → lv_has ls 8 [(4, .int y27461), (3, .int y27463), (2, .int y27464), (0, .ref h0), (1, .int u1)] → W p l e ({ frames := 8, cells := 0, slots := 0, locals := 217 }) s m ([.ref h0, .int u1] : List Value).toArray below meth c H locs 0 0 (MQ below (QT (po_X11_choose_u kp L f0 h0 u1) G cI cJ cZ cD cR cT A kp L) ([.ref h0, .int u1] : List Value).toArray s 0 0 A) (F0 m 18 ls []) := by
      intro n
      induction n with
      | zero =>
        intro f27451 y27461 y27463 y27464 m27452 m27453 m27454 m27455 m27456 m27457 m27458 m27459 m27460 b27462 b27465 z27466 hm H locs ls hW hF hl
        have hz := i32_b y27461
        exfalso; omega
      | succ n ih =>
        intro f27451 y27461 y27463 y27464 m27452 m27453 m27454 m27455 m27456 m27457 m27458 m27459 m27460 b27462 b27465 z27466 hm H locs ls hW hF hl
        clear p6 c8
        have ih18 := ih
        refine lv_iload hx hb dX11_choose_18 (lv_at hl 0 rfl) ?_
        refine lv_aload_n hx hb dX11_choose_20 rfl (lv_at hl 3 rfl) ?_
        refine fg_RX11_309 E hW rh0 dX11_choose_21 (fun y27468 m27469 b27470 => ?_)
        refine q_icmp_gt (tgt := 104) hx hb dX11_choose_24 (by decide) rfl rfl (fun c27471 => ?_) (fun c27471 => ?_)
        · refine lv_iconst (v := 0) hx hb dX11_choose_104 (by decide) ?_
          refine lv_istore (lv' := [(4, .int 0), (3, .int y27463), (2, .int y27464), (0, .ref h0), (1, .int u1)]) hx hb dX11_choose_105 hl (by decide) rfl (fun ls hl => ?_)
          have L27703 : ∀ (n : Nat), ∀ (f27689 : Nat → va_E) (y27700 : Int32) (m27690 : oR (f27689 N1) 0 = N10) (m27691 : oR (f27689 N1) 5 = N15) (m27692 : oR (f27689 N10) 1 = N101) (m27693 : oR (f27689 N10) 3 = N103) (m27694 : oR (f27689 N10) 4 = N104) (m27695 : oR (f27689 N10) 6 = N106) (m27696 : oR (f27689 N15) 4 = N154) (m27697 : oR (f27689 N15) 5 = N155) (m27698 : oR (f27689 h0) 1 = N1) (m27699 : oI (f27689 h0) 9 = y27468) (b27701 : (0 : Int) ≤ y27700.toInt ∧ y27700.toInt ≤ 6) (z27702 : WU kp L [N10, N101, N103, N104, N106, N15, N154, N155] f0 f27689) (hm : (7 : Int) - y27700.toInt ≤ n) (H : Heap) (locs : List Loc) (ls : Array Slot), WS G cI cJ cZ cD cR cT A kp L f27689 s H locs → FM kp L ms_X11_choose_u f0 f27689 → lv_has ls 8 [(4, .int y27700), (3, .int y27463), (2, .int y27464), (0, .ref h0), (1, .int u1)] → W p l e ({ frames := 8, cells := 0, slots := 0, locals := 217 }) s m ([.ref h0, .int u1] : List Value).toArray below meth c H locs 0 0 (MQ below (QT (po_X11_choose_u kp L f0 h0 u1) G cI cJ cZ cD cR cT A kp L) ([.ref h0, .int u1] : List Value).toArray s 0 0 A) (F0 m 107 ls []) := by
            intro n
            induction n with
            | zero =>
              intro f27689 y27700 m27690 m27691 m27692 m27693 m27694 m27695 m27696 m27697 m27698 m27699 b27701 z27702 hm H locs ls hW hF hl
              have hz := i32_b y27700
              exfalso; omega
            | succ n ih =>
              intro f27689 y27700 m27690 m27691 m27692 m27693 m27694 m27695 m27696 m27697 m27698 m27699 b27701 z27702 hm H locs ls hW hF hl
              have ih107 := ih
              refine lv_iload hx hb dX11_choose_107 (lv_at hl 0 rfl) ?_
              refine lv_aload_n hx hb dX11_choose_109 rfl (lv_at hl 3 rfl) ?_
              refine fg_RX11_309 E hW rh0 dX11_choose_110 (fun y27704 m27705 b27706 => ?_)
              obtain rfl : y27468 = y27704 := (m27699).symm.trans m27705
              refine q_icmp_ge (tgt := 135) hx hb dX11_choose_113 (by decide) rfl rfl (fun c27707 => ?_) (fun c27707 => ?_)
              · refine lv_aload_n hx hb dX11_choose_135 rfl (lv_at hl 3 rfl) ?_
                refine lv_aload_n hx hb dX11_choose_136 rfl (lv_at hl 3 rfl) ?_
                refine fg_RX11_309 E hW rh0 dX11_choose_137 (fun y27708 m27709 b27710 => ?_)
                obtain rfl : y27468 = y27708 := (m27705).symm.trans m27709
                have hW0 := hW.2.2.2
                refine fp_RX11_329 E hW rh0 (by omega) dX11_choose_140 (fun f27711 H locs e27712 n27713 g27714 hW => ?_)
                have z27715 : WU kp L [N10, N101, N103, N104, N106, N15, N154, N155] f0 f27711 := wu_fm z27702 g27714 rfl
                have hF := FM.tr hF g27714 rfl
                refine lv_iload_n hx hb dX11_choose_143 rfl (lv_at hl 2 rfl) ?_
                exact e_I E hW rfl ⟨⟨_, rfl, (by first | omega | trivial)⟩, hF, (by rw [mN1, mN10, mN15, mN101, mN103, mN104, mN106, mN154, mN155]; exact z27715)⟩ dX11_choose_144
              · refine lv_aload_n hx hb dX11_choose_116 rfl (lv_at hl 3 rfl) ?_
                refine fg_RX11_51 E hW rh0 dX11_choose_117 (fun a27716 m27717 r27718 => ?_)
                refine lv_iload hx hb dX11_choose_120 (lv_at hl 0 rfl) ?_
                refine lv_iload_n hx hb dX11_choose_122 rfl (lv_at hl 1 rfl) ?_
                refine lv_iload hx hb dX11_choose_123 (lv_at hl 0 rfl) ?_
                refine u_ishr hx hb dX11_choose_125 (fun x27719 => ?_)
                refine lv_iconst (v := 1) hx hb dX11_choose_126 (by decide) ?_
                refine q_iand (M := 1) (k := 1) hx hb dX11_choose_127 (by decide) (by decide) (by decide) (fun x27720 h27721 => ?_)
                have hW0 := hW.2.2.2
                refine gs_773 E hW r27718 ⟨by omega, by omega⟩ dX11_choose_128 (fun f27722 H locs e27723 n27724 g27725 hW => ?_)
                have z27726 : WU kp L [N10, N101, N103, N104, N106, N15, N154, N155] f0 f27722 := wu_fm z27702 g27725 rfl
                have hF := FM.tr hF g27725 rfl
                refine q_iinc hx hb dX11_choose_129 hl (k := 0) rfl rfl rfl (by omega) (by decide) (fun i27727 ls h27728 hl => ?_)
                have hl : lv_has ls 8 [(4, .int i27727), (3, .int y27463), (2, .int y27464), (0, .ref h0), (1, .int u1)] := hl
                refine lv_goto (tgt := 107) hx hb dX11_choose_132 (by decide) ?_
                exact ih107 f27722 i27727 ((fm_R g27725 rN1 rfl).trans m27690) ((fm_R g27725 rN1 rfl).trans m27691) ((fm_R g27725 rN10 rfl).trans m27692) ((fm_R g27725 rN10 rfl).trans m27693) ((fm_R g27725 rN10 rfl).trans m27694) ((fm_R g27725 rN10 rfl).trans m27695) ((fm_R g27725 rN15 rfl).trans m27696) ((fm_R g27725 rN15 rfl).trans m27697) ((fm_R g27725 rh0 rfl).trans m27698) ((fm_I g27725 rh0 rfl).trans m27705) (by omega) z27726 (by omega) _ _ _ hW hF (lv_sub hl [0, 1, 2, 3, 4] rfl)
          have hk27729 : (0 : Int32).toInt = 0 := rfl
          exact L27703 7 f27451 0 m27452 m27453 m27454 m27455 m27456 m27457 m27458 m27459 m27460 m27469 (by decide) z27466 (by omega) _ _ _ hW hF (lv_sub hl [0, 1, 2, 3, 4] rfl)
        · refine lv_iload_n hx hb dX11_choose_27 rfl (lv_at hl 2 rfl) ?_
          refine q_if_le (tgt := 104) hx hb dX11_choose_28 (by decide) rfl (fun c27730 => ?_) (fun c27730 => ?_)
          · refine lv_iconst (v := 0) hx hb dX11_choose_104 (by decide) ?_
            refine lv_istore (lv' := [(4, .int 0), (3, .int y27463), (2, .int y27464), (0, .ref h0), (1, .int u1)]) hx hb dX11_choose_105 hl (by decide) rfl (fun ls hl => ?_)
            have L27962 : ∀ (n : Nat), ∀ (f27948 : Nat → va_E) (y27959 : Int32) (m27949 : oR (f27948 N1) 0 = N10) (m27950 : oR (f27948 N1) 5 = N15) (m27951 : oR (f27948 N10) 1 = N101) (m27952 : oR (f27948 N10) 3 = N103) (m27953 : oR (f27948 N10) 4 = N104) (m27954 : oR (f27948 N10) 6 = N106) (m27955 : oR (f27948 N15) 4 = N154) (m27956 : oR (f27948 N15) 5 = N155) (m27957 : oR (f27948 h0) 1 = N1) (m27958 : oI (f27948 h0) 9 = y27468) (b27960 : (0 : Int) ≤ y27959.toInt ∧ y27959.toInt ≤ 6) (z27961 : WU kp L [N10, N101, N103, N104, N106, N15, N154, N155] f0 f27948) (hm : (7 : Int) - y27959.toInt ≤ n) (H : Heap) (locs : List Loc) (ls : Array Slot), WS G cI cJ cZ cD cR cT A kp L f27948 s H locs → FM kp L ms_X11_choose_u f0 f27948 → lv_has ls 8 [(4, .int y27959), (3, .int y27463), (2, .int y27464), (0, .ref h0), (1, .int u1)] → W p l e ({ frames := 8, cells := 0, slots := 0, locals := 217 }) s m ([.ref h0, .int u1] : List Value).toArray below meth c H locs 0 0 (MQ below (QT (po_X11_choose_u kp L f0 h0 u1) G cI cJ cZ cD cR cT A kp L) ([.ref h0, .int u1] : List Value).toArray s 0 0 A) (F0 m 107 ls []) := by
              intro n
              induction n with
              | zero =>
                intro f27948 y27959 m27949 m27950 m27951 m27952 m27953 m27954 m27955 m27956 m27957 m27958 b27960 z27961 hm H locs ls hW hF hl
                have hz := i32_b y27959
                exfalso; omega
              | succ n ih =>
                intro f27948 y27959 m27949 m27950 m27951 m27952 m27953 m27954 m27955 m27956 m27957 m27958 b27960 z27961 hm H locs ls hW hF hl
                have ih107 := ih
                refine lv_iload hx hb dX11_choose_107 (lv_at hl 0 rfl) ?_
                refine lv_aload_n hx hb dX11_choose_109 rfl (lv_at hl 3 rfl) ?_
                refine fg_RX11_309 E hW rh0 dX11_choose_110 (fun y27963 m27964 b27965 => ?_)
                obtain rfl : y27468 = y27963 := (m27958).symm.trans m27964
                refine q_icmp_ge (tgt := 135) hx hb dX11_choose_113 (by decide) rfl rfl (fun c27966 => ?_) (fun c27966 => ?_)
                · refine lv_aload_n hx hb dX11_choose_135 rfl (lv_at hl 3 rfl) ?_
                  refine lv_aload_n hx hb dX11_choose_136 rfl (lv_at hl 3 rfl) ?_
                  refine fg_RX11_309 E hW rh0 dX11_choose_137 (fun y27967 m27968 b27969 => ?_)
                  obtain rfl : y27468 = y27967 := (m27964).symm.trans m27968
                  have hW0 := hW.2.2.2
                  refine fp_RX11_329 E hW rh0 (by omega) dX11_choose_140 (fun f27970 H locs e27971 n27972 g27973 hW => ?_)
                  have z27974 : WU kp L [N10, N101, N103, N104, N106, N15, N154, N155] f0 f27970 := wu_fm z27961 g27973 rfl
                  have hF := FM.tr hF g27973 rfl
                  refine lv_iload_n hx hb dX11_choose_143 rfl (lv_at hl 2 rfl) ?_
                  exact e_I E hW rfl ⟨⟨_, rfl, (by first | omega | trivial)⟩, hF, (by rw [mN1, mN10, mN15, mN101, mN103, mN104, mN106, mN154, mN155]; exact z27974)⟩ dX11_choose_144
                · refine lv_aload_n hx hb dX11_choose_116 rfl (lv_at hl 3 rfl) ?_
                  refine fg_RX11_51 E hW rh0 dX11_choose_117 (fun a27975 m27976 r27977 => ?_)
                  refine lv_iload hx hb dX11_choose_120 (lv_at hl 0 rfl) ?_
                  refine lv_iload_n hx hb dX11_choose_122 rfl (lv_at hl 1 rfl) ?_
                  refine lv_iload hx hb dX11_choose_123 (lv_at hl 0 rfl) ?_
                  refine u_ishr hx hb dX11_choose_125 (fun x27978 => ?_)
                  refine lv_iconst (v := 1) hx hb dX11_choose_126 (by decide) ?_
                  refine q_iand (M := 1) (k := 1) hx hb dX11_choose_127 (by decide) (by decide) (by decide) (fun x27979 h27980 => ?_)
                  have hW0 := hW.2.2.2
                  refine gs_773 E hW r27977 ⟨by omega, by omega⟩ dX11_choose_128 (fun f27981 H locs e27982 n27983 g27984 hW => ?_)
                  have z27985 : WU kp L [N10, N101, N103, N104, N106, N15, N154, N155] f0 f27981 := wu_fm z27961 g27984 rfl
                  have hF := FM.tr hF g27984 rfl
                  refine q_iinc hx hb dX11_choose_129 hl (k := 0) rfl rfl rfl (by omega) (by decide) (fun i27986 ls h27987 hl => ?_)
                  have hl : lv_has ls 8 [(4, .int i27986), (3, .int y27463), (2, .int y27464), (0, .ref h0), (1, .int u1)] := hl
                  refine lv_goto (tgt := 107) hx hb dX11_choose_132 (by decide) ?_
                  exact ih107 f27981 i27986 ((fm_R g27984 rN1 rfl).trans m27949) ((fm_R g27984 rN1 rfl).trans m27950) ((fm_R g27984 rN10 rfl).trans m27951) ((fm_R g27984 rN10 rfl).trans m27952) ((fm_R g27984 rN10 rfl).trans m27953) ((fm_R g27984 rN10 rfl).trans m27954) ((fm_R g27984 rN15 rfl).trans m27955) ((fm_R g27984 rN15 rfl).trans m27956) ((fm_R g27984 rh0 rfl).trans m27957) ((fm_I g27984 rh0 rfl).trans m27964) (by omega) z27985 (by omega) _ _ _ hW hF (lv_sub hl [0, 1, 2, 3, 4] rfl)
            have hk27988 : (0 : Int32).toInt = 0 := rfl
            exact L27962 7 f27451 0 m27452 m27453 m27454 m27455 m27456 m27457 m27458 m27459 m27460 m27469 (by decide) z27466 (by omega) _ _ _ hW hF (lv_sub hl [0, 1, 2, 3, 4] rfl)
          · refine lv_iconst (v := 0) hx hb dX11_choose_31 (by decide) ?_
            refine lv_istore (lv' := [(5, .int 0), (4, .int y27461), (3, .int y27463), (2, .int y27464), (0, .ref h0), (1, .int u1)]) hx hb dX11_choose_32 hl (by decide) rfl (fun ls hl => ?_)
            have L31355 : ∀ (n : Nat), ∀ (f31338 : Nat → va_E) (y31349 : Int32) (y31351 : Int32) (y31352 : Int32) (m31339 : oR (f31338 N1) 0 = N10) (m31340 : oR (f31338 N1) 5 = N15) (m31341 : oR (f31338 N10) 1 = N101) (m31342 : oR (f31338 N10) 3 = N103) (m31343 : oR (f31338 N10) 4 = N104) (m31344 : oR (f31338 N10) 6 = N106) (m31345 : oR (f31338 N15) 4 = N154) (m31346 : oR (f31338 N15) 5 = N155) (m31347 : oR (f31338 h0) 1 = N1) (m31348 : oI (f31338 h0) 9 = y27468) (b31350 : (0 : Int) ≤ y31349.toInt) (b31353 : (0 : Int) ≤ y31352.toInt ∧ y31352.toInt ≤ 41) (z31354 : WU kp L [N10, N101, N103, N104, N106, N15, N154, N155] f0 f31338) (hm : (2147483648 : Int) - y31349.toInt ≤ n) (H : Heap) (locs : List Loc) (ls : Array Slot), WS G cI cJ cZ cD cR cT A kp L f31338 s H locs → FM kp L ms_X11_choose_u f0 f31338 → lv_has ls 8 [(5, .int y31349), (4, .int y27461), (3, .int y31351), (2, .int y31352), (0, .ref h0), (1, .int u1)] → W p l e ({ frames := 8, cells := 0, slots := 0, locals := 217 }) s m ([.ref h0, .int u1] : List Value).toArray below meth c H locs 0 0 (MQ below (QT (po_X11_choose_u kp L f0 h0 u1) G cI cJ cZ cD cR cT A kp L) ([.ref h0, .int u1] : List Value).toArray s 0 0 A) (F0 m 34 ls []) := by
              intro n
              induction n with
              | zero =>
                intro f31338 y31349 y31351 y31352 m31339 m31340 m31341 m31342 m31343 m31344 m31345 m31346 m31347 m31348 b31350 b31353 z31354 hm H locs ls hW hF hl
                have hz := i32_b y31349
                exfalso; omega
              | succ n ih =>
                intro f31338 y31349 y31351 y31352 m31339 m31340 m31341 m31342 m31343 m31344 m31345 m31346 m31347 m31348 b31350 b31353 z31354 hm H locs ls hW hF hl
                clear b27465 c27730
                have ih34 := ih
                refine lv_iload hx hb dX11_choose_34 (lv_at hl 0 rfl) ?_
                refine lv_iconst (v := 1) hx hb dX11_choose_36 (by decide) ?_
                refine lv_aload_n hx hb dX11_choose_37 rfl (lv_at hl 4 rfl) ?_
                refine fg_RX11_309 E hW rh0 dX11_choose_38 (fun y31356 m31357 b31358 => ?_)
                obtain rfl : y27468 = y31356 := (m31348).symm.trans m31357
                refine u_ishl hx hb dX11_choose_41 (fun x31359 => ?_)
                refine q_icmp_ge (tgt := 98) hx hb dX11_choose_42 (by decide) rfl rfl (fun c31360 => ?_) (fun c31360 => ?_)
                · refine q_iinc hx hb dX11_choose_98 hl (k := 1) rfl rfl rfl (by omega) (by decide) (fun i31361 ls h31362 hl => ?_)
                  have hl : lv_has ls 8 [(4, .int i31361), (5, .int y31349), (3, .int y31351), (2, .int y31352), (0, .ref h0), (1, .int u1)] := hl
                  refine lv_goto (tgt := 18) hx hb dX11_choose_101 (by decide) ?_
                  exact ih18 f31338 i31361 y31351 y31352 m31339 m31340 m31341 m31342 m31343 m31344 m31345 m31346 m31347 (by omega) (by omega) z31354 (by omega) _ _ _ hW hF (lv_sub hl [0, 2, 3, 4, 5] rfl)
                · have hb31363 : y31349.toInt ≤ 2147483646 := by have := i32_b x31359; omega
                  refine lv_iload_n hx hb dX11_choose_45 rfl (lv_at hl 3 rfl) ?_
                  refine q_if_le (tgt := 98) hx hb dX11_choose_46 (by decide) rfl (fun c31364 => ?_) (fun c31364 => ?_)
                  · refine q_iinc hx hb dX11_choose_98 hl (k := 1) rfl rfl rfl (by omega) (by decide) (fun i31365 ls h31366 hl => ?_)
                    have hl : lv_has ls 8 [(4, .int i31365), (5, .int y31349), (3, .int y31351), (2, .int y31352), (0, .ref h0), (1, .int u1)] := hl
                    refine lv_goto (tgt := 18) hx hb dX11_choose_101 (by decide) ?_
                    exact ih18 f31338 i31365 y31351 y31352 m31339 m31340 m31341 m31342 m31343 m31344 m31345 m31346 m31347 (by omega) (by omega) z31354 (by omega) _ _ _ hW hF (lv_sub hl [0, 2, 3, 4, 5] rfl)
                  · refine lv_iload hx hb dX11_choose_49 (lv_at hl 0 rfl) ?_
                    have hW0 := hW.2.2.2
                    refine t_callS (As := [.int y31349]) (rest := []) E hW (c_J6_bitCount_0f7a4 l G cI cJ cZ cD cR cT kp L f31338 hW.2.2.2 _ y31349 (by omega)) wk_J6_bitCount_0f7a4 tw_1276 rfl ⟨Nat.le_of_ble_eq_true rfl, Nat.le_of_ble_eq_true rfl⟩ ⟨rfl, rfl⟩ hl.1 rfl (Nat.le_of_ble_eq_true rfl) dX11_choose_51 ⟨Nat.le_of_ble_eq_true rfl, Nat.le_of_ble_eq_true rfl⟩ (fun v31367 f31368 H locs q31369 hW => ?_)
                    obtain ⟨⟨x31371, rfl, p31372⟩, g31370⟩ := q31369
                    have z31373 : WU kp L [N10, N101, N103, N104, N106, N15, N154, N155] f0 f31368 := wu_fm z31354 g31370 rfl
                    have hF := FM.tr hF g31370 rfl
                    refine lv_iload hx hb dX11_choose_54 (lv_at hl 1 rfl) ?_
                    refine q_icmp_eq (tgt := 62) hx hb dX11_choose_56 (by decide) rfl rfl (fun c31374 => ?_) (fun c31374 => ?_)
                    · refine lv_aload_n hx hb dX11_choose_62 rfl (lv_at hl 4 rfl) ?_
                      refine lv_iload hx hb dX11_choose_63 (lv_at hl 0 rfl) ?_
                      have hW0 := hW.2.2.2
                      refine t_callV (As := [.int y31349]) (rest := []) E hW (c_X11_bitsOfRow l G cI cJ cZ cD cR cT kp L f31368 hW.2.2.2 _ h0 y31349 rh0 (by omega)) rh0 (by decide) rfl wk_X11_bitsOfRow tw_1277 rfl ⟨Nat.le_of_ble_eq_true rfl, Nat.le_of_ble_eq_true rfl⟩ ⟨rfl, rfl⟩ hl.1 rfl (Nat.le_of_ble_eq_true rfl) dX11_choose_65 ⟨Nat.le_of_ble_eq_true rfl, Nat.le_of_ble_eq_true rfl⟩ (fun v31375 f31376 H locs q31377 hW => ?_)
                      obtain ⟨⟨x31379, rfl, p31380⟩, g31378⟩ := q31377
                      clear p31380
                      have z31381 : WU kp L [N10, N101, N103, N104, N106, N15, N154, N155] f0 f31376 := wu_fm z31373 g31378 rfl
                      have hF := FM.tr hF g31378 rfl
                      refine lv_istore (lv' := [(6, .int x31379), (5, .int y31349), (4, .int y27461), (3, .int y31351), (2, .int y31352), (0, .ref h0), (1, .int u1)]) hx hb dX11_choose_68 hl (by decide) rfl (fun ls hl => ?_)
                      refine lv_aload_n hx hb dX11_choose_70 rfl (lv_at hl 5 rfl) ?_
                      refine lv_iload hx hb dX11_choose_71 (lv_at hl 0 rfl) ?_
                      refine lv_iload_n hx hb dX11_choose_73 rfl (lv_at hl 6 rfl) ?_
                      refine lv_iload_n hx hb dX11_choose_74 rfl (lv_at hl 4 rfl) ?_
                      have hW0 := hW.2.2.2
                      refine t_callV (As := [.int x31379, .int u1, .int y31352]) (rest := []) E hW (c_X11_worstOf_u l G cI cJ cZ cD cR cT kp L f31376 hW.2.2.2 _ h0 x31379 u1 y31352 rh0 (by omega)) rh0 (by decide) rfl wk_X11_worstOf tw_1281 rfl ⟨Nat.le_of_ble_eq_true rfl, Nat.le_of_ble_eq_true rfl⟩ ⟨rfl, rfl⟩ hl.1 rfl (Nat.le_of_ble_eq_true rfl) dX11_choose_75 ⟨Nat.le_of_ble_eq_true rfl, Nat.le_of_ble_eq_true rfl⟩ (fun v31382 f31383 H locs q31384 hW => ?_)
                      obtain ⟨⟨x31387, rfl, p31388⟩, g31385, h31386⟩ := q31384
                      have hF := FM.tr hF g31385 rfl
                      have z31390 : WU kp L [N10, N101, N103, N104, N106, N15, N154, N155] f0 f31383 := wu_call z31381 h31386 (by rw [((fm_R g31378 rh0 rfl).trans ((fm_R g31370 rh0 rfl).trans m31347)), ((fm_R g31378 rN1 rfl).trans ((fm_R g31370 rN1 rfl).trans m31339)), ((fm_R g31378 rN1 rfl).trans ((fm_R g31370 rN1 rfl).trans m31340)), ((fm_R g31378 rN10 rfl).trans ((fm_R g31370 rN10 rfl).trans m31341)), ((fm_R g31378 rN10 rfl).trans ((fm_R g31370 rN10 rfl).trans m31342)), ((fm_R g31378 rN10 rfl).trans ((fm_R g31370 rN10 rfl).trans m31343)), ((fm_R g31378 rN10 rfl).trans ((fm_R g31370 rN10 rfl).trans m31344)), ((fm_R g31378 rN15 rfl).trans ((fm_R g31370 rN15 rfl).trans m31345)), ((fm_R g31378 rN15 rfl).trans ((fm_R g31370 rN15 rfl).trans m31346))]; intro q h; simp only [List.mem_cons, List.not_mem_nil, or_false] at h ⊢; omega)
                      refine lv_istore (lv' := [(7, .int x31387), (6, .int x31379), (5, .int y31349), (4, .int y27461), (3, .int y31351), (2, .int y31352), (0, .ref h0), (1, .int u1)]) hx hb dX11_choose_78 hl (by decide) rfl (fun ls hl => ?_)
                      refine lv_iload hx hb dX11_choose_80 (lv_at hl 0 rfl) ?_
                      refine lv_iload_n hx hb dX11_choose_82 rfl (lv_at hl 5 rfl) ?_
                      refine q_icmp_ge (tgt := 92) hx hb dX11_choose_83 (by decide) rfl rfl (fun c31391 => ?_) (fun c31391 => ?_)
                      · refine q_iinc hx hb dX11_choose_92 hl (k := 2) rfl rfl rfl (by omega) (by decide) (fun i31392 ls h31393 hl => ?_)
                        have hl : lv_has ls 8 [(5, .int i31392), (7, .int x31387), (6, .int x31379), (4, .int y27461), (3, .int y31351), (2, .int y31352), (0, .ref h0), (1, .int u1)] := hl
                        refine lv_goto (tgt := 34) hx hb dX11_choose_95 (by decide) ?_
                        exact ih34 f31383 i31392 y31351 y31352 ((fm_R g31385 rN1 rfl).trans ((fm_R g31378 rN1 rfl).trans ((fm_R g31370 rN1 rfl).trans m31339))) ((fm_R g31385 rN1 rfl).trans ((fm_R g31378 rN1 rfl).trans ((fm_R g31370 rN1 rfl).trans m31340))) ((fm_R g31385 rN10 rfl).trans ((fm_R g31378 rN10 rfl).trans ((fm_R g31370 rN10 rfl).trans m31341))) ((fm_R g31385 rN10 rfl).trans ((fm_R g31378 rN10 rfl).trans ((fm_R g31370 rN10 rfl).trans m31342))) ((fm_R g31385 rN10 rfl).trans ((fm_R g31378 rN10 rfl).trans ((fm_R g31370 rN10 rfl).trans m31343))) ((fm_R g31385 rN10 rfl).trans ((fm_R g31378 rN10 rfl).trans ((fm_R g31370 rN10 rfl).trans m31344))) ((fm_R g31385 rN15 rfl).trans ((fm_R g31378 rN15 rfl).trans ((fm_R g31370 rN15 rfl).trans m31345))) ((fm_R g31385 rN15 rfl).trans ((fm_R g31378 rN15 rfl).trans ((fm_R g31370 rN15 rfl).trans m31346))) ((fm_R g31385 rh0 rfl).trans ((fm_R g31378 rh0 rfl).trans ((fm_R g31370 rh0 rfl).trans m31347))) ((fm_I g31385 rh0 rfl).trans ((fm_I g31378 rh0 rfl).trans ((fm_I g31370 rh0 rfl).trans m31357))) (by omega) (by omega) z31390 (by omega) _ _ _ hW hF (lv_sub hl [0, 3, 4, 5, 6, 7] rfl)
                      · refine lv_iload hx hb dX11_choose_86 (lv_at hl 0 rfl) ?_
                        refine lv_istore_n (lv' := [(2, .int x31387), (7, .int x31387), (6, .int x31379), (5, .int y31349), (4, .int y27461), (3, .int y31351), (0, .ref h0), (1, .int u1)]) hx hb dX11_choose_88 rfl hl (by decide) rfl (fun ls hl => ?_)
                        refine lv_iload hx hb dX11_choose_89 (lv_at hl 2 rfl) ?_
                        refine lv_istore_n (lv' := [(3, .int x31379), (2, .int x31387), (7, .int x31387), (6, .int x31379), (5, .int y31349), (4, .int y27461), (0, .ref h0), (1, .int u1)]) hx hb dX11_choose_91 rfl hl (by decide) rfl (fun ls hl => ?_)
                        refine q_iinc hx hb dX11_choose_92 hl (k := 4) rfl rfl rfl (by omega) (by decide) (fun i31394 ls h31395 hl => ?_)
                        have hl : lv_has ls 8 [(5, .int i31394), (3, .int x31379), (2, .int x31387), (7, .int x31387), (6, .int x31379), (4, .int y27461), (0, .ref h0), (1, .int u1)] := hl
                        refine lv_goto (tgt := 34) hx hb dX11_choose_95 (by decide) ?_
                        exact ih34 f31383 i31394 x31379 x31387 ((fm_R g31385 rN1 rfl).trans ((fm_R g31378 rN1 rfl).trans ((fm_R g31370 rN1 rfl).trans m31339))) ((fm_R g31385 rN1 rfl).trans ((fm_R g31378 rN1 rfl).trans ((fm_R g31370 rN1 rfl).trans m31340))) ((fm_R g31385 rN10 rfl).trans ((fm_R g31378 rN10 rfl).trans ((fm_R g31370 rN10 rfl).trans m31341))) ((fm_R g31385 rN10 rfl).trans ((fm_R g31378 rN10 rfl).trans ((fm_R g31370 rN10 rfl).trans m31342))) ((fm_R g31385 rN10 rfl).trans ((fm_R g31378 rN10 rfl).trans ((fm_R g31370 rN10 rfl).trans m31343))) ((fm_R g31385 rN10 rfl).trans ((fm_R g31378 rN10 rfl).trans ((fm_R g31370 rN10 rfl).trans m31344))) ((fm_R g31385 rN15 rfl).trans ((fm_R g31378 rN15 rfl).trans ((fm_R g31370 rN15 rfl).trans m31345))) ((fm_R g31385 rN15 rfl).trans ((fm_R g31378 rN15 rfl).trans ((fm_R g31370 rN15 rfl).trans m31346))) ((fm_R g31385 rh0 rfl).trans ((fm_R g31378 rh0 rfl).trans ((fm_R g31370 rh0 rfl).trans m31347))) ((fm_I g31385 rh0 rfl).trans ((fm_I g31378 rh0 rfl).trans ((fm_I g31370 rh0 rfl).trans m31357))) (by omega) (by omega) z31390 (by omega) _ _ _ hW hF (lv_sub hl [0, 5, 1, 2, 6, 7] rfl)
                    · refine lv_goto (tgt := 92) hx hb dX11_choose_59 (by decide) ?_
                      refine q_iinc hx hb dX11_choose_92 hl (k := 0) rfl rfl rfl (by omega) (by decide) (fun i31396 ls h31397 hl => ?_)
                      have hl : lv_has ls 8 [(5, .int i31396), (4, .int y27461), (3, .int y31351), (2, .int y31352), (0, .ref h0), (1, .int u1)] := hl
                      refine lv_goto (tgt := 34) hx hb dX11_choose_95 (by decide) ?_
                      exact ih34 f31368 i31396 y31351 y31352 ((fm_R g31370 rN1 rfl).trans m31339) ((fm_R g31370 rN1 rfl).trans m31340) ((fm_R g31370 rN10 rfl).trans m31341) ((fm_R g31370 rN10 rfl).trans m31342) ((fm_R g31370 rN10 rfl).trans m31343) ((fm_R g31370 rN10 rfl).trans m31344) ((fm_R g31370 rN15 rfl).trans m31345) ((fm_R g31370 rN15 rfl).trans m31346) ((fm_R g31370 rh0 rfl).trans m31347) ((fm_I g31370 rh0 rfl).trans m31357) (by omega) (by omega) z31373 (by omega) _ _ _ hW hF (lv_sub hl [0, 1, 2, 3, 4, 5] rfl)
            have hk31398 : (0 : Int32).toInt = 0 := rfl
            exact L31355 2147483648 f27451 0 y27463 y27464 m27452 m27453 m27454 m27455 m27456 m27457 m27458 m27459 m27460 m27469 (by decide) (by omega) z27466 (by omega) _ _ _ hW hF (lv_sub hl [0, 1, 2, 3, 4, 5] rfl)
    have hk31399 : (0 : Int32).toInt = 0 := rfl
    have hk31400 : (0 : Int32).toInt = 0 := rfl
    have hk31401 : (41 : Int32).toInt = 41 := rfl
    exact L27467 8 f2 0 0 41 ((fm_R g4 rN1 rfl).trans mN10) ((fm_R g4 rN1 rfl).trans mN15) ((fm_R g4 rN10 rfl).trans mN101) ((fm_R g4 rN10 rfl).trans mN103) ((fm_R g4 rN10 rfl).trans mN104) ((fm_R g4 rN10 rfl).trans mN106) ((fm_R g4 rN15 rfl).trans mN154) ((fm_R g4 rN15 rfl).trans mN155) ((fm_R g4 rh0 rfl).trans mN1) (by decide) (by decide) z7 (by omega) _ _ _ hW hF (lv_sub hl [0, 1, 2, 3, 4] rfl)
  · refine lv_iconst (v := (-1)) hx hb dX11_choose_8 (by decide) ?_
    exact e_I E hW rfl ⟨⟨_, rfl, (by have hk : ((-1) : Int32).toInt = -1 := rfl; first | decide | omega)⟩, hF, (by rw [mN1, mN10, mN15, mN101, mN103, mN104, mN106, mN154, mN155]; exact z7)⟩ dX11_choose_9
def ms_X11_judge_u : List (Nat × Nat) := [(0, 6), (0, 9), (0, 10), (0, 11), (0, 12), (0, 13), (0, 14), (1, 0), (1, 8), (1, 12), (1, 13), (1, 14), (2, 0), (3, 0), (3, 1), (3, 2), (3, 3), (4, 0), (10, 0), (10, 7), (108, 0), (115, 0), (161, 0), (162, 0), (163, 0), (164, 0), (165, 0), (166, 0), (167, 0), (169, 0), (170, 0), (171, 0), (221, 0), (222, 0), (223, 0), (284, 0), (285, 0), (341, 0), (342, 0), (343, 0), (344, 0), (345, 0), (346, 0), (347, 0), (348, 0), (349, 0), (520, 0), (521, 0), (701, 0), (702, 0), (703, 0), (704, 0), (705, 0), (706, 0), (708, 0), (709, 0), (710, 0)]
def po_X11_judge_u (kp : Nat → Nat) (L : List Nat) (f0 : Nat → va_E) (h0 : Nat) (u1 : Int32) (u2 : Int32) : Option Value → (Nat → va_E) → Prop := fun v f => (∃ r : Int32, v = some (.int r) ∧ ((-1 : Int) ≤ r.toInt)) ∧ FM kp L ms_X11_judge_u f0 f ∧ (WU kp L [(oR (f0 (oR (f0 h0) 1)) 0), (oR (f0 (oR (f0 (oR (f0 h0) 1)) 0)) 1), (oR (f0 (oR (f0 (oR (f0 h0) 1)) 0)) 3), (oR (f0 (oR (f0 (oR (f0 h0) 1)) 0)) 4), (oR (f0 (oR (f0 (oR (f0 h0) 1)) 0)) 6), (oR (f0 (oR (f0 h0) 1)) 5), (oR (f0 (oR (f0 (oR (f0 h0) 1)) 5)) 4), (oR (f0 (oR (f0 (oR (f0 h0) 1)) 5)) 5)] f0 f)
set_option maxHeartbeats 4000000 in
set_option maxRecDepth 100000 in
theorem c_X11_judge_u (l : Launch) (G : va_G) (cI cJ cZ cD cR cT : ClassId) (kp : Nat → Nat) (L : List Nat) (f0 : Nat → va_E) (hTH : TH cI cJ cZ cD cR cT kp L f0) (sz : Nat) (h0 : Nat) (u1 : Int32) (u2 : Int32) (rh0 : RK kp L h0 11) : Met l yX11_judge (Cond.code yX11_judge cX11_judge 3 (some .int) :: wTab) ({ frames := 8, cells := 0, slots := 0, locals := 217 }) (va_Pc [.ref h0, .int u1, .int u2] (PreW G (tys6 cI cJ cZ cD cR cT) (va_pl L f0) sz)) (QT (po_X11_judge_u kp L f0 h0 u1 u2) G cI cJ cZ cD cR cT (va_A (va_pl L f0) sz) kp L) 0 0 (va_A (va_pl L f0) sz) := by
  refine metT (by decide) (Nat.le_of_ble_eq_true rfl) hTH ?_
  intro p e s m below meth c A ls E hW hl
  obtain ⟨hx, hb, -, hml, hown, hts, -, -, -⟩ := id E
  have hF : FM kp L ms_X11_judge_u f0 f0 := FM.rf
  have hl : lv_has ls 3 [(0, .ref h0), (1, .int u1), (2, .int u2)] := hl
  obtain ⟨N1, mN1⟩ : ∃ x : Nat, oR (f0 h0) 1 = x := ⟨_, rfl⟩
  have rN1 : RK kp L N1 0 := by rw [← mN1]; exact th_ref hTH rh0 (by decide) (by decide) rfl
  obtain ⟨N10, mN10⟩ : ∃ x : Nat, oR (f0 N1) 0 = x := ⟨_, rfl⟩
  have rN10 : RK kp L N10 4 := by rw [← mN10]; exact th_ref hTH rN1 (by decide) (by decide) rfl
  obtain ⟨N15, mN15⟩ : ∃ x : Nat, oR (f0 N1) 5 = x := ⟨_, rfl⟩
  have rN15 : RK kp L N15 3 := by rw [← mN15]; exact th_ref hTH rN1 (by decide) (by decide) rfl
  obtain ⟨N101, mN101⟩ : ∃ x : Nat, oR (f0 N10) 1 = x := ⟨_, rfl⟩
  have rN101 : RK kp L N101 341 := by rw [← mN101]; exact th_ref hTH rN10 (by decide) (by decide) rfl
  obtain ⟨N103, mN103⟩ : ∃ x : Nat, oR (f0 N10) 3 = x := ⟨_, rfl⟩
  have rN103 : RK kp L N103 343 := by rw [← mN103]; exact th_ref hTH rN10 (by decide) (by decide) rfl
  obtain ⟨N104, mN104⟩ : ∃ x : Nat, oR (f0 N10) 4 = x := ⟨_, rfl⟩
  have rN104 : RK kp L N104 344 := by rw [← mN104]; exact th_ref hTH rN10 (by decide) (by decide) rfl
  obtain ⟨N106, mN106⟩ : ∃ x : Nat, oR (f0 N10) 6 = x := ⟨_, rfl⟩
  have rN106 : RK kp L N106 346 := by rw [← mN106]; exact th_ref hTH rN10 (by decide) (by decide) rfl
  obtain ⟨N154, mN154⟩ : ∃ x : Nat, oR (f0 N15) 4 = x := ⟨_, rfl⟩
  have rN154 : RK kp L N154 284 := by rw [← mN154]; exact th_ref hTH rN15 (by decide) (by decide) rfl
  obtain ⟨N155, mN155⟩ : ∃ x : Nat, oR (f0 N15) 5 = x := ⟨_, rfl⟩
  have rN155 : RK kp L N155 285 := by rw [← mN155]; exact th_ref hTH rN15 (by decide) (by decide) rfl
  refine lv_aload_n hx hb dX11_judge_0 rfl (lv_at hl 0 rfl) ?_
  refine lv_iload_n hx hb dX11_judge_1 rfl (lv_at hl 2 rfl) ?_
  have hW0 := hW.2.2.2
  refine t_callV (As := [.int u2]) (rest := []) E hW (c_X11_canChoose l G cI cJ cZ cD cR cT kp L f0 hW.2.2.2 _ h0 u2 rh0) rh0 (by decide) rfl wk_X11_canChoose tw_1272 rfl ⟨Nat.le_of_ble_eq_true rfl, Nat.le_of_ble_eq_true rfl⟩ ⟨rfl, rfl⟩ hl.1 rfl (Nat.le_of_ble_eq_true rfl) dX11_judge_2 ⟨Nat.le_of_ble_eq_true rfl, Nat.le_of_ble_eq_true rfl⟩ (fun v1 f2 H locs q3 hW => ?_)
  obtain ⟨⟨x5, rfl, p6⟩, g4⟩ := q3
  have z7 : WU kp L [N10, N101, N103, N104, N106, N15, N154, N155] f0 f2 := wu_fm (wu_rf : WU kp L [N10, N101, N103, N104, N106, N15, N154, N155] f0 f0) g4 rfl
  have hF := FM.tr hF g4 rfl
  refine q_if_eq (tgt := 24) hx hb dX11_judge_5 (by decide) rfl (fun c8 => ?_) (fun c8 => ?_)
  · refine lv_iconst (v := (-1)) hx hb dX11_judge_24 (by decide) ?_
    exact e_I E hW rfl ⟨⟨_, rfl, (by have hk : ((-1) : Int32).toInt = -1 := rfl; first | decide | omega)⟩, hF, (by rw [mN1, mN10, mN15, mN101, mN103, mN104, mN106, mN154, mN155]; exact z7)⟩ dX11_judge_25
  · refine lv_iload_n hx hb dX11_judge_8 rfl (lv_at hl 1 rfl) ?_
    refine lv_iconst (v := 0) hx hb dX11_judge_9 (by decide) ?_
    refine lv_iconst (v := 1) hx hb dX11_judge_10 (by decide) ?_
    refine lv_aload_n hx hb dX11_judge_11 rfl (lv_at hl 0 rfl) ?_
    refine fg_RX11_309 E hW rh0 dX11_judge_12 (fun y9 m10 b11 => ?_)
    refine u_ishl hx hb dX11_judge_15 (fun x12 => ?_)
    refine lv_iconst (v := 1) hx hb dX11_judge_16 (by decide) ?_
    refine u_isub hx hb dX11_judge_17 (fun x13 => ?_)
    have hW0 := hW.2.2.2
    refine t_callS (As := [.int u1, .int 0, .int x13]) (rest := []) E hW (c_X11_within l G cI cJ cZ cD cR cT kp L f2 hW.2.2.2 _ u1 0 x13 (by decide)) wk_X11_within tw_599 rfl ⟨Nat.le_of_ble_eq_true rfl, Nat.le_of_ble_eq_true rfl⟩ ⟨rfl, rfl⟩ hl.1 rfl (Nat.le_of_ble_eq_true rfl) dX11_judge_18 ⟨Nat.le_of_ble_eq_true rfl, Nat.le_of_ble_eq_true rfl⟩ (fun v14 f15 H locs q16 hW => ?_)
    obtain ⟨⟨x18, rfl, p19⟩, g17⟩ := q16
    have p19 : (x18.toInt = 1 ∧ (0 : Int) ≤ u1.toInt ∧ u1.toInt ≤ x13.toInt) ∨ (x18.toInt = 0 ∧ (u1.toInt < (0 : Int) ∨ x13.toInt < u1.toInt)) := p19
    have z20 : WU kp L [N10, N101, N103, N104, N106, N15, N154, N155] f0 f15 := wu_fm z7 g17 rfl
    have hF := FM.tr hF g17 rfl
    refine q_if_ne (tgt := 26) hx hb dX11_judge_21 (by decide) rfl (fun c21 => ?_) (fun c21 => ?_)
    · have q22 : (0 : Int) ≤ u1.toInt ∧ u1.toInt ≤ x13.toInt := by omega
      clear p19
      refine lv_aload_n hx hb dX11_judge_26 rfl (lv_at hl 0 rfl) ?_
      refine lv_iload_n hx hb dX11_judge_27 rfl (lv_at hl 1 rfl) ?_
      refine lv_iload_n hx hb dX11_judge_28 rfl (lv_at hl 2 rfl) ?_
      refine lv_bipush (v := 41) hx hb dX11_judge_29 (by decide) ?_
      have hW0 := hW.2.2.2
      refine t_callV (As := [.int u1, .int u2, .int 41]) (rest := []) E hW (c_X11_worstOf_u l G cI cJ cZ cD cR cT kp L f15 hW.2.2.2 _ h0 u1 u2 41 rh0 (by decide)) rh0 (by decide) rfl wk_X11_worstOf tw_1281 rfl ⟨Nat.le_of_ble_eq_true rfl, Nat.le_of_ble_eq_true rfl⟩ ⟨rfl, rfl⟩ hl.1 rfl (Nat.le_of_ble_eq_true rfl) dX11_judge_31 ⟨Nat.le_of_ble_eq_true rfl, Nat.le_of_ble_eq_true rfl⟩ (fun v23 f24 H locs q25 hW => ?_)
      obtain ⟨⟨x28, rfl, p29⟩, g26, h27⟩ := q25
      have p29 : (0 : Int) ≤ x28.toInt := p29
      have hF := FM.tr hF g26 rfl
      have z31 : WU kp L [N10, N101, N103, N104, N106, N15, N154, N155] f0 f24 := wu_call z20 h27 (by rw [((fm_R g17 rh0 rfl).trans ((fm_R g4 rh0 rfl).trans mN1)), ((fm_R g17 rN1 rfl).trans ((fm_R g4 rN1 rfl).trans mN10)), ((fm_R g17 rN1 rfl).trans ((fm_R g4 rN1 rfl).trans mN15)), ((fm_R g17 rN10 rfl).trans ((fm_R g4 rN10 rfl).trans mN101)), ((fm_R g17 rN10 rfl).trans ((fm_R g4 rN10 rfl).trans mN103)), ((fm_R g17 rN10 rfl).trans ((fm_R g4 rN10 rfl).trans mN104)), ((fm_R g17 rN10 rfl).trans ((fm_R g4 rN10 rfl).trans mN106)), ((fm_R g17 rN15 rfl).trans ((fm_R g4 rN15 rfl).trans mN154)), ((fm_R g17 rN15 rfl).trans ((fm_R g4 rN15 rfl).trans mN155))]; intro q h; simp only [List.mem_cons, List.not_mem_nil, or_false] at h ⊢; omega)
      exact e_I E hW rfl ⟨⟨_, rfl, (by first | omega | trivial)⟩, hF, (by rw [mN1, mN10, mN15, mN101, mN103, mN104, mN106, mN154, mN155]; exact z31)⟩ dX11_judge_34
    · have q32 : (u1.toInt < (0 : Int) ∨ x13.toInt < u1.toInt) := by omega
      clear p19
      refine lv_iconst (v := (-1)) hx hb dX11_judge_24 (by decide) ?_
      exact e_I E hW rfl ⟨⟨_, rfl, (by have hk : ((-1) : Int32).toInt = -1 := rfl; first | decide | omega)⟩, hF, (by rw [mN1, mN10, mN15, mN101, mN103, mN104, mN106, mN154, mN155]; exact z20)⟩ dX11_judge_25
def rw_X12_gets_u : List (Nat × Nat) := [(21, 333)]
def ms_X12_gets_u : List (Nat × Nat) := [(822, 0)]
def po_X12_gets_u (kp : Nat → Nat) (L : List Nat) (f0 : Nat → va_E) (h0 : Nat) (u1 : Int32) (u2 : Int64) : Option Value → (Nat → va_E) → Prop := fun v f => v = none ∧ FM kp L ms_X12_gets_u f0 f ∧ (RP (aI (f (oR (f0 h0) 2))) 0 = RP (aI (f0 (oR (f0 h0) 2))) 0) ∧ (RF rw_X12_gets_u f0 f h0)
set_option maxHeartbeats 4000000 in
set_option maxRecDepth 100000 in
theorem c_X12_gets_u (l : Launch) (G : va_G) (cI cJ cZ cD cR cT : ClassId) (kp : Nat → Nat) (L : List Nat) (f0 : Nat → va_E) (hTH : TH cI cJ cZ cD cR cT kp L f0) (sz : Nat) (h0 : Nat) (u1 : Int32) (u2 : Int64) (rh0 : RK kp L h0 12) (pu1 : (0 : Int) ≤ u1.toInt ∧ u1.toInt ≤ 39) : Met l yX12_gets (Cond.code yX12_gets cX12_gets 5 none :: wTab) ({ frames := 2, cells := 0, slots := 0, locals := 60 }) (va_Pc [.ref h0, .int u1, .long u2] (PreW G (tys6 cI cJ cZ cD cR cT) (va_pl L f0) sz)) (QT (po_X12_gets_u kp L f0 h0 u1 u2) G cI cJ cZ cD cR cT (va_A (va_pl L f0) sz) kp L) 0 0 (va_A (va_pl L f0) sz) := by
  refine metT (by decide) (Nat.le_of_ble_eq_true rfl) hTH ?_
  intro p e s m below meth c A ls E hW hl
  obtain ⟨hx, hb, -, hml, hown, hts, -, -, -⟩ := id E
  have hF : FM kp L ms_X12_gets_u f0 f0 := FM.rf
  have hl : lv_has ls 5 [(0, .ref h0), (1, .int u1), (2, .long u2)] := hl
  obtain ⟨pR, mR⟩ : ∃ x : Nat, oR (f0 h0) 2 = x := ⟨_, rfl⟩
  have rR : RK kp L pR 822 := by rw [← mR]; exact th_ref hTH rh0 (by decide) (by decide) rfl
  refine lv_iload_n hx hb dX12_gets_0 rfl (lv_at hl 1 rfl) ?_
  have hW0 := hW.2.2.2
  refine t_callS (As := [.int u1]) (rest := []) E hW (c_X12_personAt l G cI cJ cZ cD cR cT kp L f0 hW.2.2.2 _ u1 (by omega)) wk_X12_personAt tw_1572 rfl ⟨Nat.le_of_ble_eq_true rfl, Nat.le_of_ble_eq_true rfl⟩ ⟨rfl, rfl⟩ hl.1 rfl (Nat.le_of_ble_eq_true rfl) dX12_gets_1 ⟨Nat.le_of_ble_eq_true rfl, Nat.le_of_ble_eq_true rfl⟩ (fun v1 f2 H locs q3 hW => ?_)
  obtain ⟨⟨x5, rfl, p6⟩, g4⟩ := q3
  have z7 : RP (aI (f2 pR)) 0 = RP (aI (f0 pR)) 0 := rp_fm (rfl : RP (aI (f0 pR)) 0 = RP (aI (f0 pR)) 0) g4 rR rfl
  have z8 : RF rw_X12_gets_u f0 f2 h0 := rf_fm hTH rf_rf g4 rh0 rfl
  have hF := FM.tr hF g4 rfl
  refine lv_iconst (v := 1) hx hb dX12_gets_4 (by decide) ?_
  refine q_iadd (Y := 1) hx hb dX12_gets_5 rfl rfl (by omega) (fun x9 h10 => ?_)
  refine lv_istore (lv' := [(4, .int x9), (0, .ref h0), (1, .int u1), (2, .long u2)]) hx hb dX12_gets_6 hl (by decide) rfl (fun ls hl => ?_)
  refine lv_aload_n hx hb dX12_gets_8 rfl (lv_at hl 1 rfl) ?_
  refine fg_RX12_8 E hW rh0 dX12_gets_9 (fun a11 m12 r13 => ?_)
  obtain rfl : pR = a11 := (((fm_R g4 rh0 rfl).trans mR)).symm.trans m12
  refine lv_iload hx hb dX12_gets_12 (lv_at hl 0 rfl) ?_
  refine gl_822 E hW rR ⟨by omega, by omega⟩ dX12_gets_14 (fun y14 m15 b16 => ?_)
  refine lv_ldc (v := 10000000) hx hb hown (hts _ tw_1600) dX12_gets_15 ?_
  have J59 : ∀ (f55 : Nat → va_E) (m56 : oR (f55 h0) 2 = pR) (z57 : RF rw_X12_gets_u f0 f55 h0) (z58 : RP (aI (f55 pR)) 0 = RP (aI (f0 pR)) 0) (H : Heap) (locs : List Loc) (ls : Array Slot), WS G cI cJ cZ cD cR cT A kp L f55 s H locs → FM kp L ms_X12_gets_u f0 f55 → lv_has ls 5 [(4, .int x9), (0, .ref h0), (1, .int u1), (2, .long u2)] → W p l e ({ frames := 2, cells := 0, slots := 0, locals := 60 }) s m ([.ref h0, .int u1, .long u2] : List Value).toArray below meth c H locs 0 0 (MQ below (QT (po_X12_gets_u kp L f0 h0 u1 u2) G cI cJ cZ cD cR cT A kp L) ([.ref h0, .int u1, .long u2] : List Value).toArray s 0 0 A) (F0 m 59 ls []) := by
    intro f55 m56 z57 z58 H locs ls hW hF hl
    exact e_V E hW rfl ⟨rfl, hF, (by rw [mR]; exact z58), z57⟩ dX12_gets_59
  refine q_icmp_ge (Y := 10000000) (tgt := 59) hx hb dX12_gets_17 (by decide) rfl rfl (fun c60 => ?_) (fun c60 => ?_)
  · exact J59 f2 m12 z8 z7 _ _ _ hW hF (lv_sub hl [0, 1, 2, 3] rfl)
  · refine lv_aload_n hx hb dX12_gets_20 rfl (lv_at hl 1 rfl) ?_
    refine fg_RX12_8 E hW rh0 dX12_gets_21 (fun a61 m62 r63 => ?_)
    obtain rfl : pR = a61 := (m12).symm.trans m62
    refine lv_iload hx hb dX12_gets_24 (lv_at hl 0 rfl) ?_
    refine lv_aload_n hx hb dX12_gets_26 rfl (lv_at hl 1 rfl) ?_
    refine fg_RX12_8 E hW rh0 dX12_gets_27 (fun a64 m65 r66 => ?_)
    obtain rfl : pR = a64 := (m62).symm.trans m65
    refine lv_iload hx hb dX12_gets_30 (lv_at hl 0 rfl) ?_
    refine gl_822 E hW rR ⟨by omega, by omega⟩ dX12_gets_32 (fun y67 m68 b69 => ?_)
    obtain rfl : y14 = y67 := (m15).symm.trans m68
    refine q_i2l hx hb dX12_gets_33 rfl (fun x70 h71 => ?_)
    have hb72 : -2147483648 ≤ x70.toInt ∧ x70.toInt ≤ 2147483647 := by have := i32_b y14; omega
    refine lv_lload_n hx hb dX12_gets_34 rfl (lv_at hl 3 rfl) ?_
    refine u_ladd hx hb dX12_gets_35 (fun x73 => ?_)
    refine lv_ldc2 (v := 10000000) hx hb hown (hts _ tw_1601) dX12_gets_36 ?_
    have J83 : ∀ (y82 : Int32) (H : Heap) (locs : List Loc) (ls : Array Slot), WS G cI cJ cZ cD cR cT A kp L f2 s H locs → FM kp L ms_X12_gets_u f0 f2 → lv_has ls 5 [(4, .int x9), (0, .ref h0), (1, .int u1), (2, .long u2)] → W p l e ({ frames := 2, cells := 0, slots := 0, locals := 60 }) s m ([.ref h0, .int u1, .long u2] : List Value).toArray below meth c H locs 0 0 (MQ below (QT (po_X12_gets_u kp L f0 h0 u1 u2) G cI cJ cZ cD cR cT A kp L) ([.ref h0, .int u1, .long u2] : List Value).toArray s 0 0 A) (F0 m 58 ls [.int y82, .int x9, .ref pR]) := by
      intro y82 H locs ls hW hF hl
      have hW0 := hW.2.2.2
      refine gs_822 E hW rR ⟨by omega, by omega⟩ (fun hc => rr_up hc (by omega) (by omega) (by unfold rbI; omega)) dX12_gets_58 (fun f84 H locs e85 n86 g87 hW => ?_)
      have z88 : RP (aI (f84 pR)) 0 = RP (aI (f0 pR)) 0 := rp_st z7 e85 (by omega) (by omega)
      have z89 : RF rw_X12_gets_u f0 f84 h0 := rf_st (lo := 21) (hi := 333) z8 mR e85 (by omega) rfl
      have hF := FM.tr hF g87 rfl
      exact J59 f84 ((fm_R g87 rh0 rfl).trans m65) z89 z88 _ _ _ hW hF (lv_sub hl [0, 1, 2, 3] rfl)
    refine q_lcmp_le (Y := 10000000) (tgt := 48) hx hb dX12_gets_39 dX12_gets_40 (by decide) rfl rfl (fun c90 => ?_) (fun c90 => ?_)
    · refine lv_aload_n hx hb dX12_gets_48 rfl (lv_at hl 1 rfl) ?_
      refine fg_RX12_8 E hW rh0 dX12_gets_49 (fun a91 m92 r93 => ?_)
      obtain rfl : pR = a91 := (m65).symm.trans m92
      refine lv_iload hx hb dX12_gets_52 (lv_at hl 0 rfl) ?_
      refine gl_822 E hW rR ⟨by omega, by omega⟩ dX12_gets_54 (fun y94 m95 b96 => ?_)
      obtain rfl : y14 = y94 := (m68).symm.trans m95
      refine lv_lload_n hx hb dX12_gets_55 rfl (lv_at hl 3 rfl) ?_
      refine u_l2i hx hb dX12_gets_56 (fun x97 => ?_)
      refine u_iadd hx hb dX12_gets_57 (fun x98 => ?_)
      exact J83 x98  _ _ _ hW hF (lv_sub hl [0, 1, 2, 3] rfl)
    · refine lv_ldc (v := 10000000) hx hb hown (hts _ tw_1600) dX12_gets_43 ?_
      refine lv_goto (tgt := 58) hx hb dX12_gets_45 (by decide) ?_
      exact J83 10000000  _ _ _ hW hF (lv_sub hl [0, 1, 2, 3] rfl)
def rw_X12_coin_u : List (Nat × Nat) := [(21, 333)]
def ms_X12_coin_u : List (Nat × Nat) := [(12, 0), (12, 1), (822, 0)]
def po_X12_coin_u (kp : Nat → Nat) (L : List Nat) (f0 : Nat → va_E) (h0 : Nat) (u1 : Int32) (u2 : Int32) : Option Value → (Nat → va_E) → Prop := fun v f => (∃ r : Int32, v = some (.int r) ∧ (True)) ∧ FM kp L ms_X12_coin_u f0 f ∧ (RP (aI (f (oR (f0 h0) 2))) 0 = RP (aI (f0 (oR (f0 h0) 2))) 0) ∧ (RF rw_X12_coin_u f0 f h0)
set_option maxHeartbeats 4000000 in
set_option maxRecDepth 100000 in
theorem c_X12_coin_u (l : Launch) (G : va_G) (cI cJ cZ cD cR cT : ClassId) (kp : Nat → Nat) (L : List Nat) (f0 : Nat → va_E) (hTH : TH cI cJ cZ cD cR cT kp L f0) (sz : Nat) (h0 : Nat) (u1 : Int32) (u2 : Int32) (rh0 : RK kp L h0 12) : Met l yX12_coin (Cond.code yX12_coin cX12_coin 3 (some .int) :: wTab) ({ frames := 3, cells := 0, slots := 0, locals := 86 }) (va_Pc [.ref h0, .int u1, .int u2] (PreW G (tys6 cI cJ cZ cD cR cT) (va_pl L f0) sz)) (QT (po_X12_coin_u kp L f0 h0 u1 u2) G cI cJ cZ cD cR cT (va_A (va_pl L f0) sz) kp L) 0 0 (va_A (va_pl L f0) sz) := by
  refine metT (by decide) (Nat.le_of_ble_eq_true rfl) hTH ?_
  intro p e s m below meth c A ls E hW hl
  obtain ⟨hx, hb, -, hml, hown, hts, -, -, -⟩ := id E
  have hF : FM kp L ms_X12_coin_u f0 f0 := FM.rf
  have hl : lv_has ls 3 [(0, .ref h0), (1, .int u1), (2, .int u2)] := hl
  obtain ⟨pR, mR⟩ : ∃ x : Nat, oR (f0 h0) 2 = x := ⟨_, rfl⟩
  have rR : RK kp L pR 822 := by rw [← mR]; exact th_ref hTH rh0 (by decide) (by decide) rfl
  refine lv_aload_n hx hb dX12_coin_0 rfl (lv_at hl 0 rfl) ?_
  refine lv_iconst (v := 0) hx hb dX12_coin_1 (by decide) ?_
  have hW0 := hW.2.2.2
  refine fp_RX12_82 E hW rh0 dX12_coin_2 (fun f1 H locs e2 n3 g4 hW => ?_)
  have z5 : RP (aI (f1 pR)) 0 = RP (aI (f0 pR)) 0 := rp_fm (rfl : RP (aI (f0 pR)) 0 = RP (aI (f0 pR)) 0) g4 rR rfl
  have z6 : RF rw_X12_coin_u f0 f1 h0 := rf_fm hTH rf_rf g4 rh0 rfl
  have hF := FM.tr hF g4 rfl
  refine lv_iload_n hx hb dX12_coin_5 rfl (lv_at hl 2 rfl) ?_
  refine q_i2l hx hb dX12_coin_6 rfl (fun x7 h8 => ?_)
  have hb9 : -2147483648 ≤ x7.toInt ∧ x7.toInt ≤ 2147483647 := by have := i32_b u2; omega
  refine lv_lconst (v := 0) hx hb dX12_coin_7 (by decide) ?_
  refine lv_ldc2 (v := 1000000) hx hb hown (hts _ tw_1570) dX12_coin_8 ?_
  have hW0 := hW.2.2.2
  refine t_callS (As := [.long x7, .long 0, .long 1000000]) (rest := []) E hW (c_X12_in l G cI cJ cZ cD cR cT kp L f1 hW.2.2.2 _ x7 0 1000000) wk_X12_in tw_1554 rfl ⟨Nat.le_of_ble_eq_true rfl, Nat.le_of_ble_eq_true rfl⟩ ⟨rfl, rfl⟩ hl.1 rfl (Nat.le_of_ble_eq_true rfl) dX12_coin_11 ⟨Nat.le_of_ble_eq_true rfl, Nat.le_of_ble_eq_true rfl⟩ (fun v10 f11 H locs q12 hW => ?_)
  obtain ⟨⟨x14, rfl, p15⟩, g13⟩ := q12
  have p15 : (x14.toInt = 1 ∧ (0 : Int) ≤ x7.toInt ∧ x7.toInt ≤ (1000000 : Int)) ∨ (x14.toInt = 0 ∧ (x7.toInt < (0 : Int) ∨ (1000000 : Int) < x7.toInt)) := p15
  have z16 : RP (aI (f11 pR)) 0 = RP (aI (f0 pR)) 0 := rp_fm z5 g13 rR rfl
  have z17 : RF rw_X12_coin_u f0 f11 h0 := rf_fm hTH z6 g13 rh0 rfl
  have hF := FM.tr hF g13 rfl
  refine q_if_ne (tgt := 23) hx hb dX12_coin_14 (by decide) rfl (fun c18 => ?_) (fun c18 => ?_)
  · have q19 : (0 : Int) ≤ x7.toInt ∧ x7.toInt ≤ (1000000 : Int) := by omega
    clear p15
    refine lv_aload_n hx hb dX12_coin_23 rfl (lv_at hl 0 rfl) ?_
    refine lv_iload_n hx hb dX12_coin_24 rfl (lv_at hl 1 rfl) ?_
    have hW0 := hW.2.2.2
    refine t_callV (As := [.int u1]) (rest := []) E hW (c_X12_isPerson l G cI cJ cZ cD cR cT kp L f11 hW.2.2.2 _ h0 u1 rh0) rh0 (by decide) rfl wk_X12_isPerson tw_1583 rfl ⟨Nat.le_of_ble_eq_true rfl, Nat.le_of_ble_eq_true rfl⟩ ⟨rfl, rfl⟩ hl.1 rfl (Nat.le_of_ble_eq_true rfl) dX12_coin_25 ⟨Nat.le_of_ble_eq_true rfl, Nat.le_of_ble_eq_true rfl⟩ (fun v20 f21 H locs q22 hW => ?_)
    obtain ⟨⟨x24, rfl, p25⟩, g23⟩ := q22
    have z26 : RP (aI (f21 pR)) 0 = RP (aI (f0 pR)) 0 := rp_fm z16 g23 rR rfl
    have z27 : RF rw_X12_coin_u f0 f21 h0 := rf_fm hTH z17 g23 rh0 rfl
    have hF := FM.tr hF g23 rfl
    refine q_if_ne (tgt := 38) hx hb dX12_coin_28 (by decide) rfl (fun c28 => ?_) (fun c28 => ?_)
    · have q29 : 0 ≤ u1.toInt ∧ u1.toInt ≤ 39 := by omega
      clear p25
      refine lv_aload_n hx hb dX12_coin_38 rfl (lv_at hl 0 rfl) ?_
      refine lv_iload_n hx hb dX12_coin_39 rfl (lv_at hl 1 rfl) ?_
      refine lv_iload_n hx hb dX12_coin_40 rfl (lv_at hl 2 rfl) ?_
      refine q_i2l hx hb dX12_coin_41 rfl (fun x30 h31 => ?_)
      have hW0 := hW.2.2.2
      refine t_callV (As := [.int u1, .long x30]) (rest := []) E hW (c_X12_gets_u l G cI cJ cZ cD cR cT kp L f21 hW.2.2.2 _ h0 u1 x30 rh0 (by omega)) rh0 (by decide) rfl wk_X12_gets tw_1596 rfl ⟨Nat.le_of_ble_eq_true rfl, Nat.le_of_ble_eq_true rfl⟩ ⟨rfl, rfl⟩ hl.1 rfl (Nat.le_of_ble_eq_true rfl) dX12_coin_42 ⟨Nat.le_of_ble_eq_true rfl, Nat.le_of_ble_eq_true rfl⟩ (fun v32 f33 H locs q34 hW => ?_)
      obtain ⟨rfl, g35, h36, h37⟩ := q34
      have z39 : RF rw_X12_coin_u f0 f33 h0 := rf_call z27 h37 mR ((fm_R g23 rh0 rfl).trans ((fm_R g13 rh0 rfl).trans ((fm_R g4 rh0 rfl).trans mR))) rfl
      have hF := FM.tr hF g35 rfl
      have z40 : RP (aI (f33 pR)) 0 = RP (aI (f0 pR)) 0 := rp_call z26 h36 ((fm_R g23 rh0 rfl).trans ((fm_R g13 rh0 rfl).trans ((fm_R g4 rh0 rfl).trans mR)))
      refine lv_aload_n hx hb dX12_coin_45 rfl (lv_at hl 0 rfl) ?_
      refine lv_aload_n hx hb dX12_coin_46 rfl (lv_at hl 0 rfl) ?_
      refine fg_RX12_8 E hW rh0 dX12_coin_47 (fun a41 m42 r43 => ?_)
      obtain rfl : pR = a41 := (((fm_R g35 rh0 rfl).trans ((fm_R g23 rh0 rfl).trans ((fm_R g13 rh0 rfl).trans ((fm_R g4 rh0 rfl).trans mR))))).symm.trans m42
      refine lv_iload_n hx hb dX12_coin_50 rfl (lv_at hl 1 rfl) ?_
      have hW0 := hW.2.2.2
      refine t_callS (As := [.int u1]) (rest := [.ref pR, .ref h0]) E hW (c_X12_personAt l G cI cJ cZ cD cR cT kp L f33 hW.2.2.2 _ u1 (by omega)) wk_X12_personAt tw_1572 rfl ⟨Nat.le_of_ble_eq_true rfl, Nat.le_of_ble_eq_true rfl⟩ ⟨rfl, rfl⟩ hl.1 rfl (Nat.le_of_ble_eq_true rfl) dX12_coin_51 ⟨Nat.le_of_ble_eq_true rfl, Nat.le_of_ble_eq_true rfl⟩ (fun v44 f45 H locs q46 hW => ?_)
      obtain ⟨⟨x48, rfl, p49⟩, g47⟩ := q46
      have z50 : RP (aI (f45 pR)) 0 = RP (aI (f0 pR)) 0 := rp_fm z40 g47 rR rfl
      have z51 : RF rw_X12_coin_u f0 f45 h0 := rf_fm hTH z39 g47 rh0 rfl
      have hF := FM.tr hF g47 rfl
      refine lv_iconst (v := 1) hx hb dX12_coin_54 (by decide) ?_
      refine q_iadd (Y := 1) hx hb dX12_coin_55 rfl rfl (by omega) (fun x52 h53 => ?_)
      refine gl_822 E hW rR ⟨by omega, by omega⟩ dX12_coin_56 (fun y54 m55 b56 => ?_)
      have hW0 := hW.2.2.2
      refine t_callV (As := [.int y54]) (rest := []) E hW (c_X12_told_x l G cI cJ cZ cD cR cT kp L f45 hW.2.2.2 _ h0 y54 rh0) rh0 (by decide) rfl wk_X12_told tw_1557 rfl ⟨Nat.le_of_ble_eq_true rfl, Nat.le_of_ble_eq_true rfl⟩ ⟨rfl, rfl⟩ hl.1 rfl (Nat.le_of_ble_eq_true rfl) dX12_coin_57 ⟨Nat.le_of_ble_eq_true rfl, Nat.le_of_ble_eq_true rfl⟩ (fun v57 f58 H locs q59 hW => ?_)
      obtain ⟨⟨x61, rfl, p62⟩, g60⟩ := q59
      have z63 : RP (aI (f58 pR)) 0 = RP (aI (f0 pR)) 0 := rp_fm z50 g60 rR rfl
      have z64 : RF rw_X12_coin_u f0 f58 h0 := rf_fm hTH z51 g60 rh0 rfl
      have hF := FM.tr hF g60 rfl
      exact e_I E hW rfl ⟨⟨_, rfl, trivial⟩, hF, (by rw [mR]; exact z63), z64⟩ dX12_coin_60
    · clear p25
      refine lv_aload_n hx hb dX12_coin_31 rfl (lv_at hl 0 rfl) ?_
      refine lv_bipush (v := (-2)) hx hb dX12_coin_32 (by decide) ?_
      have hW0 := hW.2.2.2
      refine t_callV (As := [.int (-2)]) (rest := []) E hW (c_X12_told_x l G cI cJ cZ cD cR cT kp L f21 hW.2.2.2 _ h0 (-2) rh0) rh0 (by decide) rfl wk_X12_told tw_1557 rfl ⟨Nat.le_of_ble_eq_true rfl, Nat.le_of_ble_eq_true rfl⟩ ⟨rfl, rfl⟩ hl.1 rfl (Nat.le_of_ble_eq_true rfl) dX12_coin_34 ⟨Nat.le_of_ble_eq_true rfl, Nat.le_of_ble_eq_true rfl⟩ (fun v65 f66 H locs q67 hW => ?_)
      obtain ⟨⟨x69, rfl, p70⟩, g68⟩ := q67
      have p70 : x69.toInt = (-2 : Int) := p70
      have z71 : RP (aI (f66 pR)) 0 = RP (aI (f0 pR)) 0 := rp_fm z26 g68 rR rfl
      have z72 : RF rw_X12_coin_u f0 f66 h0 := rf_fm hTH z27 g68 rh0 rfl
      have hF := FM.tr hF g68 rfl
      exact e_I E hW rfl ⟨⟨_, rfl, trivial⟩, hF, (by rw [mR]; exact z71), z72⟩ dX12_coin_37
  · have q73 : (x7.toInt < (0 : Int) ∨ (1000000 : Int) < x7.toInt) := by omega
    clear p15
    refine lv_aload_n hx hb dX12_coin_17 rfl (lv_at hl 0 rfl) ?_
    refine lv_iconst (v := (-1)) hx hb dX12_coin_18 (by decide) ?_
    have hW0 := hW.2.2.2
    refine t_callV (As := [.int (-1)]) (rest := []) E hW (c_X12_told_x l G cI cJ cZ cD cR cT kp L f11 hW.2.2.2 _ h0 (-1) rh0) rh0 (by decide) rfl wk_X12_told tw_1557 rfl ⟨Nat.le_of_ble_eq_true rfl, Nat.le_of_ble_eq_true rfl⟩ ⟨rfl, rfl⟩ hl.1 rfl (Nat.le_of_ble_eq_true rfl) dX12_coin_19 ⟨Nat.le_of_ble_eq_true rfl, Nat.le_of_ble_eq_true rfl⟩ (fun v74 f75 H locs q76 hW => ?_)
    obtain ⟨⟨x78, rfl, p79⟩, g77⟩ := q76
    have p79 : x78.toInt = (-1 : Int) := p79
    have z80 : RP (aI (f75 pR)) 0 = RP (aI (f0 pR)) 0 := rp_fm z16 g77 rR rfl
    have z81 : RF rw_X12_coin_u f0 f75 h0 := rf_fm hTH z17 g77 rh0 rfl
    have hF := FM.tr hF g77 rfl
    exact e_I E hW rfl ⟨⟨_, rfl, trivial⟩, hF, (by rw [mR]; exact z80), z81⟩ dX12_coin_22
def rw_X12_deal_u : List (Nat × Nat) := [(5, 5), (21, 333)]
def ms_X12_deal_u : List (Nat × Nat) := [(12, 0), (12, 1), (822, 0)]
def po_X12_deal_u (kp : Nat → Nat) (L : List Nat) (f0 : Nat → va_E) (h0 : Nat) (u1 : Int32) (u2 : Int32) (u3 : Int32) : Option Value → (Nat → va_E) → Prop := fun v f => (∃ r : Int32, v = some (.int r) ∧ (True)) ∧ FM kp L ms_X12_deal_u f0 f ∧ (RP (aI (f (oR (f0 h0) 2))) 0 = RP (aI (f0 (oR (f0 h0) 2))) 0) ∧ (RF rw_X12_deal_u f0 f h0)
set_option maxHeartbeats 4000000 in
set_option maxRecDepth 100000 in
theorem c_X12_deal_u (l : Launch) (G : va_G) (cI cJ cZ cD cR cT : ClassId) (kp : Nat → Nat) (L : List Nat) (f0 : Nat → va_E) (hTH : TH cI cJ cZ cD cR cT kp L f0) (sz : Nat) (h0 : Nat) (u1 : Int32) (u2 : Int32) (u3 : Int32) (rh0 : RK kp L h0 12) : Met l yX12_deal (Cond.code yX12_deal cX12_deal 6 (some .int) :: wTab) ({ frames := 3, cells := 0, slots := 0, locals := 86 }) (va_Pc [.ref h0, .int u1, .int u2, .int u3] (PreW G (tys6 cI cJ cZ cD cR cT) (va_pl L f0) sz)) (QT (po_X12_deal_u kp L f0 h0 u1 u2 u3) G cI cJ cZ cD cR cT (va_A (va_pl L f0) sz) kp L) 0 0 (va_A (va_pl L f0) sz) := by
  refine metT (by decide) (Nat.le_of_ble_eq_true rfl) hTH ?_
  intro p e s m below meth c A ls E hW hl
  obtain ⟨hx, hb, -, hml, hown, hts, -, -, -⟩ := id E
  have hF : FM kp L ms_X12_deal_u f0 f0 := FM.rf
  have hl : lv_has ls 6 [(0, .ref h0), (1, .int u1), (2, .int u2), (3, .int u3)] := hl
  obtain ⟨pR, mR⟩ : ∃ x : Nat, oR (f0 h0) 2 = x := ⟨_, rfl⟩
  have rR : RK kp L pR 822 := by rw [← mR]; exact th_ref hTH rh0 (by decide) (by decide) rfl
  refine lv_aload_n hx hb dX12_deal_0 rfl (lv_at hl 0 rfl) ?_
  refine lv_iconst (v := 0) hx hb dX12_deal_1 (by decide) ?_
  have hW0 := hW.2.2.2
  refine fp_RX12_82 E hW rh0 dX12_deal_2 (fun f1 H locs e2 n3 g4 hW => ?_)
  have z5 : RP (aI (f1 pR)) 0 = RP (aI (f0 pR)) 0 := rp_fm (rfl : RP (aI (f0 pR)) 0 = RP (aI (f0 pR)) 0) g4 rR rfl
  have z6 : RF rw_X12_deal_u f0 f1 h0 := rf_fm hTH rf_rf g4 rh0 rfl
  have hF := FM.tr hF g4 rfl
  refine lv_iload_n hx hb dX12_deal_5 rfl (lv_at hl 3 rfl) ?_
  refine q_i2l hx hb dX12_deal_6 rfl (fun x7 h8 => ?_)
  have hb9 : -2147483648 ≤ x7.toInt ∧ x7.toInt ≤ 2147483647 := by have := i32_b u3; omega
  refine lv_lconst (v := 1) hx hb dX12_deal_7 (by decide) ?_
  refine lv_ldc2 (v := 10000) hx hb hown (hts _ tw_1723) dX12_deal_8 ?_
  have hW0 := hW.2.2.2
  refine t_callS (As := [.long x7, .long 1, .long 10000]) (rest := []) E hW (c_X12_in l G cI cJ cZ cD cR cT kp L f1 hW.2.2.2 _ x7 1 10000) wk_X12_in tw_1554 rfl ⟨Nat.le_of_ble_eq_true rfl, Nat.le_of_ble_eq_true rfl⟩ ⟨rfl, rfl⟩ hl.1 rfl (Nat.le_of_ble_eq_true rfl) dX12_deal_11 ⟨Nat.le_of_ble_eq_true rfl, Nat.le_of_ble_eq_true rfl⟩ (fun v10 f11 H locs q12 hW => ?_)
  obtain ⟨⟨x14, rfl, p15⟩, g13⟩ := q12
  have p15 : (x14.toInt = 1 ∧ (1 : Int) ≤ x7.toInt ∧ x7.toInt ≤ (10000 : Int)) ∨ (x14.toInt = 0 ∧ (x7.toInt < (1 : Int) ∨ (10000 : Int) < x7.toInt)) := p15
  have z16 : RP (aI (f11 pR)) 0 = RP (aI (f0 pR)) 0 := rp_fm z5 g13 rR rfl
  have z17 : RF rw_X12_deal_u f0 f11 h0 := rf_fm hTH z6 g13 rh0 rfl
  have hF := FM.tr hF g13 rfl
  refine q_if_ne (tgt := 23) hx hb dX12_deal_14 (by decide) rfl (fun c18 => ?_) (fun c18 => ?_)
  · have q19 : (1 : Int) ≤ x7.toInt ∧ x7.toInt ≤ (10000 : Int) := by omega
    clear p15
    refine lv_aload_n hx hb dX12_deal_23 rfl (lv_at hl 0 rfl) ?_
    refine lv_iload_n hx hb dX12_deal_24 rfl (lv_at hl 1 rfl) ?_
    have hW0 := hW.2.2.2
    refine t_callV (As := [.int u1]) (rest := []) E hW (c_X12_isPerson l G cI cJ cZ cD cR cT kp L f11 hW.2.2.2 _ h0 u1 rh0) rh0 (by decide) rfl wk_X12_isPerson tw_1583 rfl ⟨Nat.le_of_ble_eq_true rfl, Nat.le_of_ble_eq_true rfl⟩ ⟨rfl, rfl⟩ hl.1 rfl (Nat.le_of_ble_eq_true rfl) dX12_deal_25 ⟨Nat.le_of_ble_eq_true rfl, Nat.le_of_ble_eq_true rfl⟩ (fun v20 f21 H locs q22 hW => ?_)
    obtain ⟨⟨x24, rfl, p25⟩, g23⟩ := q22
    have z26 : RP (aI (f21 pR)) 0 = RP (aI (f0 pR)) 0 := rp_fm z16 g23 rR rfl
    have z27 : RF rw_X12_deal_u f0 f21 h0 := rf_fm hTH z17 g23 rh0 rfl
    have hF := FM.tr hF g23 rfl
    refine q_if_eq (tgt := 39) hx hb dX12_deal_28 (by decide) rfl (fun c28 => ?_) (fun c28 => ?_)
    · clear p25
      refine lv_aload_n hx hb dX12_deal_39 rfl (lv_at hl 0 rfl) ?_
      refine lv_bipush (v := (-2)) hx hb dX12_deal_40 (by decide) ?_
      have hW0 := hW.2.2.2
      refine t_callV (As := [.int (-2)]) (rest := []) E hW (c_X12_told_x l G cI cJ cZ cD cR cT kp L f21 hW.2.2.2 _ h0 (-2) rh0) rh0 (by decide) rfl wk_X12_told tw_1557 rfl ⟨Nat.le_of_ble_eq_true rfl, Nat.le_of_ble_eq_true rfl⟩ ⟨rfl, rfl⟩ hl.1 rfl (Nat.le_of_ble_eq_true rfl) dX12_deal_42 ⟨Nat.le_of_ble_eq_true rfl, Nat.le_of_ble_eq_true rfl⟩ (fun v29 f30 H locs q31 hW => ?_)
      obtain ⟨⟨x33, rfl, p34⟩, g32⟩ := q31
      have p34 : x33.toInt = (-2 : Int) := p34
      have z35 : RP (aI (f30 pR)) 0 = RP (aI (f0 pR)) 0 := rp_fm z26 g32 rR rfl
      have z36 : RF rw_X12_deal_u f0 f30 h0 := rf_fm hTH z27 g32 rh0 rfl
      have hF := FM.tr hF g32 rfl
      exact e_I E hW rfl ⟨⟨_, rfl, trivial⟩, hF, (by rw [mR]; exact z35), z36⟩ dX12_deal_45
    · have q37 : 0 ≤ u1.toInt ∧ u1.toInt ≤ 39 := by omega
      clear p25
      refine lv_aload_n hx hb dX12_deal_31 rfl (lv_at hl 0 rfl) ?_
      refine lv_iload_n hx hb dX12_deal_32 rfl (lv_at hl 2 rfl) ?_
      have hW0 := hW.2.2.2
      refine t_callV (As := [.int u2]) (rest := []) E hW (c_X12_isPerson l G cI cJ cZ cD cR cT kp L f21 hW.2.2.2 _ h0 u2 rh0) rh0 (by decide) rfl wk_X12_isPerson tw_1583 rfl ⟨Nat.le_of_ble_eq_true rfl, Nat.le_of_ble_eq_true rfl⟩ ⟨rfl, rfl⟩ hl.1 rfl (Nat.le_of_ble_eq_true rfl) dX12_deal_33 ⟨Nat.le_of_ble_eq_true rfl, Nat.le_of_ble_eq_true rfl⟩ (fun v38 f39 H locs q40 hW => ?_)
      obtain ⟨⟨x42, rfl, p43⟩, g41⟩ := q40
      have z44 : RP (aI (f39 pR)) 0 = RP (aI (f0 pR)) 0 := rp_fm z26 g41 rR rfl
      have z45 : RF rw_X12_deal_u f0 f39 h0 := rf_fm hTH z27 g41 rh0 rfl
      have hF := FM.tr hF g41 rfl
      refine q_if_ne (tgt := 46) hx hb dX12_deal_36 (by decide) rfl (fun c46 => ?_) (fun c46 => ?_)
      · have q47 : 0 ≤ u2.toInt ∧ u2.toInt ≤ 39 := by omega
        clear p43
        refine lv_iload_n hx hb dX12_deal_46 rfl (lv_at hl 2 rfl) ?_
        have hW0 := hW.2.2.2
        refine t_callS (As := [.int u2]) (rest := []) E hW (c_X12_personAt l G cI cJ cZ cD cR cT kp L f39 hW.2.2.2 _ u2 (by omega)) wk_X12_personAt tw_1572 rfl ⟨Nat.le_of_ble_eq_true rfl, Nat.le_of_ble_eq_true rfl⟩ ⟨rfl, rfl⟩ hl.1 rfl (Nat.le_of_ble_eq_true rfl) dX12_deal_47 ⟨Nat.le_of_ble_eq_true rfl, Nat.le_of_ble_eq_true rfl⟩ (fun v48 f49 H locs q50 hW => ?_)
        obtain ⟨⟨x52, rfl, p53⟩, g51⟩ := q50
        have z54 : RP (aI (f49 pR)) 0 = RP (aI (f0 pR)) 0 := rp_fm z44 g51 rR rfl
        have z55 : RF rw_X12_deal_u f0 f49 h0 := rf_fm hTH z45 g51 rh0 rfl
        have hF := FM.tr hF g51 rfl
        refine lv_istore (lv' := [(4, .int x52), (0, .ref h0), (1, .int u1), (2, .int u2), (3, .int u3)]) hx hb dX12_deal_50 hl (by decide) rfl (fun ls hl => ?_)
        refine lv_iload_n hx hb dX12_deal_52 rfl (lv_at hl 2 rfl) ?_
        refine lv_iload_n hx hb dX12_deal_53 rfl (lv_at hl 3 rfl) ?_
        have J90 : ∀ (f83 : Nat → va_E) (y86 : Int32) (m84 : oI (f83 h0) 0 = 0) (m85 : oR (f83 h0) 2 = pR) (b87 : (0 : Int) ≤ y86.toInt ∧ y86.toInt ≤ 1) (z88 : RF rw_X12_deal_u f0 f83 h0) (z89 : RP (aI (f83 pR)) 0 = RP (aI (f0 pR)) 0) (H : Heap) (locs : List Loc) (ls : Array Slot), WS G cI cJ cZ cD cR cT A kp L f83 s H locs → FM kp L ms_X12_deal_u f0 f83 → lv_has ls 6 [(4, .int x52), (0, .ref h0), (1, .int u1), (2, .int u2), (3, .int u3)] → W p l e ({ frames := 3, cells := 0, slots := 0, locals := 86 }) s m ([.ref h0, .int u1, .int u2, .int u3] : List Value).toArray below meth c H locs 0 0 (MQ below (QT (po_X12_deal_u kp L f0 h0 u1 u2 u3) G cI cJ cZ cD cR cT A kp L) ([.ref h0, .int u1, .int u2, .int u3] : List Value).toArray s 0 0 A) (F0 m 91 ls [.int y86]) := by
          intro f83 y86 m84 m85 b87 z88 z89 H locs ls hW hF hl
          clear c18 c28 c46
          refine lv_istore (lv' := [(5, .int y86), (4, .int x52), (0, .ref h0), (1, .int u1), (2, .int u2), (3, .int u3)]) hx hb dX12_deal_91 hl (by decide) rfl (fun ls hl => ?_)
          refine lv_iload hx hb dX12_deal_93 (lv_at hl 0 rfl) ?_
          refine q_if_eq (tgt := 121) hx hb dX12_deal_95 (by decide) rfl (fun c91 => ?_) (fun c91 => ?_)
          · refine lv_aload_n hx hb dX12_deal_121 rfl (lv_at hl 2 rfl) ?_
            refine lv_bipush (v := (-3)) hx hb dX12_deal_122 (by decide) ?_
            have hW0 := hW.2.2.2
            refine t_callV (As := [.int (-3)]) (rest := []) E hW (c_X12_told_x l G cI cJ cZ cD cR cT kp L f83 hW.2.2.2 _ h0 (-3) rh0) rh0 (by decide) rfl wk_X12_told tw_1557 rfl ⟨Nat.le_of_ble_eq_true rfl, Nat.le_of_ble_eq_true rfl⟩ ⟨rfl, rfl⟩ hl.1 rfl (Nat.le_of_ble_eq_true rfl) dX12_deal_124 ⟨Nat.le_of_ble_eq_true rfl, Nat.le_of_ble_eq_true rfl⟩ (fun v92 f93 H locs q94 hW => ?_)
            obtain ⟨⟨x96, rfl, p97⟩, g95⟩ := q94
            have p97 : x96.toInt = (-3 : Int) := p97
            have z98 : RP (aI (f93 pR)) 0 = RP (aI (f0 pR)) 0 := rp_fm z89 g95 rR rfl
            have z99 : RF rw_X12_deal_u f0 f93 h0 := rf_fm hTH z88 g95 rh0 rfl
            have hF := FM.tr hF g95 rfl
            exact e_I E hW rfl ⟨⟨_, rfl, trivial⟩, hF, (by rw [mR]; exact z98), z99⟩ dX12_deal_127
          · refine lv_aload_n hx hb dX12_deal_98 rfl (lv_at hl 2 rfl) ?_
            refine fg_RX12_8 E hW rh0 dX12_deal_99 (fun a100 m101 r102 => ?_)
            obtain rfl : pR = a100 := (m85).symm.trans m101
            refine lv_iload hx hb dX12_deal_102 (lv_at hl 1 rfl) ?_
            refine lv_bipush (v := 6) hx hb dX12_deal_104 (by decide) ?_
            refine q_iadd (Y := 6) hx hb dX12_deal_106 rfl rfl (by omega) (fun x103 h104 => ?_)
            refine gl_822 E hW rR ⟨by omega, by omega⟩ dX12_deal_107 (fun y105 m106 b107 => ?_)
            refine lv_iconst (v := 1) hx hb dX12_deal_108 (by decide) ?_
            refine q_icmp_ne (Y := 1) (tgt := 128) hx hb dX12_deal_109 (by decide) rfl rfl (fun c108 => ?_) (fun c108 => ?_)
            · refine lv_aload_n hx hb dX12_deal_128 rfl (lv_at hl 2 rfl) ?_
              refine fg_RX12_8 E hW rh0 dX12_deal_129 (fun a109 m110 r111 => ?_)
              obtain rfl : pR = a109 := (m101).symm.trans m110
              refine lv_iconst (v := 5) hx hb dX12_deal_132 (by decide) ?_
              refine gl_822 E hW rR (by decide) dX12_deal_133 (fun y112 m113 b114 => ?_)
              refine lv_sipush (v := 200) hx hb dX12_deal_134 (by decide) ?_
              refine q_icmp_ne (Y := 200) (tgt := 147) hx hb dX12_deal_137 (by decide) rfl rfl (fun c115 => ?_) (fun c115 => ?_)
              · refine lv_aload_n hx hb dX12_deal_147 rfl (lv_at hl 2 rfl) ?_
                refine fg_RX12_8 E hW rh0 dX12_deal_148 (fun a116 m117 r118 => ?_)
                obtain rfl : pR = a116 := (m110).symm.trans m117
                refine lv_iload hx hb dX12_deal_151 (lv_at hl 1 rfl) ?_
                refine lv_iconst (v := 1) hx hb dX12_deal_153 (by decide) ?_
                refine q_iadd (Y := 1) hx hb dX12_deal_154 rfl rfl (by omega) (fun x119 h120 => ?_)
                refine lv_dup2_11 hx hb dX12_deal_155 rfl rfl ?_
                refine gl_822 E hW rR ⟨by omega, by omega⟩ dX12_deal_156 (fun y121 m122 b123 => ?_)
                refine lv_iload_n hx hb dX12_deal_157 rfl (lv_at hl 5 rfl) ?_
                refine u_isub hx hb dX12_deal_158 (fun x124 => ?_)
                have hW0 := hW.2.2.2
                refine gs_822 E hW rR ⟨by omega, by omega⟩ (fun hc => rr_up hc (by omega) (by omega) (by unfold rbI; omega)) dX12_deal_159 (fun f125 H locs e126 n127 g128 hW => ?_)
                have z129 : RP (aI (f125 pR)) 0 = RP (aI (f0 pR)) 0 := rp_st z89 e126 (by omega) (by omega)
                have z130 : RF rw_X12_deal_u f0 f125 h0 := rf_st (lo := 21) (hi := 333) z88 mR e126 (by omega) rfl
                have hF := FM.tr hF g128 rfl
                refine lv_aload_n hx hb dX12_deal_160 rfl (lv_at hl 2 rfl) ?_
                refine lv_iload_n hx hb dX12_deal_161 rfl (lv_at hl 3 rfl) ?_
                refine lv_iload_n hx hb dX12_deal_162 rfl (lv_at hl 5 rfl) ?_
                refine q_i2l hx hb dX12_deal_163 rfl (fun x131 h132 => ?_)
                have hW0 := hW.2.2.2
                refine t_callV (As := [.int u1, .long x131]) (rest := []) E hW (c_X12_gets_u l G cI cJ cZ cD cR cT kp L f125 hW.2.2.2 _ h0 u1 x131 rh0 (by omega)) rh0 (by decide) rfl wk_X12_gets tw_1596 rfl ⟨Nat.le_of_ble_eq_true rfl, Nat.le_of_ble_eq_true rfl⟩ ⟨rfl, rfl⟩ hl.1 rfl (Nat.le_of_ble_eq_true rfl) dX12_deal_164 ⟨Nat.le_of_ble_eq_true rfl, Nat.le_of_ble_eq_true rfl⟩ (fun v133 f134 H locs q135 hW => ?_)
                obtain ⟨rfl, g136, h137, h138⟩ := q135
                have z140 : RF rw_X12_deal_u f0 f134 h0 := rf_call z130 h138 mR ((fm_R g128 rh0 rfl).trans m117) rfl
                have hF := FM.tr hF g136 rfl
                have z141 : RP (aI (f134 pR)) 0 = RP (aI (f0 pR)) 0 := rp_call z129 h137 ((fm_R g128 rh0 rfl).trans m117)
                refine lv_aload_n hx hb dX12_deal_167 rfl (lv_at hl 2 rfl) ?_
                refine fg_RX12_8 E hW rh0 dX12_deal_168 (fun a142 m143 r144 => ?_)
                obtain rfl : pR = a142 := (((fm_R g136 rh0 rfl).trans ((fm_R g128 rh0 rfl).trans m117))).symm.trans m143
                refine lv_iconst (v := 5) hx hb dX12_deal_171 (by decide) ?_
                refine lv_dup2_11 hx hb dX12_deal_172 rfl rfl ?_
                refine gl_822 E hW rR (by decide) dX12_deal_173 (fun y145 m146 b147 => ?_)
                obtain rfl : y112 = y145 := (((show aI (f134 pR) (5 : Int32).toNatClampNeg = aI (f125 pR) (5 : Int32).toNatClampNeg from rf_get h138 ((fm_R g128 rh0 rfl).trans m117) 5 rfl).trans (show aI (f125 pR) (5 : Int32).toNatClampNeg = y112 from by rw [e126, up_n (tn_ne (by omega) (by decide) (by have hk0 : (5 : Int32).toInt = 5 := rfl; omega))]; exact m113))).symm.trans m146
                refine lv_iconst (v := 1) hx hb dX12_deal_174 (by decide) ?_
                refine u_iadd hx hb dX12_deal_175 (fun x148 => ?_)
                have hk149 : (5 : Int32).toInt = 5 := rfl
                have hW0 := hW.2.2.2
                refine gs_822 E hW rR (by decide) (fun hc => rr_up hc (by omega) (by omega) (by unfold rbI; omega)) dX12_deal_176 (fun f150 H locs e151 n152 g153 hW => ?_)
                have hk155 : (5 : Int32).toInt = 5 := rfl
                have z154 : RP (aI (f150 pR)) 0 = RP (aI (f0 pR)) 0 := rp_st z141 e151 (by omega) (by omega)
                have z156 : RF rw_X12_deal_u f0 f150 h0 := rf_st (lo := 5) (hi := 5) z140 mR e151 (by decide) rfl
                have hF := FM.tr hF g153 rfl
                refine lv_aload_n hx hb dX12_deal_177 rfl (lv_at hl 2 rfl) ?_
                refine lv_aload_n hx hb dX12_deal_178 rfl (lv_at hl 2 rfl) ?_
                refine fg_RX12_8 E hW rh0 dX12_deal_179 (fun a157 m158 r159 => ?_)
                obtain rfl : pR = a157 := (((fm_R g153 rh0 rfl).trans m143)).symm.trans m158
                refine lv_iconst (v := 5) hx hb dX12_deal_182 (by decide) ?_
                refine gl_822 E hW rR (by decide) dX12_deal_183 (fun y160 m161 b162 => ?_)
                obtain rfl : x148 = y160 := ((show aI (f150 pR) (5 : Int32).toNatClampNeg = x148 from by rw [e151]; exact up_s)).symm.trans m161
                have hW0 := hW.2.2.2
                refine t_callV (As := [.int x148]) (rest := []) E hW (c_X12_told_x l G cI cJ cZ cD cR cT kp L f150 hW.2.2.2 _ h0 x148 rh0) rh0 (by decide) rfl wk_X12_told tw_1557 rfl ⟨Nat.le_of_ble_eq_true rfl, Nat.le_of_ble_eq_true rfl⟩ ⟨rfl, rfl⟩ hl.1 rfl (Nat.le_of_ble_eq_true rfl) dX12_deal_184 ⟨Nat.le_of_ble_eq_true rfl, Nat.le_of_ble_eq_true rfl⟩ (fun v163 f164 H locs q165 hW => ?_)
                obtain ⟨⟨x167, rfl, p168⟩, g166⟩ := q165
                have z169 : RP (aI (f164 pR)) 0 = RP (aI (f0 pR)) 0 := rp_fm z154 g166 rR rfl
                have z170 : RF rw_X12_deal_u f0 f164 h0 := rf_fm hTH z156 g166 rh0 rfl
                have hF := FM.tr hF g166 rfl
                exact e_I E hW rfl ⟨⟨_, rfl, trivial⟩, hF, (by rw [mR]; exact z169), z170⟩ dX12_deal_187
              · refine lv_aload_n hx hb dX12_deal_140 rfl (lv_at hl 2 rfl) ?_
                refine lv_bipush (v := (-5)) hx hb dX12_deal_141 (by decide) ?_
                have hW0 := hW.2.2.2
                refine t_callV (As := [.int (-5)]) (rest := []) E hW (c_X12_told_x l G cI cJ cZ cD cR cT kp L f83 hW.2.2.2 _ h0 (-5) rh0) rh0 (by decide) rfl wk_X12_told tw_1557 rfl ⟨Nat.le_of_ble_eq_true rfl, Nat.le_of_ble_eq_true rfl⟩ ⟨rfl, rfl⟩ hl.1 rfl (Nat.le_of_ble_eq_true rfl) dX12_deal_143 ⟨Nat.le_of_ble_eq_true rfl, Nat.le_of_ble_eq_true rfl⟩ (fun v171 f172 H locs q173 hW => ?_)
                obtain ⟨⟨x175, rfl, p176⟩, g174⟩ := q173
                have p176 : x175.toInt = (-5 : Int) := p176
                have z177 : RP (aI (f172 pR)) 0 = RP (aI (f0 pR)) 0 := rp_fm z89 g174 rR rfl
                have z178 : RF rw_X12_deal_u f0 f172 h0 := rf_fm hTH z88 g174 rh0 rfl
                have hF := FM.tr hF g174 rfl
                exact e_I E hW rfl ⟨⟨_, rfl, trivial⟩, hF, (by rw [mR]; exact z177), z178⟩ dX12_deal_146
            · refine lv_aload_n hx hb dX12_deal_112 rfl (lv_at hl 2 rfl) ?_
              refine lv_iload_n hx hb dX12_deal_113 rfl (lv_at hl 3 rfl) ?_
              refine lv_iload_n hx hb dX12_deal_114 rfl (lv_at hl 4 rfl) ?_
              have hW0 := hW.2.2.2
              refine t_callV (As := [.int u1, .int u2]) (rest := []) E hW (c_X12_keepsBan l G cI cJ cZ cD cR cT kp L f83 hW.2.2.2 _ h0 u1 u2 rh0 (by omega) (by omega)) rh0 (by decide) rfl wk_X12_keepsBan tw_1974 rfl ⟨Nat.le_of_ble_eq_true rfl, Nat.le_of_ble_eq_true rfl⟩ ⟨rfl, rfl⟩ hl.1 rfl (Nat.le_of_ble_eq_true rfl) dX12_deal_115 ⟨Nat.le_of_ble_eq_true rfl, Nat.le_of_ble_eq_true rfl⟩ (fun v179 f180 H locs q181 hW => ?_)
              obtain ⟨⟨x183, rfl, p184⟩, g182⟩ := q181
              have z185 : RP (aI (f180 pR)) 0 = RP (aI (f0 pR)) 0 := rp_fm z89 g182 rR rfl
              have z186 : RF rw_X12_deal_u f0 f180 h0 := rf_fm hTH z88 g182 rh0 rfl
              have hF := FM.tr hF g182 rfl
              refine q_if_eq (tgt := 128) hx hb dX12_deal_118 (by decide) rfl (fun c187 => ?_) (fun c187 => ?_)
              · refine lv_aload_n hx hb dX12_deal_128 rfl (lv_at hl 2 rfl) ?_
                refine fg_RX12_8 E hW rh0 dX12_deal_129 (fun a188 m189 r190 => ?_)
                obtain rfl : pR = a188 := (((fm_R g182 rh0 rfl).trans m101)).symm.trans m189
                refine lv_iconst (v := 5) hx hb dX12_deal_132 (by decide) ?_
                refine gl_822 E hW rR (by decide) dX12_deal_133 (fun y191 m192 b193 => ?_)
                refine lv_sipush (v := 200) hx hb dX12_deal_134 (by decide) ?_
                refine q_icmp_ne (Y := 200) (tgt := 147) hx hb dX12_deal_137 (by decide) rfl rfl (fun c194 => ?_) (fun c194 => ?_)
                · refine lv_aload_n hx hb dX12_deal_147 rfl (lv_at hl 2 rfl) ?_
                  refine fg_RX12_8 E hW rh0 dX12_deal_148 (fun a195 m196 r197 => ?_)
                  obtain rfl : pR = a195 := (m189).symm.trans m196
                  refine lv_iload hx hb dX12_deal_151 (lv_at hl 1 rfl) ?_
                  refine lv_iconst (v := 1) hx hb dX12_deal_153 (by decide) ?_
                  refine q_iadd (Y := 1) hx hb dX12_deal_154 rfl rfl (by omega) (fun x198 h199 => ?_)
                  refine lv_dup2_11 hx hb dX12_deal_155 rfl rfl ?_
                  refine gl_822 E hW rR ⟨by omega, by omega⟩ dX12_deal_156 (fun y200 m201 b202 => ?_)
                  refine lv_iload_n hx hb dX12_deal_157 rfl (lv_at hl 5 rfl) ?_
                  refine u_isub hx hb dX12_deal_158 (fun x203 => ?_)
                  have hW0 := hW.2.2.2
                  refine gs_822 E hW rR ⟨by omega, by omega⟩ (fun hc => rr_up hc (by omega) (by omega) (by unfold rbI; omega)) dX12_deal_159 (fun f204 H locs e205 n206 g207 hW => ?_)
                  have z208 : RP (aI (f204 pR)) 0 = RP (aI (f0 pR)) 0 := rp_st z185 e205 (by omega) (by omega)
                  have z209 : RF rw_X12_deal_u f0 f204 h0 := rf_st (lo := 21) (hi := 333) z186 mR e205 (by omega) rfl
                  have hF := FM.tr hF g207 rfl
                  refine lv_aload_n hx hb dX12_deal_160 rfl (lv_at hl 2 rfl) ?_
                  refine lv_iload_n hx hb dX12_deal_161 rfl (lv_at hl 3 rfl) ?_
                  refine lv_iload_n hx hb dX12_deal_162 rfl (lv_at hl 5 rfl) ?_
                  refine q_i2l hx hb dX12_deal_163 rfl (fun x210 h211 => ?_)
                  have hW0 := hW.2.2.2
                  refine t_callV (As := [.int u1, .long x210]) (rest := []) E hW (c_X12_gets_u l G cI cJ cZ cD cR cT kp L f204 hW.2.2.2 _ h0 u1 x210 rh0 (by omega)) rh0 (by decide) rfl wk_X12_gets tw_1596 rfl ⟨Nat.le_of_ble_eq_true rfl, Nat.le_of_ble_eq_true rfl⟩ ⟨rfl, rfl⟩ hl.1 rfl (Nat.le_of_ble_eq_true rfl) dX12_deal_164 ⟨Nat.le_of_ble_eq_true rfl, Nat.le_of_ble_eq_true rfl⟩ (fun v212 f213 H locs q214 hW => ?_)
                  obtain ⟨rfl, g215, h216, h217⟩ := q214
                  have z219 : RF rw_X12_deal_u f0 f213 h0 := rf_call z209 h217 mR ((fm_R g207 rh0 rfl).trans m196) rfl
                  have hF := FM.tr hF g215 rfl
                  have z220 : RP (aI (f213 pR)) 0 = RP (aI (f0 pR)) 0 := rp_call z208 h216 ((fm_R g207 rh0 rfl).trans m196)
                  refine lv_aload_n hx hb dX12_deal_167 rfl (lv_at hl 2 rfl) ?_
                  refine fg_RX12_8 E hW rh0 dX12_deal_168 (fun a221 m222 r223 => ?_)
                  obtain rfl : pR = a221 := (((fm_R g215 rh0 rfl).trans ((fm_R g207 rh0 rfl).trans m196))).symm.trans m222
                  refine lv_iconst (v := 5) hx hb dX12_deal_171 (by decide) ?_
                  refine lv_dup2_11 hx hb dX12_deal_172 rfl rfl ?_
                  refine gl_822 E hW rR (by decide) dX12_deal_173 (fun y224 m225 b226 => ?_)
                  obtain rfl : y191 = y224 := (((show aI (f213 pR) (5 : Int32).toNatClampNeg = aI (f204 pR) (5 : Int32).toNatClampNeg from rf_get h217 ((fm_R g207 rh0 rfl).trans m196) 5 rfl).trans (show aI (f204 pR) (5 : Int32).toNatClampNeg = y191 from by rw [e205, up_n (tn_ne (by omega) (by decide) (by have hk0 : (5 : Int32).toInt = 5 := rfl; omega))]; exact m192))).symm.trans m225
                  refine lv_iconst (v := 1) hx hb dX12_deal_174 (by decide) ?_
                  refine u_iadd hx hb dX12_deal_175 (fun x227 => ?_)
                  have hk228 : (5 : Int32).toInt = 5 := rfl
                  have hW0 := hW.2.2.2
                  refine gs_822 E hW rR (by decide) (fun hc => rr_up hc (by omega) (by omega) (by unfold rbI; omega)) dX12_deal_176 (fun f229 H locs e230 n231 g232 hW => ?_)
                  have hk234 : (5 : Int32).toInt = 5 := rfl
                  have z233 : RP (aI (f229 pR)) 0 = RP (aI (f0 pR)) 0 := rp_st z220 e230 (by omega) (by omega)
                  have z235 : RF rw_X12_deal_u f0 f229 h0 := rf_st (lo := 5) (hi := 5) z219 mR e230 (by decide) rfl
                  have hF := FM.tr hF g232 rfl
                  refine lv_aload_n hx hb dX12_deal_177 rfl (lv_at hl 2 rfl) ?_
                  refine lv_aload_n hx hb dX12_deal_178 rfl (lv_at hl 2 rfl) ?_
                  refine fg_RX12_8 E hW rh0 dX12_deal_179 (fun a236 m237 r238 => ?_)
                  obtain rfl : pR = a236 := (((fm_R g232 rh0 rfl).trans m222)).symm.trans m237
                  refine lv_iconst (v := 5) hx hb dX12_deal_182 (by decide) ?_
                  refine gl_822 E hW rR (by decide) dX12_deal_183 (fun y239 m240 b241 => ?_)
                  obtain rfl : x227 = y239 := ((show aI (f229 pR) (5 : Int32).toNatClampNeg = x227 from by rw [e230]; exact up_s)).symm.trans m240
                  have hW0 := hW.2.2.2
                  refine t_callV (As := [.int x227]) (rest := []) E hW (c_X12_told_x l G cI cJ cZ cD cR cT kp L f229 hW.2.2.2 _ h0 x227 rh0) rh0 (by decide) rfl wk_X12_told tw_1557 rfl ⟨Nat.le_of_ble_eq_true rfl, Nat.le_of_ble_eq_true rfl⟩ ⟨rfl, rfl⟩ hl.1 rfl (Nat.le_of_ble_eq_true rfl) dX12_deal_184 ⟨Nat.le_of_ble_eq_true rfl, Nat.le_of_ble_eq_true rfl⟩ (fun v242 f243 H locs q244 hW => ?_)
                  obtain ⟨⟨x246, rfl, p247⟩, g245⟩ := q244
                  have z248 : RP (aI (f243 pR)) 0 = RP (aI (f0 pR)) 0 := rp_fm z233 g245 rR rfl
                  have z249 : RF rw_X12_deal_u f0 f243 h0 := rf_fm hTH z235 g245 rh0 rfl
                  have hF := FM.tr hF g245 rfl
                  exact e_I E hW rfl ⟨⟨_, rfl, trivial⟩, hF, (by rw [mR]; exact z248), z249⟩ dX12_deal_187
                · refine lv_aload_n hx hb dX12_deal_140 rfl (lv_at hl 2 rfl) ?_
                  refine lv_bipush (v := (-5)) hx hb dX12_deal_141 (by decide) ?_
                  have hW0 := hW.2.2.2
                  refine t_callV (As := [.int (-5)]) (rest := []) E hW (c_X12_told_x l G cI cJ cZ cD cR cT kp L f180 hW.2.2.2 _ h0 (-5) rh0) rh0 (by decide) rfl wk_X12_told tw_1557 rfl ⟨Nat.le_of_ble_eq_true rfl, Nat.le_of_ble_eq_true rfl⟩ ⟨rfl, rfl⟩ hl.1 rfl (Nat.le_of_ble_eq_true rfl) dX12_deal_143 ⟨Nat.le_of_ble_eq_true rfl, Nat.le_of_ble_eq_true rfl⟩ (fun v250 f251 H locs q252 hW => ?_)
                  obtain ⟨⟨x254, rfl, p255⟩, g253⟩ := q252
                  have p255 : x254.toInt = (-5 : Int) := p255
                  have m256 : aI (f251 pR) (x103 : Int32).toNatClampNeg = y105 := ((congrArg (fun z => aI z (x103 : Int32).toNatClampNeg) (fm_A g253 rR (by decide) rfl)).trans ((congrArg (fun z => aI z (x103 : Int32).toNatClampNeg) (fm_A g182 rR (by decide) rfl)).trans m106))
                  have z257 : RP (aI (f251 pR)) 0 = RP (aI (f0 pR)) 0 := rp_fm z185 g253 rR rfl
                  have z258 : RF rw_X12_deal_u f0 f251 h0 := rf_fm hTH z186 g253 rh0 rfl
                  have hF := FM.tr hF g253 rfl
                  exact e_I E hW rfl ⟨⟨_, rfl, trivial⟩, hF, (by rw [mR]; exact z257), z258⟩ dX12_deal_146
              · refine lv_aload_n hx hb dX12_deal_121 rfl (lv_at hl 2 rfl) ?_
                refine lv_bipush (v := (-3)) hx hb dX12_deal_122 (by decide) ?_
                have hW0 := hW.2.2.2
                refine t_callV (As := [.int (-3)]) (rest := []) E hW (c_X12_told_x l G cI cJ cZ cD cR cT kp L f180 hW.2.2.2 _ h0 (-3) rh0) rh0 (by decide) rfl wk_X12_told tw_1557 rfl ⟨Nat.le_of_ble_eq_true rfl, Nat.le_of_ble_eq_true rfl⟩ ⟨rfl, rfl⟩ hl.1 rfl (Nat.le_of_ble_eq_true rfl) dX12_deal_124 ⟨Nat.le_of_ble_eq_true rfl, Nat.le_of_ble_eq_true rfl⟩ (fun v259 f260 H locs q261 hW => ?_)
                obtain ⟨⟨x263, rfl, p264⟩, g262⟩ := q261
                have p264 : x263.toInt = (-3 : Int) := p264
                have m265 : aI (f260 pR) (x103 : Int32).toNatClampNeg = y105 := ((congrArg (fun z => aI z (x103 : Int32).toNatClampNeg) (fm_A g262 rR (by decide) rfl)).trans ((congrArg (fun z => aI z (x103 : Int32).toNatClampNeg) (fm_A g182 rR (by decide) rfl)).trans m106))
                have z266 : RP (aI (f260 pR)) 0 = RP (aI (f0 pR)) 0 := rp_fm z185 g262 rR rfl
                have z267 : RF rw_X12_deal_u f0 f260 h0 := rf_fm hTH z186 g262 rh0 rfl
                have hF := FM.tr hF g262 rfl
                exact e_I E hW rfl ⟨⟨_, rfl, trivial⟩, hF, (by rw [mR]; exact z266), z267⟩ dX12_deal_127
        refine q_icmp_eq (tgt := 90) hx hb dX12_deal_54 (by decide) rfl rfl (fun c268 => ?_) (fun c268 => ?_)
        · refine lv_iconst (v := 0) hx hb dX12_deal_90 (by decide) ?_
          exact J90 f49 0 ((fm_I g51 rh0 rfl).trans ((fm_I g41 rh0 rfl).trans ((fm_I g23 rh0 rfl).trans ((fm_I g13 rh0 rfl).trans e2)))) ((fm_R g51 rh0 rfl).trans ((fm_R g41 rh0 rfl).trans ((fm_R g23 rh0 rfl).trans ((fm_R g13 rh0 rfl).trans ((fm_R g4 rh0 rfl).trans mR))))) (by decide) z55 z54 _ _ _ hW hF (lv_sub hl [0, 1, 2, 3, 4] rfl)
        · refine lv_aload_n hx hb dX12_deal_57 rfl (lv_at hl 1 rfl) ?_
          refine fg_RX12_8 E hW rh0 dX12_deal_58 (fun a269 m270 r271 => ?_)
          obtain rfl : pR = a269 := (((fm_R g51 rh0 rfl).trans ((fm_R g41 rh0 rfl).trans ((fm_R g23 rh0 rfl).trans ((fm_R g13 rh0 rfl).trans ((fm_R g4 rh0 rfl).trans mR)))))).symm.trans m270
          refine lv_iload hx hb dX12_deal_61 (lv_at hl 0 rfl) ?_
          refine lv_iconst (v := 1) hx hb dX12_deal_63 (by decide) ?_
          refine q_iadd (Y := 1) hx hb dX12_deal_64 rfl rfl (by omega) (fun x272 h273 => ?_)
          refine gl_822 E hW rR ⟨by omega, by omega⟩ dX12_deal_65 (fun y274 m275 b276 => ?_)
          refine lv_iload_n hx hb dX12_deal_66 rfl (lv_at hl 4 rfl) ?_
          refine q_icmp_lt (tgt := 90) hx hb dX12_deal_67 (by decide) rfl rfl (fun c277 => ?_) (fun c277 => ?_)
          · refine lv_iconst (v := 0) hx hb dX12_deal_90 (by decide) ?_
            exact J90 f49 0 ((fm_I g51 rh0 rfl).trans ((fm_I g41 rh0 rfl).trans ((fm_I g23 rh0 rfl).trans ((fm_I g13 rh0 rfl).trans e2)))) m270 (by decide) z55 z54 _ _ _ hW hF (lv_sub hl [0, 1, 2, 3, 4] rfl)
          · refine lv_aload_n hx hb dX12_deal_70 rfl (lv_at hl 1 rfl) ?_
            refine lv_iload_n hx hb dX12_deal_71 rfl (lv_at hl 2 rfl) ?_
            have hW0 := hW.2.2.2
            refine t_callV (As := [.int u1]) (rest := []) E hW (c_X12_isAbout l G cI cJ cZ cD cR cT kp L f49 hW.2.2.2 _ h0 u1 rh0 (by omega)) rh0 (by decide) rfl wk_X12_isAbout tw_1970 rfl ⟨Nat.le_of_ble_eq_true rfl, Nat.le_of_ble_eq_true rfl⟩ ⟨rfl, rfl⟩ hl.1 rfl (Nat.le_of_ble_eq_true rfl) dX12_deal_72 ⟨Nat.le_of_ble_eq_true rfl, Nat.le_of_ble_eq_true rfl⟩ (fun v278 f279 H locs q280 hW => ?_)
            obtain ⟨⟨x282, rfl, p283⟩, g281⟩ := q280
            have z284 : RP (aI (f279 pR)) 0 = RP (aI (f0 pR)) 0 := rp_fm z54 g281 rR rfl
            have z285 : RF rw_X12_deal_u f0 f279 h0 := rf_fm hTH z55 g281 rh0 rfl
            have hF := FM.tr hF g281 rfl
            refine q_if_eq (tgt := 90) hx hb dX12_deal_75 (by decide) rfl (fun c286 => ?_) (fun c286 => ?_)
            · refine lv_iconst (v := 0) hx hb dX12_deal_90 (by decide) ?_
              exact J90 f279 0 ((fm_I g281 rh0 rfl).trans ((fm_I g51 rh0 rfl).trans ((fm_I g41 rh0 rfl).trans ((fm_I g23 rh0 rfl).trans ((fm_I g13 rh0 rfl).trans e2))))) ((fm_R g281 rh0 rfl).trans m270) (by decide) z285 z284 _ _ _ hW hF (lv_sub hl [0, 1, 2, 3, 4] rfl)
            · refine lv_aload_n hx hb dX12_deal_78 rfl (lv_at hl 1 rfl) ?_
              refine lv_iload_n hx hb dX12_deal_79 rfl (lv_at hl 3 rfl) ?_
              have hW0 := hW.2.2.2
              refine t_callV (As := [.int u2]) (rest := []) E hW (c_X12_isAbout l G cI cJ cZ cD cR cT kp L f279 hW.2.2.2 _ h0 u2 rh0 (by omega)) rh0 (by decide) rfl wk_X12_isAbout tw_1970 rfl ⟨Nat.le_of_ble_eq_true rfl, Nat.le_of_ble_eq_true rfl⟩ ⟨rfl, rfl⟩ hl.1 rfl (Nat.le_of_ble_eq_true rfl) dX12_deal_80 ⟨Nat.le_of_ble_eq_true rfl, Nat.le_of_ble_eq_true rfl⟩ (fun v287 f288 H locs q289 hW => ?_)
              obtain ⟨⟨x291, rfl, p292⟩, g290⟩ := q289
              have m293 : aI (f288 pR) (x272 : Int32).toNatClampNeg = y274 := ((congrArg (fun z => aI z (x272 : Int32).toNatClampNeg) (fm_A g290 rR (by decide) rfl)).trans ((congrArg (fun z => aI z (x272 : Int32).toNatClampNeg) (fm_A g281 rR (by decide) rfl)).trans m275))
              have z294 : RP (aI (f288 pR)) 0 = RP (aI (f0 pR)) 0 := rp_fm z284 g290 rR rfl
              have z295 : RF rw_X12_deal_u f0 f288 h0 := rf_fm hTH z285 g290 rh0 rfl
              have hF := FM.tr hF g290 rfl
              refine q_if_eq (tgt := 90) hx hb dX12_deal_83 (by decide) rfl (fun c296 => ?_) (fun c296 => ?_)
              · refine lv_iconst (v := 0) hx hb dX12_deal_90 (by decide) ?_
                exact J90 f288 0 ((fm_I g290 rh0 rfl).trans ((fm_I g281 rh0 rfl).trans ((fm_I g51 rh0 rfl).trans ((fm_I g41 rh0 rfl).trans ((fm_I g23 rh0 rfl).trans ((fm_I g13 rh0 rfl).trans e2)))))) ((fm_R g290 rh0 rfl).trans ((fm_R g281 rh0 rfl).trans m270)) (by decide) z295 z294 _ _ _ hW hF (lv_sub hl [0, 1, 2, 3, 4] rfl)
              · refine lv_iconst (v := 1) hx hb dX12_deal_86 (by decide) ?_
                refine lv_goto (tgt := 91) hx hb dX12_deal_87 (by decide) ?_
                exact J90 f288 1 ((fm_I g290 rh0 rfl).trans ((fm_I g281 rh0 rfl).trans ((fm_I g51 rh0 rfl).trans ((fm_I g41 rh0 rfl).trans ((fm_I g23 rh0 rfl).trans ((fm_I g13 rh0 rfl).trans e2)))))) ((fm_R g290 rh0 rfl).trans ((fm_R g281 rh0 rfl).trans m270)) (by decide) z295 z294 _ _ _ hW hF (lv_sub hl [0, 1, 2, 3, 4] rfl)
      · clear p43
        refine lv_aload_n hx hb dX12_deal_39 rfl (lv_at hl 0 rfl) ?_
        refine lv_bipush (v := (-2)) hx hb dX12_deal_40 (by decide) ?_
        have hW0 := hW.2.2.2
        refine t_callV (As := [.int (-2)]) (rest := []) E hW (c_X12_told_x l G cI cJ cZ cD cR cT kp L f39 hW.2.2.2 _ h0 (-2) rh0) rh0 (by decide) rfl wk_X12_told tw_1557 rfl ⟨Nat.le_of_ble_eq_true rfl, Nat.le_of_ble_eq_true rfl⟩ ⟨rfl, rfl⟩ hl.1 rfl (Nat.le_of_ble_eq_true rfl) dX12_deal_42 ⟨Nat.le_of_ble_eq_true rfl, Nat.le_of_ble_eq_true rfl⟩ (fun v297 f298 H locs q299 hW => ?_)
        obtain ⟨⟨x301, rfl, p302⟩, g300⟩ := q299
        have p302 : x301.toInt = (-2 : Int) := p302
        have z303 : RP (aI (f298 pR)) 0 = RP (aI (f0 pR)) 0 := rp_fm z44 g300 rR rfl
        have z304 : RF rw_X12_deal_u f0 f298 h0 := rf_fm hTH z45 g300 rh0 rfl
        have hF := FM.tr hF g300 rfl
        exact e_I E hW rfl ⟨⟨_, rfl, trivial⟩, hF, (by rw [mR]; exact z303), z304⟩ dX12_deal_45
  · have q305 : (x7.toInt < (1 : Int) ∨ (10000 : Int) < x7.toInt) := by omega
    clear p15
    refine lv_aload_n hx hb dX12_deal_17 rfl (lv_at hl 0 rfl) ?_
    refine lv_iconst (v := (-1)) hx hb dX12_deal_18 (by decide) ?_
    have hW0 := hW.2.2.2
    refine t_callV (As := [.int (-1)]) (rest := []) E hW (c_X12_told_x l G cI cJ cZ cD cR cT kp L f11 hW.2.2.2 _ h0 (-1) rh0) rh0 (by decide) rfl wk_X12_told tw_1557 rfl ⟨Nat.le_of_ble_eq_true rfl, Nat.le_of_ble_eq_true rfl⟩ ⟨rfl, rfl⟩ hl.1 rfl (Nat.le_of_ble_eq_true rfl) dX12_deal_19 ⟨Nat.le_of_ble_eq_true rfl, Nat.le_of_ble_eq_true rfl⟩ (fun v306 f307 H locs q308 hW => ?_)
    obtain ⟨⟨x310, rfl, p311⟩, g309⟩ := q308
    have p311 : x310.toInt = (-1 : Int) := p311
    have z312 : RP (aI (f307 pR)) 0 = RP (aI (f0 pR)) 0 := rp_fm z16 g309 rR rfl
    have z313 : RF rw_X12_deal_u f0 f307 h0 := rf_fm hTH z17 g309 rh0 rfl
    have hF := FM.tr hF g309 rfl
    exact e_I E hW rfl ⟨⟨_, rfl, trivial⟩, hF, (by rw [mR]; exact z312), z313⟩ dX12_deal_22
def rw_X12_take_u : List (Nat × Nat) := [(27, 339), (367, 681)]
def ms_X12_take_u : List (Nat × Nat) := [(12, 0), (12, 1), (12, 33), (12, 34), (12, 35), (12, 36), (12, 37), (822, 0), (849, 0), (850, 0), (851, 0), (852, 0)]
def po_X12_take_u (kp : Nat → Nat) (L : List Nat) (f0 : Nat → va_E) (h0 : Nat) (u1 : Int32) (u2 : Int32) (u3 : Int32) : Option Value → (Nat → va_E) → Prop := fun v f => (∃ r : Int32, v = some (.int r) ∧ (True)) ∧ FM kp L ms_X12_take_u f0 f ∧ (RP (aI (f (oR (f0 h0) 2))) 0 = RP (aI (f0 (oR (f0 h0) 2))) 0) ∧ (RF rw_X12_take_u f0 f h0)
set_option maxHeartbeats 4000000 in
set_option maxRecDepth 100000 in
theorem c_X12_take_u (l : Launch) (G : va_G) (cI cJ cZ cD cR cT : ClassId) (kp : Nat → Nat) (L : List Nat) (f0 : Nat → va_E) (hTH : TH cI cJ cZ cD cR cT kp L f0) (sz : Nat) (h0 : Nat) (u1 : Int32) (u2 : Int32) (u3 : Int32) (rh0 : RK kp L h0 12) (hTX : TX (aI (f0 (oR (f0 h0) 2)))) : Met l yX12_take (Cond.code yX12_take cX12_take 6 (some .int) :: wTab) ({ frames := 5, cells := 0, slots := 0, locals := 141 }) (va_Pc [.ref h0, .int u1, .int u2, .int u3] (PreW G (tys6 cI cJ cZ cD cR cT) (va_pl L f0) sz)) (QT (po_X12_take_u kp L f0 h0 u1 u2 u3) G cI cJ cZ cD cR cT (va_A (va_pl L f0) sz) kp L) 0 0 (va_A (va_pl L f0) sz) := by
  refine metT (by decide) (Nat.le_of_ble_eq_true rfl) hTH ?_
  intro p e s m below meth c A ls E hW hl
  obtain ⟨hx, hb, -, hml, hown, hts, -, -, -⟩ := id E
  have hF : FM kp L ms_X12_take_u f0 f0 := FM.rf
  have hl : lv_has ls 6 [(0, .ref h0), (1, .int u1), (2, .int u2), (3, .int u3)] := hl
  obtain ⟨pR, mR⟩ : ∃ x : Nat, oR (f0 h0) 2 = x := ⟨_, rfl⟩
  have rR : RK kp L pR 822 := by rw [← mR]; exact th_ref hTH rh0 (by decide) (by decide) rfl
  rw [mR] at hTX
  refine lv_aload_n hx hb dX12_take_0 rfl (lv_at hl 0 rfl) ?_
  refine lv_iconst (v := 0) hx hb dX12_take_1 (by decide) ?_
  have hW0 := hW.2.2.2
  refine fp_RX12_82 E hW rh0 dX12_take_2 (fun f1 H locs e2 n3 g4 hW => ?_)
  have z5 : RP (aI (f1 pR)) 0 = RP (aI (f0 pR)) 0 := rp_fm (rfl : RP (aI (f0 pR)) 0 = RP (aI (f0 pR)) 0) g4 rR rfl
  have z6 : RF rw_X12_take_u f0 f1 h0 := rf_fm hTH rf_rf g4 rh0 rfl
  have hF := FM.tr hF g4 rfl
  refine lv_iload_n hx hb dX12_take_5 rfl (lv_at hl 3 rfl) ?_
  refine q_i2l hx hb dX12_take_6 rfl (fun x7 h8 => ?_)
  have hb9 : -2147483648 ≤ x7.toInt ∧ x7.toInt ≤ 2147483647 := by have := i32_b u3; omega
  refine lv_lconst (v := 0) hx hb dX12_take_7 (by decide) ?_
  refine lv_lconst (v := 1) hx hb dX12_take_8 (by decide) ?_
  have hW0 := hW.2.2.2
  refine t_callS (As := [.long x7, .long 0, .long 1]) (rest := []) E hW (c_X12_in l G cI cJ cZ cD cR cT kp L f1 hW.2.2.2 _ x7 0 1) wk_X12_in tw_1554 rfl ⟨Nat.le_of_ble_eq_true rfl, Nat.le_of_ble_eq_true rfl⟩ ⟨rfl, rfl⟩ hl.1 rfl (Nat.le_of_ble_eq_true rfl) dX12_take_9 ⟨Nat.le_of_ble_eq_true rfl, Nat.le_of_ble_eq_true rfl⟩ (fun v10 f11 H locs q12 hW => ?_)
  obtain ⟨⟨x14, rfl, p15⟩, g13⟩ := q12
  have p15 : (x14.toInt = 1 ∧ (0 : Int) ≤ x7.toInt ∧ x7.toInt ≤ (1 : Int)) ∨ (x14.toInt = 0 ∧ (x7.toInt < (0 : Int) ∨ (1 : Int) < x7.toInt)) := p15
  have z16 : RP (aI (f11 pR)) 0 = RP (aI (f0 pR)) 0 := rp_fm z5 g13 rR rfl
  have z17 : RF rw_X12_take_u f0 f11 h0 := rf_fm hTH z6 g13 rh0 rfl
  have hF := FM.tr hF g13 rfl
  refine q_if_ne (tgt := 21) hx hb dX12_take_12 (by decide) rfl (fun c18 => ?_) (fun c18 => ?_)
  · have q19 : (0 : Int) ≤ x7.toInt ∧ x7.toInt ≤ (1 : Int) := by omega
    clear p15
    refine lv_aload_n hx hb dX12_take_21 rfl (lv_at hl 0 rfl) ?_
    refine lv_iload_n hx hb dX12_take_22 rfl (lv_at hl 1 rfl) ?_
    have hW0 := hW.2.2.2
    refine t_callV (As := [.int u1]) (rest := []) E hW (c_X12_isPerson l G cI cJ cZ cD cR cT kp L f11 hW.2.2.2 _ h0 u1 rh0) rh0 (by decide) rfl wk_X12_isPerson tw_1583 rfl ⟨Nat.le_of_ble_eq_true rfl, Nat.le_of_ble_eq_true rfl⟩ ⟨rfl, rfl⟩ hl.1 rfl (Nat.le_of_ble_eq_true rfl) dX12_take_23 ⟨Nat.le_of_ble_eq_true rfl, Nat.le_of_ble_eq_true rfl⟩ (fun v20 f21 H locs q22 hW => ?_)
    obtain ⟨⟨x24, rfl, p25⟩, g23⟩ := q22
    have z26 : RP (aI (f21 pR)) 0 = RP (aI (f0 pR)) 0 := rp_fm z16 g23 rR rfl
    have z27 : RF rw_X12_take_u f0 f21 h0 := rf_fm hTH z17 g23 rh0 rfl
    have hF := FM.tr hF g23 rfl
    refine q_if_eq (tgt := 37) hx hb dX12_take_26 (by decide) rfl (fun c28 => ?_) (fun c28 => ?_)
    · clear p25
      refine lv_aload_n hx hb dX12_take_37 rfl (lv_at hl 0 rfl) ?_
      refine lv_bipush (v := (-2)) hx hb dX12_take_38 (by decide) ?_
      have hW0 := hW.2.2.2
      refine t_callV (As := [.int (-2)]) (rest := []) E hW (c_X12_told_x l G cI cJ cZ cD cR cT kp L f21 hW.2.2.2 _ h0 (-2) rh0) rh0 (by decide) rfl wk_X12_told tw_1557 rfl ⟨Nat.le_of_ble_eq_true rfl, Nat.le_of_ble_eq_true rfl⟩ ⟨rfl, rfl⟩ hl.1 rfl (Nat.le_of_ble_eq_true rfl) dX12_take_40 ⟨Nat.le_of_ble_eq_true rfl, Nat.le_of_ble_eq_true rfl⟩ (fun v29 f30 H locs q31 hW => ?_)
      obtain ⟨⟨x33, rfl, p34⟩, g32⟩ := q31
      have p34 : x33.toInt = (-2 : Int) := p34
      have z35 : RP (aI (f30 pR)) 0 = RP (aI (f0 pR)) 0 := rp_fm z26 g32 rR rfl
      have z36 : RF rw_X12_take_u f0 f30 h0 := rf_fm hTH z27 g32 rh0 rfl
      have hF := FM.tr hF g32 rfl
      exact e_I E hW rfl ⟨⟨_, rfl, trivial⟩, hF, (by rw [mR]; exact z35), z36⟩ dX12_take_43
    · have q37 : 0 ≤ u1.toInt ∧ u1.toInt ≤ 39 := by omega
      clear p25
      refine lv_aload_n hx hb dX12_take_29 rfl (lv_at hl 0 rfl) ?_
      refine lv_iload_n hx hb dX12_take_30 rfl (lv_at hl 2 rfl) ?_
      have hW0 := hW.2.2.2
      refine t_callV (As := [.int u2]) (rest := []) E hW (c_X12_isField l G cI cJ cZ cD cR cT kp L f21 hW.2.2.2 _ h0 u2 rh0) rh0 (by decide) rfl wk_X12_isField tw_1639 rfl ⟨Nat.le_of_ble_eq_true rfl, Nat.le_of_ble_eq_true rfl⟩ ⟨rfl, rfl⟩ hl.1 rfl (Nat.le_of_ble_eq_true rfl) dX12_take_31 ⟨Nat.le_of_ble_eq_true rfl, Nat.le_of_ble_eq_true rfl⟩ (fun v38 f39 H locs q40 hW => ?_)
      obtain ⟨⟨x42, rfl, p43⟩, g41⟩ := q40
      have z44 : RP (aI (f39 pR)) 0 = RP (aI (f0 pR)) 0 := rp_fm z26 g41 rR rfl
      have z45 : RF rw_X12_take_u f0 f39 h0 := rf_fm hTH z27 g41 rh0 rfl
      have hF := FM.tr hF g41 rfl
      refine q_if_ne (tgt := 44) hx hb dX12_take_34 (by decide) rfl (fun c46 => ?_) (fun c46 => ?_)
      · have q47 : 0 ≤ u2.toInt ∧ u2.toInt ≤ 39 := by omega
        clear p43
        refine lv_iload_n hx hb dX12_take_44 rfl (lv_at hl 2 rfl) ?_
        have hW0 := hW.2.2.2
        refine t_callS (As := [.int u2]) (rest := []) E hW (c_X12_fieldAt l G cI cJ cZ cD cR cT kp L f39 hW.2.2.2 _ u2 (by omega)) wk_X12_fieldAt tw_1624 rfl ⟨Nat.le_of_ble_eq_true rfl, Nat.le_of_ble_eq_true rfl⟩ ⟨rfl, rfl⟩ hl.1 rfl (Nat.le_of_ble_eq_true rfl) dX12_take_45 ⟨Nat.le_of_ble_eq_true rfl, Nat.le_of_ble_eq_true rfl⟩ (fun v48 f49 H locs q50 hW => ?_)
        obtain ⟨⟨x52, rfl, p53⟩, g51⟩ := q50
        have z54 : RP (aI (f49 pR)) 0 = RP (aI (f0 pR)) 0 := rp_fm z44 g51 rR rfl
        have z55 : RF rw_X12_take_u f0 f49 h0 := rf_fm hTH z45 g51 rh0 rfl
        have hF := FM.tr hF g51 rfl
        refine lv_istore (lv' := [(4, .int x52), (0, .ref h0), (1, .int u1), (2, .int u2), (3, .int u3)]) hx hb dX12_take_48 hl (by decide) rfl (fun ls hl => ?_)
        refine lv_aload_n hx hb dX12_take_50 rfl (lv_at hl 1 rfl) ?_
        have hW0 := hW.2.2.2
        refine t_callV (As := []) (rest := []) E hW (c_X12_forceNow l G cI cJ cZ cD cR cT kp L f49 hW.2.2.2 _ h0 rh0 (by rw [((fm_R g51 rh0 rfl).trans ((fm_R g41 rh0 rfl).trans ((fm_R g23 rh0 rfl).trans ((fm_R g13 rh0 rfl).trans ((fm_R g4 rh0 rfl).trans mR)))))]; exact (tx_rf hTX z55 mR rfl rfl))) rh0 (by decide) rfl wk_X12_forceNow tw_1647 rfl ⟨Nat.le_of_ble_eq_true rfl, Nat.le_of_ble_eq_true rfl⟩ ⟨rfl, rfl⟩ hl.1 rfl (Nat.le_of_ble_eq_true rfl) dX12_take_51 ⟨Nat.le_of_ble_eq_true rfl, Nat.le_of_ble_eq_true rfl⟩ (fun v56 f57 H locs q58 hW => ?_)
        obtain ⟨rfl, g59⟩ := q58
        have z60 : RP (aI (f57 pR)) 0 = RP (aI (f0 pR)) 0 := rp_fm z54 g59 rR rfl
        have z61 : RF rw_X12_take_u f0 f57 h0 := rf_fm hTH z55 g59 rh0 rfl
        have hF := FM.tr hF g59 rfl
        refine lv_aload_n hx hb dX12_take_54 rfl (lv_at hl 1 rfl) ?_
        refine fg_RX12_8 E hW rh0 dX12_take_55 (fun a62 m63 r64 => ?_)
        obtain rfl : pR = a62 := (((fm_R g59 rh0 rfl).trans ((fm_R g51 rh0 rfl).trans ((fm_R g41 rh0 rfl).trans ((fm_R g23 rh0 rfl).trans ((fm_R g13 rh0 rfl).trans ((fm_R g4 rh0 rfl).trans mR))))))).symm.trans m63
        refine lv_iload_n hx hb dX12_take_58 rfl (lv_at hl 2 rfl) ?_
        have hW0 := hW.2.2.2
        refine t_callS (As := [.int u1]) (rest := [.ref pR]) E hW (c_X12_personAt l G cI cJ cZ cD cR cT kp L f57 hW.2.2.2 _ u1 (by omega)) wk_X12_personAt tw_1572 rfl ⟨Nat.le_of_ble_eq_true rfl, Nat.le_of_ble_eq_true rfl⟩ ⟨rfl, rfl⟩ hl.1 rfl (Nat.le_of_ble_eq_true rfl) dX12_take_59 ⟨Nat.le_of_ble_eq_true rfl, Nat.le_of_ble_eq_true rfl⟩ (fun v65 f66 H locs q67 hW => ?_)
        obtain ⟨⟨x69, rfl, p70⟩, g68⟩ := q67
        have z71 : RP (aI (f66 pR)) 0 = RP (aI (f0 pR)) 0 := rp_fm z60 g68 rR rfl
        have z72 : RF rw_X12_take_u f0 f66 h0 := rf_fm hTH z61 g68 rh0 rfl
        have hF := FM.tr hF g68 rfl
        refine lv_iconst (v := 5) hx hb dX12_take_62 (by decide) ?_
        refine q_iadd (Y := 5) hx hb dX12_take_63 rfl rfl (by omega) (fun x73 h74 => ?_)
        refine gl_822 E hW rR ⟨by omega, by omega⟩ dX12_take_64 (fun y75 m76 b77 => ?_)
        have J101 : ∀ (y99 : Int32) (b100 : (0 : Int) ≤ y99.toInt ∧ y99.toInt ≤ 1) (H : Heap) (locs : List Loc) (ls : Array Slot), WS G cI cJ cZ cD cR cT A kp L f66 s H locs → FM kp L ms_X12_take_u f0 f66 → lv_has ls 6 [(4, .int x52), (0, .ref h0), (1, .int u1), (2, .int u2), (3, .int u3)] → W p l e ({ frames := 5, cells := 0, slots := 0, locals := 141 }) s m ([.ref h0, .int u1, .int u2, .int u3] : List Value).toArray below meth c H locs 0 0 (MQ below (QT (po_X12_take_u kp L f0 h0 u1 u2 u3) G cI cJ cZ cD cR cT A kp L) ([.ref h0, .int u1, .int u2, .int u3] : List Value).toArray s 0 0 A) (F0 m 102 ls [.int y99]) := by
          intro y99 b100 H locs ls hW hF hl
          clear c18 c28 c46
          refine lv_istore (lv' := [(5, .int y99), (4, .int x52), (0, .ref h0), (1, .int u1), (2, .int u2), (3, .int u3)]) hx hb dX12_take_102 hl (by decide) rfl (fun ls hl => ?_)
          refine lv_iload hx hb dX12_take_104 (lv_at hl 0 rfl) ?_
          refine q_if_eq (tgt := 124) hx hb dX12_take_106 (by decide) rfl (fun c102 => ?_) (fun c102 => ?_)
          · refine lv_aload_n hx hb dX12_take_124 rfl (lv_at hl 2 rfl) ?_
            refine lv_bipush (v := (-3)) hx hb dX12_take_125 (by decide) ?_
            have hW0 := hW.2.2.2
            refine t_callV (As := [.int (-3)]) (rest := []) E hW (c_X12_told_x l G cI cJ cZ cD cR cT kp L f66 hW.2.2.2 _ h0 (-3) rh0) rh0 (by decide) rfl wk_X12_told tw_1557 rfl ⟨Nat.le_of_ble_eq_true rfl, Nat.le_of_ble_eq_true rfl⟩ ⟨rfl, rfl⟩ hl.1 rfl (Nat.le_of_ble_eq_true rfl) dX12_take_127 ⟨Nat.le_of_ble_eq_true rfl, Nat.le_of_ble_eq_true rfl⟩ (fun v103 f104 H locs q105 hW => ?_)
            obtain ⟨⟨x107, rfl, p108⟩, g106⟩ := q105
            have p108 : x107.toInt = (-3 : Int) := p108
            have m109 : oI (f104 h0) 0 = 0 := ((fm_I g106 rh0 rfl).trans ((fm_I g68 rh0 rfl).trans ((fm_I g59 rh0 rfl).trans ((fm_I g51 rh0 rfl).trans ((fm_I g41 rh0 rfl).trans ((fm_I g23 rh0 rfl).trans ((fm_I g13 rh0 rfl).trans e2)))))))
            have z110 : RP (aI (f104 pR)) 0 = RP (aI (f0 pR)) 0 := rp_fm z71 g106 rR rfl
            have z111 : RF rw_X12_take_u f0 f104 h0 := rf_fm hTH z72 g106 rh0 rfl
            have hF := FM.tr hF g106 rfl
            exact e_I E hW rfl ⟨⟨_, rfl, trivial⟩, hF, (by rw [mR]; exact z110), z111⟩ dX12_take_130
          · refine lv_iload_n hx hb dX12_take_109 rfl (lv_at hl 5 rfl) ?_
            refine q_if_ne (tgt := 131) hx hb dX12_take_110 (by decide) rfl (fun c112 => ?_) (fun c112 => ?_)
            · refine lv_aload_n hx hb dX12_take_131 rfl (lv_at hl 2 rfl) ?_
              refine fg_RX12_8 E hW rh0 dX12_take_132 (fun a113 m114 r115 => ?_)
              obtain rfl : pR = a113 := (((fm_R g68 rh0 rfl).trans m63)).symm.trans m114
              refine lv_iload hx hb dX12_take_135 (lv_at hl 1 rfl) ?_
              refine lv_iconst (v := 3) hx hb dX12_take_137 (by decide) ?_
              refine q_iadd (Y := 3) hx hb dX12_take_138 rfl rfl (by omega) (fun x116 h117 => ?_)
              refine lv_iload_n hx hb dX12_take_139 rfl (lv_at hl 3 rfl) ?_
              have hW0 := hW.2.2.2
              refine gs_822 E hW rR ⟨by omega, by omega⟩ (fun hc => rr_up hc (by omega) (by omega) (by unfold rbI; omega)) dX12_take_140 (fun f118 H locs e119 n120 g121 hW => ?_)
              have m122 : oI (f118 h0) 0 = 0 := ((fm_I g121 rh0 rfl).trans ((fm_I g68 rh0 rfl).trans ((fm_I g59 rh0 rfl).trans ((fm_I g51 rh0 rfl).trans ((fm_I g41 rh0 rfl).trans ((fm_I g23 rh0 rfl).trans ((fm_I g13 rh0 rfl).trans e2)))))))
              have z123 : RP (aI (f118 pR)) 0 = RP (aI (f0 pR)) 0 := rp_st z71 e119 (by omega) ⟨by omega, fun _ _ => by omega⟩
              have z124 : RF rw_X12_take_u f0 f118 h0 := rf_st (lo := 367) (hi := 679) z72 mR e119 (by omega) rfl
              have hF := FM.tr hF g121 rfl
              refine lv_aload_n hx hb dX12_take_141 rfl (lv_at hl 2 rfl) ?_
              refine fg_RX12_8 E hW rh0 dX12_take_142 (fun a125 m126 r127 => ?_)
              obtain rfl : pR = a125 := (((fm_R g121 rh0 rfl).trans m114)).symm.trans m126
              refine lv_iload hx hb dX12_take_145 (lv_at hl 1 rfl) ?_
              refine lv_iconst (v := 5) hx hb dX12_take_147 (by decide) ?_
              refine q_iadd (Y := 5) hx hb dX12_take_148 rfl rfl (by omega) (fun x128 h129 => ?_)
              refine lv_iconst (v := 1) hx hb dX12_take_149 (by decide) ?_
              refine lv_iload_n hx hb dX12_take_150 rfl (lv_at hl 5 rfl) ?_
              refine q_isub (X := 1) hx hb dX12_take_151 rfl rfl (by omega) (fun x130 h131 => ?_)
              have hW0 := hW.2.2.2
              refine gs_822 E hW rR ⟨by omega, by omega⟩ (fun hc => rr_up hc (by omega) (by omega) (by unfold rbI; omega)) dX12_take_152 (fun f132 H locs e133 n134 g135 hW => ?_)
              have z136 : RP (aI (f132 pR)) 0 = RP (aI (f0 pR)) 0 := rp_st z123 e133 (by omega) ⟨by omega, fun _ _ => by omega⟩
              have z137 : RF rw_X12_take_u f0 f132 h0 := rf_st (lo := 369) (hi := 681) z124 mR e133 (by omega) rfl
              have hF := FM.tr hF g135 rfl
              refine lv_aload_n hx hb dX12_take_153 rfl (lv_at hl 2 rfl) ?_
              refine fg_RX12_8 E hW rh0 dX12_take_154 (fun a138 m139 r140 => ?_)
              obtain rfl : pR = a138 := (((fm_R g135 rh0 rfl).trans m126)).symm.trans m139
              refine lv_iload_n hx hb dX12_take_157 rfl (lv_at hl 3 rfl) ?_
              have hW0 := hW.2.2.2
              refine t_callS (As := [.int u1]) (rest := [.ref pR]) E hW (c_X12_personAt l G cI cJ cZ cD cR cT kp L f132 hW.2.2.2 _ u1 (by omega)) wk_X12_personAt tw_1572 rfl ⟨Nat.le_of_ble_eq_true rfl, Nat.le_of_ble_eq_true rfl⟩ ⟨rfl, rfl⟩ hl.1 rfl (Nat.le_of_ble_eq_true rfl) dX12_take_158 ⟨Nat.le_of_ble_eq_true rfl, Nat.le_of_ble_eq_true rfl⟩ (fun v141 f142 H locs q143 hW => ?_)
              obtain ⟨⟨x145, rfl, p146⟩, g144⟩ := q143
              have m147 : aI (f142 pR) (x73 : Int32).toNatClampNeg = y75 := ((congrArg (fun z => aI z (x73 : Int32).toNatClampNeg) (fm_A g144 rR (by decide) rfl)).trans (show aI (f132 pR) (x73 : Int32).toNatClampNeg = y75 from by rw [e133, up_n (tn_ne (by omega) (by omega) (by omega))]; exact (show aI (f118 pR) (x73 : Int32).toNatClampNeg = y75 from by rw [e119, up_n (tn_ne (by omega) (by omega) (by omega))]; exact m76)))
              have m148 : aI (f142 pR) (x116 : Int32).toNatClampNeg = u1 := ((congrArg (fun z => aI z (x116 : Int32).toNatClampNeg) (fm_A g144 rR (by decide) rfl)).trans (show aI (f132 pR) (x116 : Int32).toNatClampNeg = u1 from by rw [e133, up_n (tn_ne (by omega) (by omega) (by omega))]; exact (show aI (f118 pR) (x116 : Int32).toNatClampNeg = u1 from by rw [e119]; exact up_s)))
              have m149 : aI (f142 pR) (x128 : Int32).toNatClampNeg = x130 := ((congrArg (fun z => aI z (x128 : Int32).toNatClampNeg) (fm_A g144 rR (by decide) rfl)).trans (show aI (f132 pR) (x128 : Int32).toNatClampNeg = x130 from by rw [e133]; exact up_s))
              have z150 : RP (aI (f142 pR)) 0 = RP (aI (f0 pR)) 0 := rp_fm z136 g144 rR rfl
              have z151 : RF rw_X12_take_u f0 f142 h0 := rf_fm hTH z137 g144 rh0 rfl
              have hF := FM.tr hF g144 rfl
              refine lv_bipush (v := 7) hx hb dX12_take_161 (by decide) ?_
              refine q_iadd (Y := 7) hx hb dX12_take_163 rfl rfl (by omega) (fun x152 h153 => ?_)
              refine lv_iconst (v := (-1)) hx hb dX12_take_164 (by decide) ?_
              have hk154 : ((-1) : Int32).toInt = -1 := rfl
              have hW0 := hW.2.2.2
              refine gs_822 E hW rR ⟨by omega, by omega⟩ (fun hc => rr_up hc (by omega) (by omega) (by unfold rbI; omega)) dX12_take_165 (fun f155 H locs e156 n157 g158 hW => ?_)
              have hk160 : ((-1) : Int32).toInt = -1 := rfl
              have z159 : RP (aI (f155 pR)) 0 = RP (aI (f0 pR)) 0 := rp_st z150 e156 (by omega) (by omega)
              have z161 : RF rw_X12_take_u f0 f155 h0 := rf_st (lo := 27) (hi := 339) z151 mR e156 (by omega) rfl
              have hF := FM.tr hF g158 rfl
              refine lv_aload_n hx hb dX12_take_166 rfl (lv_at hl 2 rfl) ?_
              refine lv_iconst (v := 0) hx hb dX12_take_167 (by decide) ?_
              have hW0 := hW.2.2.2
              refine t_callV (As := [.int 0]) (rest := []) E hW (c_X12_told_x l G cI cJ cZ cD cR cT kp L f155 hW.2.2.2 _ h0 0 rh0) rh0 (by decide) rfl wk_X12_told tw_1557 rfl ⟨Nat.le_of_ble_eq_true rfl, Nat.le_of_ble_eq_true rfl⟩ ⟨rfl, rfl⟩ hl.1 rfl (Nat.le_of_ble_eq_true rfl) dX12_take_168 ⟨Nat.le_of_ble_eq_true rfl, Nat.le_of_ble_eq_true rfl⟩ (fun v162 f163 H locs q164 hW => ?_)
              obtain ⟨⟨x166, rfl, p167⟩, g165⟩ := q164
              have p167 : x166.toInt = (0 : Int) := p167
              have m168 : aI (f163 pR) (x73 : Int32).toNatClampNeg = y75 := ((congrArg (fun z => aI z (x73 : Int32).toNatClampNeg) (fm_A g165 rR (by decide) rfl)).trans (show aI (f155 pR) (x73 : Int32).toNatClampNeg = y75 from by rw [e156, up_n (tn_ne (by omega) (by omega) (by omega))]; exact m147))
              have m169 : aI (f163 pR) (x116 : Int32).toNatClampNeg = u1 := ((congrArg (fun z => aI z (x116 : Int32).toNatClampNeg) (fm_A g165 rR (by decide) rfl)).trans (show aI (f155 pR) (x116 : Int32).toNatClampNeg = u1 from by rw [e156, up_n (tn_ne (by omega) (by omega) (by omega))]; exact m148))
              have m170 : aI (f163 pR) (x128 : Int32).toNatClampNeg = x130 := ((congrArg (fun z => aI z (x128 : Int32).toNatClampNeg) (fm_A g165 rR (by decide) rfl)).trans (show aI (f155 pR) (x128 : Int32).toNatClampNeg = x130 from by rw [e156, up_n (tn_ne (by omega) (by omega) (by omega))]; exact m149))
              have m171 : aI (f163 pR) (x152 : Int32).toNatClampNeg = (-1) := ((congrArg (fun z => aI z (x152 : Int32).toNatClampNeg) (fm_A g165 rR (by decide) rfl)).trans (show aI (f155 pR) (x152 : Int32).toNatClampNeg = (-1) from by rw [e156]; exact up_s))
              have z172 : RP (aI (f163 pR)) 0 = RP (aI (f0 pR)) 0 := rp_fm z159 g165 rR rfl
              have z173 : RF rw_X12_take_u f0 f163 h0 := rf_fm hTH z161 g165 rh0 rfl
              have hF := FM.tr hF g165 rfl
              exact e_I E hW rfl ⟨⟨_, rfl, trivial⟩, hF, (by rw [mR]; exact z172), z173⟩ dX12_take_171
            · refine lv_aload_n hx hb dX12_take_113 rfl (lv_at hl 2 rfl) ?_
              refine lv_bipush (v := 6) hx hb dX12_take_114 (by decide) ?_
              refine lv_iload_n hx hb dX12_take_116 rfl (lv_at hl 3 rfl) ?_
              refine lv_iload_n hx hb dX12_take_117 rfl (lv_at hl 4 rfl) ?_
              have hW0 := hW.2.2.2
              refine t_callV (As := [.int 6, .int u1, .int u2]) (rest := []) E hW (c_X12_find l G cI cJ cZ cD cR cT kp L f66 hW.2.2.2 _ h0 6 u1 u2 rh0 (by decide) (by omega) (by omega) (by rw [((fm_R g68 rh0 rfl).trans m63)]; exact (tx_rf hTX z72 mR rfl rfl))) rh0 (by decide) rfl wk_X12_find tw_1669 rfl ⟨Nat.le_of_ble_eq_true rfl, Nat.le_of_ble_eq_true rfl⟩ ⟨rfl, rfl⟩ hl.1 rfl (Nat.le_of_ble_eq_true rfl) dX12_take_118 ⟨Nat.le_of_ble_eq_true rfl, Nat.le_of_ble_eq_true rfl⟩ (fun v174 f175 H locs q176 hW => ?_)
              obtain ⟨⟨x178, rfl, p179⟩, g177⟩ := q176
              have p179 : (0 : Int) ≤ x178.toInt ∧ x178.toInt ≤ 1 := p179
              have m180 : oI (f175 h0) 0 = 0 := ((fm_I g177 rh0 rfl).trans ((fm_I g68 rh0 rfl).trans ((fm_I g59 rh0 rfl).trans ((fm_I g51 rh0 rfl).trans ((fm_I g41 rh0 rfl).trans ((fm_I g23 rh0 rfl).trans ((fm_I g13 rh0 rfl).trans e2)))))))
              have z181 : RP (aI (f175 pR)) 0 = RP (aI (f0 pR)) 0 := rp_fm z71 g177 rR rfl
              have z182 : RF rw_X12_take_u f0 f175 h0 := rf_fm hTH z72 g177 rh0 rfl
              have hF := FM.tr hF g177 rfl
              refine q_if_ne (tgt := 131) hx hb dX12_take_121 (by decide) rfl (fun c183 => ?_) (fun c183 => ?_)
              · refine lv_aload_n hx hb dX12_take_131 rfl (lv_at hl 2 rfl) ?_
                refine fg_RX12_8 E hW rh0 dX12_take_132 (fun a184 m185 r186 => ?_)
                obtain rfl : pR = a184 := (((fm_R g177 rh0 rfl).trans ((fm_R g68 rh0 rfl).trans m63))).symm.trans m185
                refine lv_iload hx hb dX12_take_135 (lv_at hl 1 rfl) ?_
                refine lv_iconst (v := 3) hx hb dX12_take_137 (by decide) ?_
                refine q_iadd (Y := 3) hx hb dX12_take_138 rfl rfl (by omega) (fun x187 h188 => ?_)
                refine lv_iload_n hx hb dX12_take_139 rfl (lv_at hl 3 rfl) ?_
                have hW0 := hW.2.2.2
                refine gs_822 E hW rR ⟨by omega, by omega⟩ (fun hc => rr_up hc (by omega) (by omega) (by unfold rbI; omega)) dX12_take_140 (fun f189 H locs e190 n191 g192 hW => ?_)
                have z193 : RP (aI (f189 pR)) 0 = RP (aI (f0 pR)) 0 := rp_st z181 e190 (by omega) ⟨by omega, fun _ _ => by omega⟩
                have z194 : RF rw_X12_take_u f0 f189 h0 := rf_st (lo := 367) (hi := 679) z182 mR e190 (by omega) rfl
                have hF := FM.tr hF g192 rfl
                refine lv_aload_n hx hb dX12_take_141 rfl (lv_at hl 2 rfl) ?_
                refine fg_RX12_8 E hW rh0 dX12_take_142 (fun a195 m196 r197 => ?_)
                obtain rfl : pR = a195 := (((fm_R g192 rh0 rfl).trans m185)).symm.trans m196
                refine lv_iload hx hb dX12_take_145 (lv_at hl 1 rfl) ?_
                refine lv_iconst (v := 5) hx hb dX12_take_147 (by decide) ?_
                refine q_iadd (Y := 5) hx hb dX12_take_148 rfl rfl (by omega) (fun x198 h199 => ?_)
                refine lv_iconst (v := 1) hx hb dX12_take_149 (by decide) ?_
                refine lv_iload_n hx hb dX12_take_150 rfl (lv_at hl 5 rfl) ?_
                refine q_isub (X := 1) hx hb dX12_take_151 rfl rfl (by omega) (fun x200 h201 => ?_)
                have hW0 := hW.2.2.2
                refine gs_822 E hW rR ⟨by omega, by omega⟩ (fun hc => rr_up hc (by omega) (by omega) (by unfold rbI; omega)) dX12_take_152 (fun f202 H locs e203 n204 g205 hW => ?_)
                have z206 : RP (aI (f202 pR)) 0 = RP (aI (f0 pR)) 0 := rp_st z193 e203 (by omega) ⟨by omega, fun _ _ => by omega⟩
                have z207 : RF rw_X12_take_u f0 f202 h0 := rf_st (lo := 369) (hi := 681) z194 mR e203 (by omega) rfl
                have hF := FM.tr hF g205 rfl
                refine lv_aload_n hx hb dX12_take_153 rfl (lv_at hl 2 rfl) ?_
                refine fg_RX12_8 E hW rh0 dX12_take_154 (fun a208 m209 r210 => ?_)
                obtain rfl : pR = a208 := (((fm_R g205 rh0 rfl).trans m196)).symm.trans m209
                refine lv_iload_n hx hb dX12_take_157 rfl (lv_at hl 3 rfl) ?_
                have hW0 := hW.2.2.2
                refine t_callS (As := [.int u1]) (rest := [.ref pR]) E hW (c_X12_personAt l G cI cJ cZ cD cR cT kp L f202 hW.2.2.2 _ u1 (by omega)) wk_X12_personAt tw_1572 rfl ⟨Nat.le_of_ble_eq_true rfl, Nat.le_of_ble_eq_true rfl⟩ ⟨rfl, rfl⟩ hl.1 rfl (Nat.le_of_ble_eq_true rfl) dX12_take_158 ⟨Nat.le_of_ble_eq_true rfl, Nat.le_of_ble_eq_true rfl⟩ (fun v211 f212 H locs q213 hW => ?_)
                obtain ⟨⟨x215, rfl, p216⟩, g214⟩ := q213
                have m217 : aI (f212 pR) (x73 : Int32).toNatClampNeg = y75 := ((congrArg (fun z => aI z (x73 : Int32).toNatClampNeg) (fm_A g214 rR (by decide) rfl)).trans (show aI (f202 pR) (x73 : Int32).toNatClampNeg = y75 from by rw [e203, up_n (tn_ne (by omega) (by omega) (by omega))]; exact (show aI (f189 pR) (x73 : Int32).toNatClampNeg = y75 from by rw [e190, up_n (tn_ne (by omega) (by omega) (by omega))]; exact ((congrArg (fun z => aI z (x73 : Int32).toNatClampNeg) (fm_A g177 rR (by decide) rfl)).trans m76))))
                have m218 : aI (f212 pR) (x187 : Int32).toNatClampNeg = u1 := ((congrArg (fun z => aI z (x187 : Int32).toNatClampNeg) (fm_A g214 rR (by decide) rfl)).trans (show aI (f202 pR) (x187 : Int32).toNatClampNeg = u1 from by rw [e203, up_n (tn_ne (by omega) (by omega) (by omega))]; exact (show aI (f189 pR) (x187 : Int32).toNatClampNeg = u1 from by rw [e190]; exact up_s)))
                have m219 : aI (f212 pR) (x198 : Int32).toNatClampNeg = x200 := ((congrArg (fun z => aI z (x198 : Int32).toNatClampNeg) (fm_A g214 rR (by decide) rfl)).trans (show aI (f202 pR) (x198 : Int32).toNatClampNeg = x200 from by rw [e203]; exact up_s))
                have z220 : RP (aI (f212 pR)) 0 = RP (aI (f0 pR)) 0 := rp_fm z206 g214 rR rfl
                have z221 : RF rw_X12_take_u f0 f212 h0 := rf_fm hTH z207 g214 rh0 rfl
                have hF := FM.tr hF g214 rfl
                refine lv_bipush (v := 7) hx hb dX12_take_161 (by decide) ?_
                refine q_iadd (Y := 7) hx hb dX12_take_163 rfl rfl (by omega) (fun x222 h223 => ?_)
                refine lv_iconst (v := (-1)) hx hb dX12_take_164 (by decide) ?_
                have hk224 : ((-1) : Int32).toInt = -1 := rfl
                have hW0 := hW.2.2.2
                refine gs_822 E hW rR ⟨by omega, by omega⟩ (fun hc => rr_up hc (by omega) (by omega) (by unfold rbI; omega)) dX12_take_165 (fun f225 H locs e226 n227 g228 hW => ?_)
                have hk230 : ((-1) : Int32).toInt = -1 := rfl
                have z229 : RP (aI (f225 pR)) 0 = RP (aI (f0 pR)) 0 := rp_st z220 e226 (by omega) (by omega)
                have z231 : RF rw_X12_take_u f0 f225 h0 := rf_st (lo := 27) (hi := 339) z221 mR e226 (by omega) rfl
                have hF := FM.tr hF g228 rfl
                refine lv_aload_n hx hb dX12_take_166 rfl (lv_at hl 2 rfl) ?_
                refine lv_iconst (v := 0) hx hb dX12_take_167 (by decide) ?_
                have hW0 := hW.2.2.2
                refine t_callV (As := [.int 0]) (rest := []) E hW (c_X12_told_x l G cI cJ cZ cD cR cT kp L f225 hW.2.2.2 _ h0 0 rh0) rh0 (by decide) rfl wk_X12_told tw_1557 rfl ⟨Nat.le_of_ble_eq_true rfl, Nat.le_of_ble_eq_true rfl⟩ ⟨rfl, rfl⟩ hl.1 rfl (Nat.le_of_ble_eq_true rfl) dX12_take_168 ⟨Nat.le_of_ble_eq_true rfl, Nat.le_of_ble_eq_true rfl⟩ (fun v232 f233 H locs q234 hW => ?_)
                obtain ⟨⟨x236, rfl, p237⟩, g235⟩ := q234
                have p237 : x236.toInt = (0 : Int) := p237
                have m238 : aI (f233 pR) (x73 : Int32).toNatClampNeg = y75 := ((congrArg (fun z => aI z (x73 : Int32).toNatClampNeg) (fm_A g235 rR (by decide) rfl)).trans (show aI (f225 pR) (x73 : Int32).toNatClampNeg = y75 from by rw [e226, up_n (tn_ne (by omega) (by omega) (by omega))]; exact m217))
                have m239 : aI (f233 pR) (x187 : Int32).toNatClampNeg = u1 := ((congrArg (fun z => aI z (x187 : Int32).toNatClampNeg) (fm_A g235 rR (by decide) rfl)).trans (show aI (f225 pR) (x187 : Int32).toNatClampNeg = u1 from by rw [e226, up_n (tn_ne (by omega) (by omega) (by omega))]; exact m218))
                have m240 : aI (f233 pR) (x198 : Int32).toNatClampNeg = x200 := ((congrArg (fun z => aI z (x198 : Int32).toNatClampNeg) (fm_A g235 rR (by decide) rfl)).trans (show aI (f225 pR) (x198 : Int32).toNatClampNeg = x200 from by rw [e226, up_n (tn_ne (by omega) (by omega) (by omega))]; exact m219))
                have m241 : aI (f233 pR) (x222 : Int32).toNatClampNeg = (-1) := ((congrArg (fun z => aI z (x222 : Int32).toNatClampNeg) (fm_A g235 rR (by decide) rfl)).trans (show aI (f225 pR) (x222 : Int32).toNatClampNeg = (-1) from by rw [e226]; exact up_s))
                have z242 : RP (aI (f233 pR)) 0 = RP (aI (f0 pR)) 0 := rp_fm z229 g235 rR rfl
                have z243 : RF rw_X12_take_u f0 f233 h0 := rf_fm hTH z231 g235 rh0 rfl
                have hF := FM.tr hF g235 rfl
                exact e_I E hW rfl ⟨⟨_, rfl, trivial⟩, hF, (by rw [mR]; exact z242), z243⟩ dX12_take_171
              · refine lv_aload_n hx hb dX12_take_124 rfl (lv_at hl 2 rfl) ?_
                refine lv_bipush (v := (-3)) hx hb dX12_take_125 (by decide) ?_
                have hW0 := hW.2.2.2
                refine t_callV (As := [.int (-3)]) (rest := []) E hW (c_X12_told_x l G cI cJ cZ cD cR cT kp L f175 hW.2.2.2 _ h0 (-3) rh0) rh0 (by decide) rfl wk_X12_told tw_1557 rfl ⟨Nat.le_of_ble_eq_true rfl, Nat.le_of_ble_eq_true rfl⟩ ⟨rfl, rfl⟩ hl.1 rfl (Nat.le_of_ble_eq_true rfl) dX12_take_127 ⟨Nat.le_of_ble_eq_true rfl, Nat.le_of_ble_eq_true rfl⟩ (fun v244 f245 H locs q246 hW => ?_)
                obtain ⟨⟨x248, rfl, p249⟩, g247⟩ := q246
                have p249 : x248.toInt = (-3 : Int) := p249
                have m250 : aI (f245 pR) (x73 : Int32).toNatClampNeg = y75 := ((congrArg (fun z => aI z (x73 : Int32).toNatClampNeg) (fm_A g247 rR (by decide) rfl)).trans ((congrArg (fun z => aI z (x73 : Int32).toNatClampNeg) (fm_A g177 rR (by decide) rfl)).trans m76))
                have z251 : RP (aI (f245 pR)) 0 = RP (aI (f0 pR)) 0 := rp_fm z181 g247 rR rfl
                have z252 : RF rw_X12_take_u f0 f245 h0 := rf_fm hTH z182 g247 rh0 rfl
                have hF := FM.tr hF g247 rfl
                exact e_I E hW rfl ⟨⟨_, rfl, trivial⟩, hF, (by rw [mR]; exact z251), z252⟩ dX12_take_130
        refine q_if_ne (tgt := 101) hx hb dX12_take_65 (by decide) rfl (fun c253 => ?_) (fun c253 => ?_)
        · refine lv_iconst (v := 0) hx hb dX12_take_101 (by decide) ?_
          exact J101 0 (by decide) _ _ _ hW hF (lv_sub hl [0, 1, 2, 3, 4] rfl)
        · refine lv_aload_n hx hb dX12_take_68 rfl (lv_at hl 1 rfl) ?_
          refine fg_RX12_8 E hW rh0 dX12_take_69 (fun a254 m255 r256 => ?_)
          obtain rfl : pR = a254 := (((fm_R g68 rh0 rfl).trans m63)).symm.trans m255
          refine lv_iload hx hb dX12_take_72 (lv_at hl 0 rfl) ?_
          refine lv_iconst (v := 3) hx hb dX12_take_74 (by decide) ?_
          refine q_iadd (Y := 3) hx hb dX12_take_75 rfl rfl (by omega) (fun x257 h258 => ?_)
          refine gl_822 E hW rR ⟨by omega, by omega⟩ dX12_take_76 (fun y259 m260 b261 => ?_)
          have b262 := rr_fhol (show RowInv _ from b261) m260 (by omega)
          refine lv_iconst (v := (-1)) hx hb dX12_take_77 (by decide) ?_
          refine q_icmp_ne (Y := -1) (tgt := 101) hx hb dX12_take_78 (by decide) rfl rfl (fun c263 => ?_) (fun c263 => ?_)
          · refine lv_iconst (v := 0) hx hb dX12_take_101 (by decide) ?_
            exact J101 0 (by decide) _ _ _ hW hF (lv_sub hl [0, 1, 2, 3, 4] rfl)
          · refine lv_aload_n hx hb dX12_take_81 rfl (lv_at hl 1 rfl) ?_
            refine fg_RX12_8 E hW rh0 dX12_take_82 (fun a264 m265 r266 => ?_)
            obtain rfl : pR = a264 := (m255).symm.trans m265
            refine lv_iload hx hb dX12_take_85 (lv_at hl 0 rfl) ?_
            refine lv_bipush (v := 6) hx hb dX12_take_87 (by decide) ?_
            refine q_iadd (Y := 6) hx hb dX12_take_89 rfl rfl (by omega) (fun x267 h268 => ?_)
            refine gl_822 E hW rR ⟨by omega, by omega⟩ dX12_take_90 (fun y269 m270 b271 => ?_)
            refine lv_iconst (v := 1) hx hb dX12_take_91 (by decide) ?_
            refine lv_iload_n hx hb dX12_take_92 rfl (lv_at hl 4 rfl) ?_
            refine q_isub (X := 1) hx hb dX12_take_93 rfl rfl (by omega) (fun x272 h273 => ?_)
            refine q_icmp_ne (tgt := 101) hx hb dX12_take_94 (by decide) rfl rfl (fun c274 => ?_) (fun c274 => ?_)
            · refine lv_iconst (v := 0) hx hb dX12_take_101 (by decide) ?_
              exact J101 0 (by decide) _ _ _ hW hF (lv_sub hl [0, 1, 2, 3, 4] rfl)
            · refine lv_iconst (v := 1) hx hb dX12_take_97 (by decide) ?_
              refine lv_goto (tgt := 102) hx hb dX12_take_98 (by decide) ?_
              exact J101 1 (by decide) _ _ _ hW hF (lv_sub hl [0, 1, 2, 3, 4] rfl)
      · clear p43
        refine lv_aload_n hx hb dX12_take_37 rfl (lv_at hl 0 rfl) ?_
        refine lv_bipush (v := (-2)) hx hb dX12_take_38 (by decide) ?_
        have hW0 := hW.2.2.2
        refine t_callV (As := [.int (-2)]) (rest := []) E hW (c_X12_told_x l G cI cJ cZ cD cR cT kp L f39 hW.2.2.2 _ h0 (-2) rh0) rh0 (by decide) rfl wk_X12_told tw_1557 rfl ⟨Nat.le_of_ble_eq_true rfl, Nat.le_of_ble_eq_true rfl⟩ ⟨rfl, rfl⟩ hl.1 rfl (Nat.le_of_ble_eq_true rfl) dX12_take_40 ⟨Nat.le_of_ble_eq_true rfl, Nat.le_of_ble_eq_true rfl⟩ (fun v275 f276 H locs q277 hW => ?_)
        obtain ⟨⟨x279, rfl, p280⟩, g278⟩ := q277
        have p280 : x279.toInt = (-2 : Int) := p280
        have z281 : RP (aI (f276 pR)) 0 = RP (aI (f0 pR)) 0 := rp_fm z44 g278 rR rfl
        have z282 : RF rw_X12_take_u f0 f276 h0 := rf_fm hTH z45 g278 rh0 rfl
        have hF := FM.tr hF g278 rfl
        exact e_I E hW rfl ⟨⟨_, rfl, trivial⟩, hF, (by rw [mR]; exact z281), z282⟩ dX12_take_43
  · have q283 : (x7.toInt < (0 : Int) ∨ (1 : Int) < x7.toInt) := by omega
    clear p15
    refine lv_aload_n hx hb dX12_take_15 rfl (lv_at hl 0 rfl) ?_
    refine lv_iconst (v := (-1)) hx hb dX12_take_16 (by decide) ?_
    have hW0 := hW.2.2.2
    refine t_callV (As := [.int (-1)]) (rest := []) E hW (c_X12_told_x l G cI cJ cZ cD cR cT kp L f11 hW.2.2.2 _ h0 (-1) rh0) rh0 (by decide) rfl wk_X12_told tw_1557 rfl ⟨Nat.le_of_ble_eq_true rfl, Nat.le_of_ble_eq_true rfl⟩ ⟨rfl, rfl⟩ hl.1 rfl (Nat.le_of_ble_eq_true rfl) dX12_take_17 ⟨Nat.le_of_ble_eq_true rfl, Nat.le_of_ble_eq_true rfl⟩ (fun v284 f285 H locs q286 hW => ?_)
    obtain ⟨⟨x288, rfl, p289⟩, g287⟩ := q286
    have p289 : x288.toInt = (-1 : Int) := p289
    have z290 : RP (aI (f285 pR)) 0 = RP (aI (f0 pR)) 0 := rp_fm z16 g287 rR rfl
    have z291 : RF rw_X12_take_u f0 f285 h0 := rf_fm hTH z17 g287 rh0 rfl
    have hF := FM.tr hF g287 rfl
    exact e_I E hW rfl ⟨⟨_, rfl, trivial⟩, hF, (by rw [mR]; exact z290), z291⟩ dX12_take_20
def rw_X12_bringCrops_u : List (Nat × Nat) := [(24, 336)]
def ms_X12_bringCrops_u : List (Nat × Nat) := [(822, 0)]
def po_X12_bringCrops_u (kp : Nat → Nat) (L : List Nat) (f0 : Nat → va_E) (h0 : Nat) : Option Value → (Nat → va_E) → Prop := fun v f => v = none ∧ FM kp L ms_X12_bringCrops_u f0 f ∧ (RP (aI (f (oR (f0 h0) 2))) 0 = RP (aI (f0 (oR (f0 h0) 2))) 0) ∧ (RF rw_X12_bringCrops_u f0 f h0)
set_option maxHeartbeats 4000000 in
set_option maxRecDepth 100000 in
theorem c_X12_bringCrops_u (l : Launch) (G : va_G) (cI cJ cZ cD cR cT : ClassId) (kp : Nat → Nat) (L : List Nat) (f0 : Nat → va_E) (hTH : TH cI cJ cZ cD cR cT kp L f0) (sz : Nat) (h0 : Nat) (rh0 : RK kp L h0 12) : Met l yX12_bringCrops (Cond.code yX12_bringCrops cX12_bringCrops 4 none :: wTab) ({ frames := 2, cells := 0, slots := 0, locals := 60 }) (va_Pc [.ref h0] (PreW G (tys6 cI cJ cZ cD cR cT) (va_pl L f0) sz)) (QT (po_X12_bringCrops_u kp L f0 h0) G cI cJ cZ cD cR cT (va_A (va_pl L f0) sz) kp L) 0 0 (va_A (va_pl L f0) sz) := by
  refine metT (by decide) (Nat.le_of_ble_eq_true rfl) hTH ?_
  intro p e s m below meth c A ls E hW hl
  obtain ⟨hx, hb, -, hml, hown, hts, -, -, -⟩ := id E
  have hF : FM kp L ms_X12_bringCrops_u f0 f0 := FM.rf
  have hl : lv_has ls 4 [(0, .ref h0)] := hl
  obtain ⟨pR, mR⟩ : ∃ x : Nat, oR (f0 h0) 2 = x := ⟨_, rfl⟩
  have rR : RK kp L pR 822 := by rw [← mR]; exact th_ref hTH rh0 (by decide) (by decide) rfl
  refine lv_iconst (v := 0) hx hb dX12_bringCrops_0 (by decide) ?_
  refine lv_istore_n (lv' := [(1, .int 0), (0, .ref h0)]) hx hb dX12_bringCrops_1 rfl hl (by decide) rfl (fun ls hl => ?_)
  have L4662 : ∀ (n : Nat), ∀ (f4656 : Nat → va_E) (y4658 : Int32) (m4657 : oR (f4656 h0) 2 = pR) (b4659 : (0 : Int) ≤ y4658.toInt ∧ y4658.toInt ≤ 40) (z4660 : RF rw_X12_bringCrops_u f0 f4656 h0) (z4661 : RP (aI (f4656 pR)) 0 = RP (aI (f0 pR)) 0) (hm : (41 : Int) - y4658.toInt ≤ n) (H : Heap) (locs : List Loc) (ls : Array Slot), WS G cI cJ cZ cD cR cT A kp L f4656 s H locs → FM kp L ms_X12_bringCrops_u f0 f4656 → lv_has ls 4 [(1, .int y4658), (0, .ref h0)] → W p l e ({ frames := 2, cells := 0, slots := 0, locals := 60 }) s m ([.ref h0] : List Value).toArray below meth c H locs 0 0 (MQ below (QT (po_X12_bringCrops_u kp L f0 h0) G cI cJ cZ cD cR cT A kp L) ([.ref h0] : List Value).toArray s 0 0 A) (F0 m 2 ls []) := by
    intro n
    induction n with
    | zero =>
      intro f4656 y4658 m4657 b4659 z4660 z4661 hm H locs ls hW hF hl
      have hz := i32_b y4658
      exfalso; omega
    | succ n ih =>
      intro f4656 y4658 m4657 b4659 z4660 z4661 hm H locs ls hW hF hl
      have ih2 := ih
      refine lv_iload_n hx hb dX12_bringCrops_2 rfl (lv_at hl 0 rfl) ?_
      refine lv_aload_n hx hb dX12_bringCrops_3 rfl (lv_at hl 1 rfl) ?_
      refine fg_RX12_8 E hW rh0 dX12_bringCrops_4 (fun a4663 m4664 r4665 => ?_)
      obtain rfl : pR = a4663 := (m4657).symm.trans m4664
      refine lv_iconst (v := 2) hx hb dX12_bringCrops_7 (by decide) ?_
      refine gl_822 E hW rR (by decide) dX12_bringCrops_8 (fun y4666 m4667 b4668 => ?_)
      have b4669 := rr_2 (show RowInv _ from b4668) m4667 (by decide)
      refine q_icmp_ge (tgt := 124) hx hb dX12_bringCrops_9 (by decide) rfl rfl (fun c4901 => ?_) (fun c4901 => ?_)
      · exact e_V E hW rfl ⟨rfl, hF, (by rw [mR]; exact z4661), z4660⟩ dX12_bringCrops_124
      · refine lv_aload_n hx hb dX12_bringCrops_12 rfl (lv_at hl 1 rfl) ?_
        refine fg_RX12_8 E hW rh0 dX12_bringCrops_13 (fun a4902 m4903 r4904 => ?_)
        obtain rfl : pR = a4902 := (m4664).symm.trans m4903
        refine lv_iload_n hx hb dX12_bringCrops_16 rfl (lv_at hl 0 rfl) ?_
        have hW0 := hW.2.2.2
        refine t_callS (As := [.int y4658]) (rest := [.ref pR]) E hW (c_X12_fieldAt l G cI cJ cZ cD cR cT kp L f4656 hW.2.2.2 _ y4658 (by omega)) wk_X12_fieldAt tw_1624 rfl ⟨Nat.le_of_ble_eq_true rfl, Nat.le_of_ble_eq_true rfl⟩ ⟨rfl, rfl⟩ hl.1 rfl (Nat.le_of_ble_eq_true rfl) dX12_bringCrops_17 ⟨Nat.le_of_ble_eq_true rfl, Nat.le_of_ble_eq_true rfl⟩ (fun v4905 f4906 H locs q4907 hW => ?_)
        obtain ⟨⟨x4909, rfl, p4910⟩, g4908⟩ := q4907
        have z4911 : RP (aI (f4906 pR)) 0 = RP (aI (f0 pR)) 0 := rp_fm z4661 g4908 rR rfl
        have z4912 : RF rw_X12_bringCrops_u f0 f4906 h0 := rf_fm hTH z4660 g4908 rh0 rfl
        have hF := FM.tr hF g4908 rfl
        refine lv_iconst (v := 3) hx hb dX12_bringCrops_20 (by decide) ?_
        refine q_iadd (Y := 3) hx hb dX12_bringCrops_21 rfl rfl (by omega) (fun x4913 h4914 => ?_)
        refine gl_822 E hW rR ⟨by omega, by omega⟩ dX12_bringCrops_22 (fun y4915 m4916 b4917 => ?_)
        have b4918 := rr_fhol (show RowInv _ from b4917) m4916 (by omega)
        refine lv_istore_n (lv' := [(2, .int y4915), (1, .int y4658), (0, .ref h0)]) hx hb dX12_bringCrops_23 rfl hl (by decide) rfl (fun ls hl => ?_)
        refine lv_aload_n hx hb dX12_bringCrops_24 rfl (lv_at hl 2 rfl) ?_
        refine fg_RX12_8 E hW rh0 dX12_bringCrops_25 (fun a4919 m4920 r4921 => ?_)
        obtain rfl : pR = a4919 := (((fm_R g4908 rh0 rfl).trans m4903)).symm.trans m4920
        refine lv_sipush (v := 1582) hx hb dX12_bringCrops_28 (by decide) ?_
        refine lv_bipush (v := 41) hx hb dX12_bringCrops_31 (by decide) ?_
        refine lv_aload_n hx hb dX12_bringCrops_33 rfl (lv_at hl 2 rfl) ?_
        refine fg_RX12_8 E hW rh0 dX12_bringCrops_34 (fun a4922 m4923 r4924 => ?_)
        obtain rfl : pR = a4922 := (m4920).symm.trans m4923
        refine lv_bipush (v := 8) hx hb dX12_bringCrops_37 (by decide) ?_
        refine gl_822 E hW rR (by decide) dX12_bringCrops_39 (fun y4925 m4926 b4927 => ?_)
        have b4928 := rr_8 (show RowInv _ from b4927) m4926 (by decide)
        refine q_imul (X := 41) hx hb dX12_bringCrops_40 rfl rfl (by omega) (fun x4929 h4930 => ?_)
        refine q_iadd (X := 1582) hx hb dX12_bringCrops_41 rfl rfl (by omega) (fun x4931 h4932 => ?_)
        refine lv_iconst (v := 1) hx hb dX12_bringCrops_42 (by decide) ?_
        refine q_iadd (Y := 1) hx hb dX12_bringCrops_43 rfl rfl (by omega) (fun x4933 h4934 => ?_)
        refine lv_iload_n hx hb dX12_bringCrops_44 rfl (lv_at hl 1 rfl) ?_
        refine q_iadd hx hb dX12_bringCrops_45 rfl rfl (by omega) (fun x4935 h4936 => ?_)
        refine gl_822 E hW rR ⟨by omega, by omega⟩ dX12_bringCrops_46 (fun y4937 m4938 b4939 => ?_)
        refine lv_iconst (v := 1) hx hb dX12_bringCrops_47 (by decide) ?_
        refine u_isub hx hb dX12_bringCrops_48 (fun x4940 => ?_)
        refine lv_istore_n (lv' := [(3, .int x4940), (2, .int y4915), (1, .int y4658), (0, .ref h0)]) hx hb dX12_bringCrops_49 rfl hl (by decide) rfl (fun ls hl => ?_)
        refine lv_aload_n hx hb dX12_bringCrops_50 rfl (lv_at hl 3 rfl) ?_
        refine fg_RX12_161 E hW rh0 dX12_bringCrops_51 (fun y4941 m4942 b4943 => ?_)
        have J5012 : ∀ (f5004 : Nat → va_E) (y5009 : Int32) (m5005 : oR (f5004 h0) 2 = pR) (m5006 : oI (f5004 h0) 6 = y4941) (m5007 : aI (f5004 pR) (2 : Int32).toNatClampNeg = y4666) (m5008 : aI (f5004 pR) (8 : Int32).toNatClampNeg = y4925) (z5010 : RF rw_X12_bringCrops_u f0 f5004 h0) (z5011 : RP (aI (f5004 pR)) 0 = RP (aI (f0 pR)) 0) (H : Heap) (locs : List Loc) (ls : Array Slot), WS G cI cJ cZ cD cR cT A kp L f5004 s H locs → FM kp L ms_X12_bringCrops_u f0 f5004 → lv_has ls 4 [(3, .int y5009), (2, .int y4915), (1, .int y4658), (0, .ref h0)] → W p l e ({ frames := 2, cells := 0, slots := 0, locals := 60 }) s m ([.ref h0] : List Value).toArray below meth c H locs 0 0 (MQ below (QT (po_X12_bringCrops_u kp L f0 h0) G cI cJ cZ cD cR cT A kp L) ([.ref h0] : List Value).toArray s 0 0 A) (F0 m 94 ls []) := by
          intro f5004 y5009 m5005 m5006 m5007 m5008 z5010 z5011 H locs ls hW hF hl
          refine lv_iload_n hx hb dX12_bringCrops_94 rfl (lv_at hl 1 rfl) ?_
          refine lv_iconst (v := (-1)) hx hb dX12_bringCrops_95 (by decide) ?_
          have J5044 : ∀ (f5037 : Nat → va_E) (m5038 : oR (f5037 h0) 2 = pR) (m5039 : oI (f5037 h0) 6 = y4941) (m5040 : aI (f5037 pR) (2 : Int32).toNatClampNeg = y4666) (m5041 : aI (f5037 pR) (8 : Int32).toNatClampNeg = y4925) (z5042 : RF rw_X12_bringCrops_u f0 f5037 h0) (z5043 : RP (aI (f5037 pR)) 0 = RP (aI (f0 pR)) 0) (H : Heap) (locs : List Loc) (ls : Array Slot), WS G cI cJ cZ cD cR cT A kp L f5037 s H locs → FM kp L ms_X12_bringCrops_u f0 f5037 → lv_has ls 4 [(3, .int y5009), (2, .int y4915), (1, .int y4658), (0, .ref h0)] → W p l e ({ frames := 2, cells := 0, slots := 0, locals := 60 }) s m ([.ref h0] : List Value).toArray below meth c H locs 0 0 (MQ below (QT (po_X12_bringCrops_u kp L f0 h0) G cI cJ cZ cD cR cT A kp L) ([.ref h0] : List Value).toArray s 0 0 A) (F0 m 118 ls []) := by
            intro f5037 m5038 m5039 m5040 m5041 z5042 z5043 H locs ls hW hF hl
            refine q_iinc hx hb dX12_bringCrops_118 hl (k := 2) rfl rfl rfl (by omega) (by decide) (fun i5045 ls h5046 hl => ?_)
            have hl : lv_has ls 4 [(1, .int i5045), (3, .int y5009), (2, .int y4915), (0, .ref h0)] := hl
            refine lv_goto (tgt := 2) hx hb dX12_bringCrops_121 (by decide) ?_
            exact ih2 f5037 i5045 m5038 (by omega) z5042 z5043 (by omega) _ _ _ hW hF (lv_sub hl [0, 3] rfl)
          refine q_icmp_eq (Y := -1) (tgt := 118) hx hb dX12_bringCrops_96 (by decide) rfl rfl (fun c5047 => ?_) (fun c5047 => ?_)
          · exact J5044 f5004 m5005 m5006 m5007 m5008 z5010 z5011 _ _ _ hW hF (lv_sub hl [0, 1, 2, 3] rfl)
          · refine lv_iload_n hx hb dX12_bringCrops_99 rfl (lv_at hl 0 rfl) ?_
            refine q_if_le (tgt := 118) hx hb dX12_bringCrops_100 (by decide) rfl (fun c5048 => ?_) (fun c5048 => ?_)
            · exact J5044 f5004 m5005 m5006 m5007 m5008 z5010 z5011 _ _ _ hW hF (lv_sub hl [0, 1, 2, 3] rfl)
            · refine lv_aload_n hx hb dX12_bringCrops_103 rfl (lv_at hl 3 rfl) ?_
              refine fg_RX12_8 E hW rh0 dX12_bringCrops_104 (fun a5049 m5050 r5051 => ?_)
              obtain rfl : pR = a5049 := (m5005).symm.trans m5050
              refine lv_iload_n hx hb dX12_bringCrops_107 rfl (lv_at hl 1 rfl) ?_
              have hW0 := hW.2.2.2
              refine t_callS (As := [.int y4915]) (rest := [.ref pR]) E hW (c_X12_personAt l G cI cJ cZ cD cR cT kp L f5004 hW.2.2.2 _ y4915 (by omega)) wk_X12_personAt tw_1572 rfl ⟨Nat.le_of_ble_eq_true rfl, Nat.le_of_ble_eq_true rfl⟩ ⟨rfl, rfl⟩ hl.1 rfl (Nat.le_of_ble_eq_true rfl) dX12_bringCrops_108 ⟨Nat.le_of_ble_eq_true rfl, Nat.le_of_ble_eq_true rfl⟩ (fun v5052 f5053 H locs q5054 hW => ?_)
              obtain ⟨⟨x5056, rfl, p5057⟩, g5055⟩ := q5054
              have z5058 : RP (aI (f5053 pR)) 0 = RP (aI (f0 pR)) 0 := rp_fm z5011 g5055 rR rfl
              have z5059 : RF rw_X12_bringCrops_u f0 f5053 h0 := rf_fm hTH z5010 g5055 rh0 rfl
              have hF := FM.tr hF g5055 rfl
              refine lv_iconst (v := 4) hx hb dX12_bringCrops_111 (by decide) ?_
              refine q_iadd (Y := 4) hx hb dX12_bringCrops_112 rfl rfl (by omega) (fun x5060 h5061 => ?_)
              refine lv_dup2_11 hx hb dX12_bringCrops_113 rfl rfl ?_
              refine gl_822 E hW rR ⟨by omega, by omega⟩ dX12_bringCrops_114 (fun y5062 m5063 b5064 => ?_)
              refine lv_iload_n hx hb dX12_bringCrops_115 rfl (lv_at hl 0 rfl) ?_
              refine u_iadd hx hb dX12_bringCrops_116 (fun x5065 => ?_)
              have hW0 := hW.2.2.2
              refine gs_822 E hW rR ⟨by omega, by omega⟩ (fun hc => rr_up hc (by omega) (by omega) (by unfold rbI; omega)) dX12_bringCrops_117 (fun f5066 H locs e5067 n5068 g5069 hW => ?_)
              have z5070 : RP (aI (f5066 pR)) 0 = RP (aI (f0 pR)) 0 := rp_st z5058 e5067 (by omega) (by omega)
              have z5071 : RF rw_X12_bringCrops_u f0 f5066 h0 := rf_st (lo := 24) (hi := 336) z5059 mR e5067 (by omega) rfl
              have hF := FM.tr hF g5069 rfl
              exact J5044 f5066 ((fm_R g5069 rh0 rfl).trans ((fm_R g5055 rh0 rfl).trans m5050)) ((fm_I g5069 rh0 rfl).trans ((fm_I g5055 rh0 rfl).trans m5006)) (show aI (f5066 pR) (2 : Int32).toNatClampNeg = y4666 from by rw [e5067, up_n (tn_ne (by omega) (by decide) (by have hk0 : (2 : Int32).toInt = 2 := rfl; omega))]; exact ((congrArg (fun z => aI z (2 : Int32).toNatClampNeg) (fm_A g5055 rR (by decide) rfl)).trans m5007)) (show aI (f5066 pR) (8 : Int32).toNatClampNeg = y4925 from by rw [e5067, up_n (tn_ne (by omega) (by decide) (by have hk0 : (8 : Int32).toInt = 8 := rfl; omega))]; exact ((congrArg (fun z => aI z (8 : Int32).toNatClampNeg) (fm_A g5055 rR (by decide) rfl)).trans m5008)) z5071 z5070 _ _ _ hW hF (lv_sub hl [0, 1, 2, 3] rfl)
        refine q_if_eq (tgt := 94) hx hb dX12_bringCrops_54 (by decide) rfl (fun c5072 => ?_) (fun c5072 => ?_)
        · exact J5012 f4906 x4940 m4923 m4942 ((congrArg (fun z => aI z (2 : Int32).toNatClampNeg) (fm_A g4908 rR (by decide) rfl)).trans m4667) m4926 z4912 z4911 _ _ _ hW hF (lv_sub hl [0, 1, 2, 3] rfl)
        · refine lv_aload_n hx hb dX12_bringCrops_57 rfl (lv_at hl 3 rfl) ?_
          refine fg_RX12_8 E hW rh0 dX12_bringCrops_58 (fun a5073 m5074 r5075 => ?_)
          obtain rfl : pR = a5073 := (m4923).symm.trans m5074
          refine lv_bipush (v := 8) hx hb dX12_bringCrops_61 (by decide) ?_
          refine gl_822 E hW rR (by decide) dX12_bringCrops_63 (fun y5076 m5077 b5078 => ?_)
          obtain rfl : y4925 = y5076 := (m4926).symm.trans m5077
          refine lv_bipush (v := 13) hx hb dX12_bringCrops_64 (by decide) ?_
          refine q_irem (Y := 13) hx hb dX12_bringCrops_66 rfl rfl (by omega) (by omega) (fun x5079 h5080 => ?_)
          have J5110 : ∀ (f5102 : Nat → va_E) (y5107 : Int32) (m5103 : oR (f5102 h0) 2 = pR) (m5104 : oI (f5102 h0) 6 = y4941) (m5105 : aI (f5102 pR) (2 : Int32).toNatClampNeg = y4666) (m5106 : aI (f5102 pR) (8 : Int32).toNatClampNeg = y4925) (z5108 : RF rw_X12_bringCrops_u f0 f5102 h0) (z5109 : RP (aI (f5102 pR)) 0 = RP (aI (f0 pR)) 0) (H : Heap) (locs : List Loc) (ls : Array Slot), WS G cI cJ cZ cD cR cT A kp L f5102 s H locs → FM kp L ms_X12_bringCrops_u f0 f5102 → lv_has ls 4 [(3, .int x4940), (2, .int y4915), (1, .int y4658), (0, .ref h0)] → W p l e ({ frames := 2, cells := 0, slots := 0, locals := 60 }) s m ([.ref h0] : List Value).toArray below meth c H locs 0 0 (MQ below (QT (po_X12_bringCrops_u kp L f0 h0) G cI cJ cZ cD cR cT A kp L) ([.ref h0] : List Value).toArray s 0 0 A) (F0 m 93 ls [.int y5107]) := by
            intro f5102 y5107 m5103 m5104 m5105 m5106 z5108 z5109 H locs ls hW hF hl
            refine lv_istore_n (lv' := [(3, .int y5107), (2, .int y4915), (1, .int y4658), (0, .ref h0)]) hx hb dX12_bringCrops_93 rfl hl (by decide) rfl (fun ls hl => ?_)
            exact J5012 f5102 y5107 m5103 m5104 m5105 m5106 z5108 z5109 _ _ _ hW hF (lv_sub hl [0, 1, 2, 3] rfl)
          refine q_if_ne (tgt := 92) hx hb dX12_bringCrops_67 (by decide) rfl (fun c5111 => ?_) (fun c5111 => ?_)
          · refine lv_iconst (v := 0) hx hb dX12_bringCrops_92 (by decide) ?_
            exact J5110 f4906 0 m5074 m4942 ((congrArg (fun z => aI z (2 : Int32).toNatClampNeg) (fm_A g4908 rR (by decide) rfl)).trans m4667) m5077 z4912 z4911 _ _ _ hW hF (lv_sub hl [0, 1, 2, 3] rfl)
          · refine lv_aload_n hx hb dX12_bringCrops_70 rfl (lv_at hl 3 rfl) ?_
            refine fg_RX12_452 E hW rh0 dX12_bringCrops_71 (fun y5112 m5113 => ?_)
            refine lv_aload_n hx hb dX12_bringCrops_74 rfl (lv_at hl 3 rfl) ?_
            refine fg_RX12_8 E hW rh0 dX12_bringCrops_75 (fun a5115 m5116 r5117 => ?_)
            obtain rfl : pR = a5115 := (m5074).symm.trans m5116
            refine lv_iload_n hx hb dX12_bringCrops_78 rfl (lv_at hl 2 rfl) ?_
            have hW0 := hW.2.2.2
            refine t_callS (As := [.int y4658]) (rest := [.ref pR, .int y5112]) E hW (c_X12_fieldAt l G cI cJ cZ cD cR cT kp L f4906 hW.2.2.2 _ y4658 (by omega)) wk_X12_fieldAt tw_1624 rfl ⟨Nat.le_of_ble_eq_true rfl, Nat.le_of_ble_eq_true rfl⟩ ⟨rfl, rfl⟩ hl.1 rfl (Nat.le_of_ble_eq_true rfl) dX12_bringCrops_79 ⟨Nat.le_of_ble_eq_true rfl, Nat.le_of_ble_eq_true rfl⟩ (fun v5118 f5119 H locs q5120 hW => ?_)
            obtain ⟨⟨x5122, rfl, p5123⟩, g5121⟩ := q5120
            have m5124 : aI (f5119 pR) (2 : Int32).toNatClampNeg = y4666 := ((congrArg (fun z => aI z (2 : Int32).toNatClampNeg) (fm_A g5121 rR (by decide) rfl)).trans ((congrArg (fun z => aI z (2 : Int32).toNatClampNeg) (fm_A g4908 rR (by decide) rfl)).trans m4667))
            have z5125 : RP (aI (f5119 pR)) 0 = RP (aI (f0 pR)) 0 := rp_fm z4911 g5121 rR rfl
            have z5126 : RF rw_X12_bringCrops_u f0 f5119 h0 := rf_fm hTH z4912 g5121 rh0 rfl
            have hF := FM.tr hF g5121 rfl
            refine lv_iconst (v := 1) hx hb dX12_bringCrops_82 (by decide) ?_
            refine q_iadd (Y := 1) hx hb dX12_bringCrops_83 rfl rfl (by omega) (fun x5127 h5128 => ?_)
            refine gl_822 E hW rR ⟨by omega, by omega⟩ dX12_bringCrops_84 (fun y5129 m5130 b5131 => ?_)
            refine u_imul hx hb dX12_bringCrops_85 (fun x5132 => ?_)
            refine lv_bipush (v := 100) hx hb dX12_bringCrops_86 (by decide) ?_
            refine u_idiv hx hb dX12_bringCrops_88 (by decide) (fun x5133 => ?_)
            refine lv_goto (tgt := 93) hx hb dX12_bringCrops_89 (by decide) ?_
            exact J5110 f5119 x5133 ((fm_R g5121 rh0 rfl).trans m5116) ((fm_I g5121 rh0 rfl).trans m4942) m5124 ((congrArg (fun z => aI z (8 : Int32).toNatClampNeg) (fm_A g5121 rR (by decide) rfl)).trans m5077) z5126 z5125 _ _ _ hW hF (lv_sub hl [0, 1, 2, 3] rfl)
  have hk5134 : (0 : Int32).toInt = 0 := rfl
  exact L4662 41 f0 0 mR (by decide) rf_rf (rfl : RP (aI (f0 pR)) 0 = RP (aI (f0 pR)) 0) (by omega) _ _ _ hW hF (lv_sub hl [0, 1] rfl)
def rw_X12_payRents_u : List (Nat × Nat) := [(13, 336), (340, 363), (368, 680)]
def ms_X12_payRents_u : List (Nat × Nat) := [(12, 33), (12, 34), (12, 35), (12, 36), (12, 37), (822, 0), (851, 0), (852, 0)]
def po_X12_payRents_u (kp : Nat → Nat) (L : List Nat) (f0 : Nat → va_E) (h0 : Nat) : Option Value → (Nat → va_E) → Prop := fun v f => v = none ∧ FM kp L ms_X12_payRents_u f0 f ∧ (RP (aI (f (oR (f0 h0) 2))) 0 = RP (aI (f0 (oR (f0 h0) 2))) 0) ∧ (RF rw_X12_payRents_u f0 f h0)
set_option maxHeartbeats 4000000 in
set_option maxRecDepth 100000 in
theorem c_X12_payRents_u (l : Launch) (G : va_G) (cI cJ cZ cD cR cT : ClassId) (kp : Nat → Nat) (L : List Nat) (f0 : Nat → va_E) (hTH : TH cI cJ cZ cD cR cT kp L f0) (sz : Nat) (h0 : Nat) (rh0 : RK kp L h0 12) (hTX : TX (aI (f0 (oR (f0 h0) 2)))) : Met l yX12_payRents (Cond.code yX12_payRents cX12_payRents 9 none :: wTab) ({ frames := 6, cells := 0, slots := 0, locals := 163 }) (va_Pc [.ref h0] (PreW G (tys6 cI cJ cZ cD cR cT) (va_pl L f0) sz)) (QT (po_X12_payRents_u kp L f0 h0) G cI cJ cZ cD cR cT (va_A (va_pl L f0) sz) kp L) 0 0 (va_A (va_pl L f0) sz) := by
  refine metT (by decide) (Nat.le_of_ble_eq_true rfl) hTH ?_
  intro p e s m below meth c A ls E hW hl
  obtain ⟨hx, hb, -, hml, hown, hts, -, -, -⟩ := id E
  have hF : FM kp L ms_X12_payRents_u f0 f0 := FM.rf
  have hl : lv_has ls 9 [(0, .ref h0)] := hl
  obtain ⟨pR, mR⟩ : ∃ x : Nat, oR (f0 h0) 2 = x := ⟨_, rfl⟩
  have rR : RK kp L pR 822 := by rw [← mR]; exact th_ref hTH rh0 (by decide) (by decide) rfl
  rw [mR] at hTX
  refine lv_aload_n hx hb dX12_payRents_0 rfl (lv_at hl 0 rfl) ?_
  have hW0 := hW.2.2.2
  refine t_callV (As := []) (rest := []) E hW (c_X12_priceNow l G cI cJ cZ cD cR cT kp L f0 hW.2.2.2 _ h0 rh0) rh0 (by decide) rfl wk_X12_priceNow tw_1677 rfl ⟨Nat.le_of_ble_eq_true rfl, Nat.le_of_ble_eq_true rfl⟩ ⟨rfl, rfl⟩ hl.1 rfl (Nat.le_of_ble_eq_true rfl) dX12_payRents_1 ⟨Nat.le_of_ble_eq_true rfl, Nat.le_of_ble_eq_true rfl⟩ (fun v1 f2 H locs q3 hW => ?_)
  obtain ⟨⟨x5, rfl, p6⟩, g4⟩ := q3
  clear p6
  have z7 : RP (aI (f2 pR)) 0 = RP (aI (f0 pR)) 0 := rp_fm (rfl : RP (aI (f0 pR)) 0 = RP (aI (f0 pR)) 0) g4 rR rfl
  have z8 : RF rw_X12_payRents_u f0 f2 h0 := rf_fm hTH rf_rf g4 rh0 rfl
  have hF := FM.tr hF g4 rfl
  refine lv_istore_n (lv' := [(1, .int x5), (0, .ref h0)]) hx hb dX12_payRents_4 rfl hl (by decide) rfl (fun ls hl => ?_)
  refine lv_iconst (v := 0) hx hb dX12_payRents_5 (by decide) ?_
  refine lv_istore_n (lv' := [(2, .int 0), (1, .int x5), (0, .ref h0)]) hx hb dX12_payRents_6 rfl hl (by decide) rfl (fun ls hl => ?_)
  have L13543 : ∀ (n : Nat), ∀ (f13537 : Nat → va_E) (y13539 : Int32) (m13538 : oR (f13537 h0) 2 = pR) (b13540 : (0 : Int) ≤ y13539.toInt ∧ y13539.toInt ≤ 40) (z13541 : RF rw_X12_payRents_u f0 f13537 h0) (z13542 : RP (aI (f13537 pR)) 0 = RP (aI (f0 pR)) 0) (hm : (41 : Int) - y13539.toInt ≤ n) (H : Heap) (locs : List Loc) (ls : Array Slot), WS G cI cJ cZ cD cR cT A kp L f13537 s H locs → FM kp L ms_X12_payRents_u f0 f13537 → lv_has ls 9 [(2, .int y13539), (1, .int x5), (0, .ref h0)] → W p l e ({ frames := 6, cells := 0, slots := 0, locals := 163 }) s m ([.ref h0] : List Value).toArray below meth c H locs 0 0 (MQ below (QT (po_X12_payRents_u kp L f0 h0) G cI cJ cZ cD cR cT A kp L) ([.ref h0] : List Value).toArray s 0 0 A) (F0 m 7 ls []) := by
    intro n
    induction n with
    | zero =>
      intro f13537 y13539 m13538 b13540 z13541 z13542 hm H locs ls hW hF hl
      have hz := i32_b y13539
      exfalso; omega
    | succ n ih =>
      intro f13537 y13539 m13538 b13540 z13541 z13542 hm H locs ls hW hF hl
      have ih7 := ih
      refine lv_iload_n hx hb dX12_payRents_7 rfl (lv_at hl 0 rfl) ?_
      refine lv_aload_n hx hb dX12_payRents_8 rfl (lv_at hl 2 rfl) ?_
      refine fg_RX12_8 E hW rh0 dX12_payRents_9 (fun a13544 m13545 r13546 => ?_)
      obtain rfl : pR = a13544 := (m13538).symm.trans m13545
      refine lv_iconst (v := 2) hx hb dX12_payRents_12 (by decide) ?_
      refine gl_822 E hW rR (by decide) dX12_payRents_13 (fun y13547 m13548 b13549 => ?_)
      have b13550 := rr_2 (show RowInv _ from b13549) m13548 (by decide)
      refine q_icmp_ge (tgt := 294) hx hb dX12_payRents_14 (by decide) rfl rfl (fun c14249 => ?_) (fun c14249 => ?_)
      · refine lv_iconst (v := 0) hx hb dX12_payRents_294 (by decide) ?_
        refine lv_istore_n (lv' := [(2, .int 0), (1, .int x5), (0, .ref h0)]) hx hb dX12_payRents_295 rfl hl (by decide) rfl (fun ls hl => ?_)
        have L15706 : ∀ (n : Nat), ∀ (f15699 : Nat → va_E) (y15702 : Int32) (m15700 : oR (f15699 h0) 2 = pR) (m15701 : aI (f15699 pR) (2 : Int32).toNatClampNeg = y13547) (b15703 : (0 : Int) ≤ y15702.toInt ∧ y15702.toInt ≤ 8) (z15704 : RF rw_X12_payRents_u f0 f15699 h0) (z15705 : RP (aI (f15699 pR)) 0 = RP (aI (f0 pR)) 0) (hm : (9 : Int) - y15702.toInt ≤ n) (H : Heap) (locs : List Loc) (ls : Array Slot), WS G cI cJ cZ cD cR cT A kp L f15699 s H locs → FM kp L ms_X12_payRents_u f0 f15699 → lv_has ls 9 [(2, .int y15702), (1, .int x5), (0, .ref h0)] → W p l e ({ frames := 6, cells := 0, slots := 0, locals := 163 }) s m ([.ref h0] : List Value).toArray below meth c H locs 0 0 (MQ below (QT (po_X12_payRents_u kp L f0 h0) G cI cJ cZ cD cR cT A kp L) ([.ref h0] : List Value).toArray s 0 0 A) (F0 m 296 ls []) := by
          intro n
          induction n with
          | zero =>
            intro f15699 y15702 m15700 m15701 b15703 z15704 z15705 hm H locs ls hW hF hl
            have hz := i32_b y15702
            exfalso; omega
          | succ n ih =>
            intro f15699 y15702 m15700 m15701 b15703 z15704 z15705 hm H locs ls hW hF hl
            have ih296 := ih
            refine lv_iload_n hx hb dX12_payRents_296 rfl (lv_at hl 0 rfl) ?_
            refine lv_aload_n hx hb dX12_payRents_297 rfl (lv_at hl 2 rfl) ?_
            refine fg_RX12_8 E hW rh0 dX12_payRents_298 (fun a15707 m15708 r15709 => ?_)
            obtain rfl : pR = a15707 := (m15700).symm.trans m15708
            refine lv_iconst (v := 1) hx hb dX12_payRents_301 (by decide) ?_
            refine gl_822 E hW rR (by decide) dX12_payRents_302 (fun y15710 m15711 b15712 => ?_)
            have b15713 := rr_1 (show RowInv _ from b15712) m15711 (by decide)
            refine q_icmp_ge (tgt := 389) hx hb dX12_payRents_303 (by decide) rfl rfl (fun c15860 => ?_) (fun c15860 => ?_)
            · exact e_V E hW rfl ⟨rfl, hF, (by rw [mR]; exact z15705), z15704⟩ dX12_payRents_389
            · refine lv_iload_n hx hb dX12_payRents_306 rfl (lv_at hl 0 rfl) ?_
              have hW0 := hW.2.2.2
              refine t_callS (As := [.int y15702]) (rest := []) E hW (c_X12_estateAt l G cI cJ cZ cD cR cT kp L f15699 hW.2.2.2 _ y15702 (by omega)) wk_X12_estateAt tw_1611 rfl ⟨Nat.le_of_ble_eq_true rfl, Nat.le_of_ble_eq_true rfl⟩ ⟨rfl, rfl⟩ hl.1 rfl (Nat.le_of_ble_eq_true rfl) dX12_payRents_307 ⟨Nat.le_of_ble_eq_true rfl, Nat.le_of_ble_eq_true rfl⟩ (fun v15861 f15862 H locs q15863 hW => ?_)
              obtain ⟨⟨x15865, rfl, p15866⟩, g15864⟩ := q15863
              have z15867 : RP (aI (f15862 pR)) 0 = RP (aI (f0 pR)) 0 := rp_fm z15705 g15864 rR rfl
              have z15868 : RF rw_X12_payRents_u f0 f15862 h0 := rf_fm hTH z15704 g15864 rh0 rfl
              have hF := FM.tr hF g15864 rfl
              refine lv_istore_n (lv' := [(3, .int x15865), (2, .int y15702), (1, .int x5), (0, .ref h0)]) hx hb dX12_payRents_310 rfl hl (by decide) rfl (fun ls hl => ?_)
              refine lv_aload_n hx hb dX12_payRents_311 rfl (lv_at hl 3 rfl) ?_
              refine fg_RX12_8 E hW rh0 dX12_payRents_312 (fun a15869 m15870 r15871 => ?_)
              obtain rfl : pR = a15869 := (((fm_R g15864 rh0 rfl).trans m15708)).symm.trans m15870
              refine lv_iload_n hx hb dX12_payRents_315 rfl (lv_at hl 0 rfl) ?_
              refine lv_iconst (v := 2) hx hb dX12_payRents_316 (by decide) ?_
              refine q_iadd (Y := 2) hx hb dX12_payRents_317 rfl rfl (by omega) (fun x15872 h15873 => ?_)
              refine gl_822 E hW rR ⟨by omega, by omega⟩ dX12_payRents_318 (fun y15874 m15875 b15876 => ?_)
              refine lv_iconst (v := (-1)) hx hb dX12_payRents_319 (by decide) ?_
              have J15943 : ∀ (f15937 : Nat → va_E) (m15938 : oR (f15937 h0) 2 = pR) (m15939 : aI (f15937 pR) (2 : Int32).toNatClampNeg = y13547) (m15940 : aI (f15937 pR) (1 : Int32).toNatClampNeg = y15710) (z15941 : RF rw_X12_payRents_u f0 f15937 h0) (z15942 : RP (aI (f15937 pR)) 0 = RP (aI (f0 pR)) 0) (H : Heap) (locs : List Loc) (ls : Array Slot), WS G cI cJ cZ cD cR cT A kp L f15937 s H locs → FM kp L ms_X12_payRents_u f0 f15937 → lv_has ls 9 [(3, .int x15865), (2, .int y15702), (1, .int x5), (0, .ref h0)] → W p l e ({ frames := 6, cells := 0, slots := 0, locals := 163 }) s m ([.ref h0] : List Value).toArray below meth c H locs 0 0 (MQ below (QT (po_X12_payRents_u kp L f0 h0) G cI cJ cZ cD cR cT A kp L) ([.ref h0] : List Value).toArray s 0 0 A) (F0 m 383 ls []) := by
                intro f15937 m15938 m15939 m15940 z15941 z15942 H locs ls hW hF hl
                refine q_iinc hx hb dX12_payRents_383 hl (k := 1) rfl rfl rfl (by omega) (by decide) (fun i15944 ls h15945 hl => ?_)
                have hl : lv_has ls 9 [(2, .int i15944), (3, .int x15865), (1, .int x5), (0, .ref h0)] := hl
                refine lv_goto (tgt := 296) hx hb dX12_payRents_386 (by decide) ?_
                exact ih296 f15937 i15944 m15938 m15939 (by omega) z15941 z15942 (by omega) _ _ _ hW hF (lv_sub hl [0, 2, 3] rfl)
              refine q_icmp_ne (Y := -1) (tgt := 383) hx hb dX12_payRents_320 (by decide) rfl rfl (fun c15946 => ?_) (fun c15946 => ?_)
              · exact J15943 f15862 m15870 ((congrArg (fun z => aI z (2 : Int32).toNatClampNeg) (fm_A g15864 rR (by decide) rfl)).trans m15701) ((congrArg (fun z => aI z (1 : Int32).toNatClampNeg) (fm_A g15864 rR (by decide) rfl)).trans m15711) z15868 z15867 _ _ _ hW hF (lv_sub hl [0, 1, 2, 3] rfl)
              · refine lv_aload_n hx hb dX12_payRents_323 rfl (lv_at hl 3 rfl) ?_
                refine fg_RX12_8 E hW rh0 dX12_payRents_324 (fun a15947 m15948 r15949 => ?_)
                obtain rfl : pR = a15947 := (m15870).symm.trans m15948
                refine lv_iload_n hx hb dX12_payRents_327 rfl (lv_at hl 0 rfl) ?_
                refine lv_iconst (v := 1) hx hb dX12_payRents_328 (by decide) ?_
                refine q_iadd (Y := 1) hx hb dX12_payRents_329 rfl rfl (by omega) (fun x15950 h15951 => ?_)
                refine gl_822 E hW rR ⟨by omega, by omega⟩ dX12_payRents_330 (fun y15952 m15953 b15954 => ?_)
                refine lv_istore (lv' := [(4, .int y15952), (3, .int x15865), (2, .int y15702), (1, .int x5), (0, .ref h0)]) hx hb dX12_payRents_331 hl (by decide) rfl (fun ls hl => ?_)
                refine lv_aload_n hx hb dX12_payRents_333 rfl (lv_at hl 4 rfl) ?_
                refine fg_RX12_8 E hW rh0 dX12_payRents_334 (fun a15955 m15956 r15957 => ?_)
                obtain rfl : pR = a15955 := (m15948).symm.trans m15956
                refine lv_iload_n hx hb dX12_payRents_337 rfl (lv_at hl 1 rfl) ?_
                refine gl_822 E hW rR ⟨by omega, by omega⟩ dX12_payRents_338 (fun y15958 m15959 b15960 => ?_)
                refine lv_iload hx hb dX12_payRents_339 (lv_at hl 0 rfl) ?_
                refine q_icmp_ge (tgt := 372) hx hb dX12_payRents_341 (by decide) rfl rfl (fun c15961 => ?_) (fun c15961 => ?_)
                · refine lv_aload_n hx hb dX12_payRents_372 rfl (lv_at hl 4 rfl) ?_
                  refine fg_RX12_8 E hW rh0 dX12_payRents_373 (fun a15962 m15963 r15964 => ?_)
                  obtain rfl : pR = a15962 := (m15956).symm.trans m15963
                  refine lv_iload_n hx hb dX12_payRents_376 rfl (lv_at hl 1 rfl) ?_
                  refine lv_dup2_11 hx hb dX12_payRents_377 rfl rfl ?_
                  refine gl_822 E hW rR ⟨by omega, by omega⟩ dX12_payRents_378 (fun y15965 m15966 b15967 => ?_)
                  obtain rfl : y15958 = y15965 := (m15959).symm.trans m15966
                  refine lv_iload hx hb dX12_payRents_379 (lv_at hl 0 rfl) ?_
                  refine u_isub hx hb dX12_payRents_381 (fun x15968 => ?_)
                  have hW0 := hW.2.2.2
                  refine gs_822 E hW rR ⟨by omega, by omega⟩ (fun hc => rr_up hc (by omega) (by omega) (by unfold rbI; omega)) dX12_payRents_382 (fun f15969 H locs e15970 n15971 g15972 hW => ?_)
                  have z15973 : RP (aI (f15969 pR)) 0 = RP (aI (f0 pR)) 0 := rp_st z15867 e15970 (by omega) ⟨by omega, fun _ _ => by omega⟩
                  have z15974 : RF rw_X12_payRents_u f0 f15969 h0 := rf_st (lo := 340) (hi := 361) z15868 mR e15970 (by omega) rfl
                  have hF := FM.tr hF g15972 rfl
                  exact J15943 f15969 ((fm_R g15972 rh0 rfl).trans m15963) (show aI (f15969 pR) (2 : Int32).toNatClampNeg = y13547 from by rw [e15970, up_n (tn_ne (by omega) (by decide) (by have hk0 : (2 : Int32).toInt = 2 := rfl; omega))]; exact ((congrArg (fun z => aI z (2 : Int32).toNatClampNeg) (fm_A g15864 rR (by decide) rfl)).trans m15701)) (show aI (f15969 pR) (1 : Int32).toNatClampNeg = y15710 from by rw [e15970, up_n (tn_ne (by omega) (by decide) (by have hk0 : (1 : Int32).toInt = 1 := rfl; omega))]; exact ((congrArg (fun z => aI z (1 : Int32).toNatClampNeg) (fm_A g15864 rR (by decide) rfl)).trans m15711)) z15974 z15973 _ _ _ hW hF (lv_sub hl [1, 2, 3, 4] rfl)
                · have hb15975 : y15958.toInt ≤ 2147483646 := by have := i32_b y15952; omega
                  have hb15976 : -2147483647 ≤ y15952.toInt := by have := i32_b y15958; omega
                  refine lv_aload_n hx hb dX12_payRents_344 rfl (lv_at hl 4 rfl) ?_
                  refine fg_RX12_8 E hW rh0 dX12_payRents_345 (fun a15977 m15978 r15979 => ?_)
                  obtain rfl : pR = a15977 := (m15956).symm.trans m15978
                  refine lv_iload_n hx hb dX12_payRents_348 rfl (lv_at hl 1 rfl) ?_
                  refine lv_iconst (v := 2) hx hb dX12_payRents_349 (by decide) ?_
                  refine q_iadd (Y := 2) hx hb dX12_payRents_350 rfl rfl (by omega) (fun x15980 h15981 => ?_)
                  refine lv_aload_n hx hb dX12_payRents_351 rfl (lv_at hl 4 rfl) ?_
                  refine fg_RX12_8 E hW rh0 dX12_payRents_352 (fun a15982 m15983 r15984 => ?_)
                  obtain rfl : pR = a15982 := (m15978).symm.trans m15983
                  refine lv_bipush (v := 8) hx hb dX12_payRents_355 (by decide) ?_
                  refine gl_822 E hW rR (by decide) dX12_payRents_357 (fun y15985 m15986 b15987 => ?_)
                  have b15988 := rr_8 (show RowInv _ from b15987) m15986 (by decide)
                  refine lv_bipush (v := 13) hx hb dX12_payRents_358 (by decide) ?_
                  refine q_idiv (Y := 13) hx hb dX12_payRents_360 rfl rfl (by omega) (by omega) (fun x15989 h15990 => ?_)
                  have hW0 := hW.2.2.2
                  refine gs_822 E hW rR ⟨by omega, by omega⟩ (fun hc => rr_up hc (by omega) (by omega) (by unfold rbI; omega)) dX12_payRents_361 (fun f15991 H locs e15992 n15993 g15994 hW => ?_)
                  have z15995 : RP (aI (f15991 pR)) 0 = RP (aI (f0 pR)) 0 := rp_st z15867 e15992 (by omega) ⟨by omega, fun _ _ => by omega⟩
                  have z15996 : RF rw_X12_payRents_u f0 f15991 h0 := rf_st (lo := 342) (hi := 363) z15868 mR e15992 (by omega) rfl
                  have hF := FM.tr hF g15994 rfl
                  refine lv_aload_n hx hb dX12_payRents_362 rfl (lv_at hl 4 rfl) ?_
                  refine fg_RX12_8 E hW rh0 dX12_payRents_363 (fun a15997 m15998 r15999 => ?_)
                  obtain rfl : pR = a15997 := (((fm_R g15994 rh0 rfl).trans m15983)).symm.trans m15998
                  refine lv_iload_n hx hb dX12_payRents_366 rfl (lv_at hl 1 rfl) ?_
                  refine lv_iconst (v := 0) hx hb dX12_payRents_367 (by decide) ?_
                  have hk16000 : (0 : Int32).toInt = 0 := rfl
                  have hW0 := hW.2.2.2
                  refine gs_822 E hW rR ⟨by omega, by omega⟩ (fun hc => rr_up hc (by omega) (by omega) (by unfold rbI; omega)) dX12_payRents_368 (fun f16001 H locs e16002 n16003 g16004 hW => ?_)
                  have hk16006 : (0 : Int32).toInt = 0 := rfl
                  have z16005 : RP (aI (f16001 pR)) 0 = RP (aI (f0 pR)) 0 := rp_st z15995 e16002 (by omega) ⟨by omega, fun _ _ => by omega⟩
                  have z16007 : RF rw_X12_payRents_u f0 f16001 h0 := rf_st (lo := 340) (hi := 361) z15996 mR e16002 (by omega) rfl
                  have hF := FM.tr hF g16004 rfl
                  refine lv_goto (tgt := 383) hx hb dX12_payRents_369 (by decide) ?_
                  exact J15943 f16001 ((fm_R g16004 rh0 rfl).trans m15998) (show aI (f16001 pR) (2 : Int32).toNatClampNeg = y13547 from by rw [e16002, up_n (tn_ne (by omega) (by decide) (by have hk0 : (2 : Int32).toInt = 2 := rfl; omega))]; exact (show aI (f15991 pR) (2 : Int32).toNatClampNeg = y13547 from by rw [e15992, up_n (tn_ne (by omega) (by decide) (by have hk0 : (2 : Int32).toInt = 2 := rfl; omega))]; exact ((congrArg (fun z => aI z (2 : Int32).toNatClampNeg) (fm_A g15864 rR (by decide) rfl)).trans m15701))) (show aI (f16001 pR) (1 : Int32).toNatClampNeg = y15710 from by rw [e16002, up_n (tn_ne (by omega) (by decide) (by have hk0 : (1 : Int32).toInt = 1 := rfl; omega))]; exact (show aI (f15991 pR) (1 : Int32).toNatClampNeg = y15710 from by rw [e15992, up_n (tn_ne (by omega) (by decide) (by have hk0 : (1 : Int32).toInt = 1 := rfl; omega))]; exact ((congrArg (fun z => aI z (1 : Int32).toNatClampNeg) (fm_A g15864 rR (by decide) rfl)).trans m15711))) z16007 z16005 _ _ _ hW hF (lv_sub hl [1, 2, 3, 4] rfl)
        have hk16008 : (0 : Int32).toInt = 0 := rfl
        exact L15706 9 f13537 0 m13545 m13548 (by decide) z13541 z13542 (by omega) _ _ _ hW hF (lv_sub hl [0, 1, 2] rfl)
      · refine lv_iload_n hx hb dX12_payRents_17 rfl (lv_at hl 0 rfl) ?_
        have hW0 := hW.2.2.2
        refine t_callS (As := [.int y13539]) (rest := []) E hW (c_X12_fieldAt l G cI cJ cZ cD cR cT kp L f13537 hW.2.2.2 _ y13539 (by omega)) wk_X12_fieldAt tw_1624 rfl ⟨Nat.le_of_ble_eq_true rfl, Nat.le_of_ble_eq_true rfl⟩ ⟨rfl, rfl⟩ hl.1 rfl (Nat.le_of_ble_eq_true rfl) dX12_payRents_18 ⟨Nat.le_of_ble_eq_true rfl, Nat.le_of_ble_eq_true rfl⟩ (fun v16009 f16010 H locs q16011 hW => ?_)
        obtain ⟨⟨x16013, rfl, p16014⟩, g16012⟩ := q16011
        have z16015 : RP (aI (f16010 pR)) 0 = RP (aI (f0 pR)) 0 := rp_fm z13542 g16012 rR rfl
        have z16016 : RF rw_X12_payRents_u f0 f16010 h0 := rf_fm hTH z13541 g16012 rh0 rfl
        have hF := FM.tr hF g16012 rfl
        refine lv_istore_n (lv' := [(3, .int x16013), (2, .int y13539), (1, .int x5), (0, .ref h0)]) hx hb dX12_payRents_21 rfl hl (by decide) rfl (fun ls hl => ?_)
        refine lv_aload_n hx hb dX12_payRents_22 rfl (lv_at hl 3 rfl) ?_
        refine fg_RX12_8 E hW rh0 dX12_payRents_23 (fun a16017 m16018 r16019 => ?_)
        obtain rfl : pR = a16017 := (((fm_R g16012 rh0 rfl).trans m13545)).symm.trans m16018
        refine lv_iload_n hx hb dX12_payRents_26 rfl (lv_at hl 0 rfl) ?_
        refine lv_iconst (v := 3) hx hb dX12_payRents_27 (by decide) ?_
        refine q_iadd (Y := 3) hx hb dX12_payRents_28 rfl rfl (by omega) (fun x16020 h16021 => ?_)
        refine gl_822 E hW rR ⟨by omega, by omega⟩ dX12_payRents_29 (fun y16022 m16023 b16024 => ?_)
        have b16025 := rr_fhol (show RowInv _ from b16024) m16023 (by omega)
        refine lv_iconst (v := (-1)) hx hb dX12_payRents_30 (by decide) ?_
        have J16367 : ∀ (f16362 : Nat → va_E) (m16363 : oR (f16362 h0) 2 = pR) (m16364 : aI (f16362 pR) (2 : Int32).toNatClampNeg = y13547) (z16365 : RF rw_X12_payRents_u f0 f16362 h0) (z16366 : RP (aI (f16362 pR)) 0 = RP (aI (f0 pR)) 0) (H : Heap) (locs : List Loc) (ls : Array Slot), WS G cI cJ cZ cD cR cT A kp L f16362 s H locs → FM kp L ms_X12_payRents_u f0 f16362 → lv_has ls 9 [(3, .int x16013), (2, .int y13539), (1, .int x5), (0, .ref h0)] → W p l e ({ frames := 6, cells := 0, slots := 0, locals := 163 }) s m ([.ref h0] : List Value).toArray below meth c H locs 0 0 (MQ below (QT (po_X12_payRents_u kp L f0 h0) G cI cJ cZ cD cR cT A kp L) ([.ref h0] : List Value).toArray s 0 0 A) (F0 m 288 ls []) := by
          intro f16362 m16363 m16364 z16365 z16366 H locs ls hW hF hl
          clear b16025
          refine q_iinc hx hb dX12_payRents_288 hl (k := 1) rfl rfl rfl (by omega) (by decide) (fun i16368 ls h16369 hl => ?_)
          have hl : lv_has ls 9 [(2, .int i16368), (3, .int x16013), (1, .int x5), (0, .ref h0)] := hl
          refine lv_goto (tgt := 7) hx hb dX12_payRents_291 (by decide) ?_
          exact ih7 f16362 i16368 m16363 (by omega) z16365 z16366 (by omega) _ _ _ hW hF (lv_sub hl [0, 2, 3] rfl)
        refine q_icmp_eq (Y := -1) (tgt := 288) hx hb dX12_payRents_31 (by decide) rfl rfl (fun c16370 => ?_) (fun c16370 => ?_)
        · exact J16367 f16010 m16018 ((congrArg (fun z => aI z (2 : Int32).toNatClampNeg) (fm_A g16012 rR (by decide) rfl)).trans m13548) z16016 z16015 _ _ _ hW hF (lv_sub hl [0, 1, 2, 3] rfl)
        · refine lv_aload_n hx hb dX12_payRents_34 rfl (lv_at hl 3 rfl) ?_
          refine fg_RX12_8 E hW rh0 dX12_payRents_35 (fun a16371 m16372 r16373 => ?_)
          obtain rfl : pR = a16371 := (m16018).symm.trans m16372
          refine lv_aload_n hx hb dX12_payRents_38 rfl (lv_at hl 3 rfl) ?_
          refine fg_RX12_8 E hW rh0 dX12_payRents_39 (fun a16374 m16375 r16376 => ?_)
          obtain rfl : pR = a16374 := (m16372).symm.trans m16375
          refine lv_iload_n hx hb dX12_payRents_42 rfl (lv_at hl 0 rfl) ?_
          refine lv_iconst (v := 3) hx hb dX12_payRents_43 (by decide) ?_
          refine q_iadd (Y := 3) hx hb dX12_payRents_44 rfl rfl (by omega) (fun x16377 h16378 => ?_)
          refine gl_822 E hW rR ⟨by omega, by omega⟩ dX12_payRents_45 (fun y16379 m16380 b16381 => ?_)
          have m16382 : aI (f16010 pR) (x16377 : Int32).toNatClampNeg = y16022 := by rw [show (x16377 : Int32) = x16020 from Int32.toInt_inj.mp (by omega)]; exact m16023
          obtain rfl : y16022 = y16379 := (m16382).symm.trans m16380
          have hW0 := hW.2.2.2
          refine t_callS (As := [.int y16022]) (rest := [.ref pR]) E hW (c_X12_personAt l G cI cJ cZ cD cR cT kp L f16010 hW.2.2.2 _ y16022 (by omega)) wk_X12_personAt tw_1572 rfl ⟨Nat.le_of_ble_eq_true rfl, Nat.le_of_ble_eq_true rfl⟩ ⟨rfl, rfl⟩ hl.1 rfl (Nat.le_of_ble_eq_true rfl) dX12_payRents_46 ⟨Nat.le_of_ble_eq_true rfl, Nat.le_of_ble_eq_true rfl⟩ (fun v16383 f16384 H locs q16385 hW => ?_)
          obtain ⟨⟨x16387, rfl, p16388⟩, g16386⟩ := q16385
          have m16389 : aI (f16384 pR) (2 : Int32).toNatClampNeg = y13547 := ((congrArg (fun z => aI z (2 : Int32).toNatClampNeg) (fm_A g16386 rR (by decide) rfl)).trans ((congrArg (fun z => aI z (2 : Int32).toNatClampNeg) (fm_A g16012 rR (by decide) rfl)).trans m13548))
          have z16390 : RP (aI (f16384 pR)) 0 = RP (aI (f0 pR)) 0 := rp_fm z16015 g16386 rR rfl
          have z16391 : RF rw_X12_payRents_u f0 f16384 h0 := rf_fm hTH z16016 g16386 rh0 rfl
          have hF := FM.tr hF g16386 rfl
          refine lv_iconst (v := 5) hx hb dX12_payRents_49 (by decide) ?_
          refine q_iadd (Y := 5) hx hb dX12_payRents_50 rfl rfl (by omega) (fun x16392 h16393 => ?_)
          refine gl_822 E hW rR ⟨by omega, by omega⟩ dX12_payRents_51 (fun y16394 m16395 b16396 => ?_)
          refine q_if_ne (tgt := 288) hx hb dX12_payRents_52 (by decide) rfl (fun c16397 => ?_) (fun c16397 => ?_)
          · exact J16367 f16384 ((fm_R g16386 rh0 rfl).trans m16375) m16389 z16391 z16390 _ _ _ hW hF (lv_sub hl [0, 1, 2, 3] rfl)
          · refine lv_aload_n hx hb dX12_payRents_55 rfl (lv_at hl 3 rfl) ?_
            refine lv_iload_n hx hb dX12_payRents_56 rfl (lv_at hl 1 rfl) ?_
            have hW0 := hW.2.2.2
            refine t_callV (As := [.int y13539]) (rest := []) E hW (c_X12_rentOf l G cI cJ cZ cD cR cT kp L f16384 hW.2.2.2 _ h0 y13539 rh0 (by omega)) rh0 (by decide) rfl wk_X12_rentOf tw_1665 rfl ⟨Nat.le_of_ble_eq_true rfl, Nat.le_of_ble_eq_true rfl⟩ ⟨rfl, rfl⟩ hl.1 rfl (Nat.le_of_ble_eq_true rfl) dX12_payRents_57 ⟨Nat.le_of_ble_eq_true rfl, Nat.le_of_ble_eq_true rfl⟩ (fun v16398 f16399 H locs q16400 hW => ?_)
            obtain ⟨⟨x16402, rfl, p16403⟩, g16401⟩ := q16400
            have m16404 : aI (f16399 pR) (x16020 : Int32).toNatClampNeg = y16022 := ((congrArg (fun z => aI z (x16020 : Int32).toNatClampNeg) (fm_A g16401 rR (by decide) rfl)).trans ((congrArg (fun z => aI z (x16020 : Int32).toNatClampNeg) (fm_A g16386 rR (by decide) rfl)).trans m16023))
            have m16405 : aI (f16399 pR) (x16377 : Int32).toNatClampNeg = y16022 := ((congrArg (fun z => aI z (x16377 : Int32).toNatClampNeg) (fm_A g16401 rR (by decide) rfl)).trans ((congrArg (fun z => aI z (x16377 : Int32).toNatClampNeg) (fm_A g16386 rR (by decide) rfl)).trans m16380))
            have z16406 : RP (aI (f16399 pR)) 0 = RP (aI (f0 pR)) 0 := rp_fm z16390 g16401 rR rfl
            have z16407 : RF rw_X12_payRents_u f0 f16399 h0 := rf_fm hTH z16391 g16401 rh0 rfl
            have hF := FM.tr hF g16401 rfl
            refine lv_aload_n hx hb dX12_payRents_60 rfl (lv_at hl 3 rfl) ?_
            refine fg_RX12_8 E hW rh0 dX12_payRents_61 (fun a16408 m16409 r16410 => ?_)
            obtain rfl : pR = a16408 := (((fm_R g16401 rh0 rfl).trans ((fm_R g16386 rh0 rfl).trans m16375))).symm.trans m16409
            refine lv_iload_n hx hb dX12_payRents_64 rfl (lv_at hl 0 rfl) ?_
            refine lv_iconst (v := 4) hx hb dX12_payRents_65 (by decide) ?_
            refine q_iadd (Y := 4) hx hb dX12_payRents_66 rfl rfl (by omega) (fun x16411 h16412 => ?_)
            refine gl_822 E hW rR ⟨by omega, by omega⟩ dX12_payRents_67 (fun y16413 m16414 b16415 => ?_)
            refine u_iadd hx hb dX12_payRents_68 (fun x16416 => ?_)
            refine lv_istore (lv' := [(4, .int x16416), (3, .int x16013), (2, .int y13539), (1, .int x5), (0, .ref h0)]) hx hb dX12_payRents_69 hl (by decide) rfl (fun ls hl => ?_)
            refine lv_aload_n hx hb dX12_payRents_71 rfl (lv_at hl 4 rfl) ?_
            refine lv_iload_n hx hb dX12_payRents_72 rfl (lv_at hl 2 rfl) ?_
            have hW0 := hW.2.2.2
            refine t_callV (As := [.int y13539]) (rest := []) E hW (c_X12_keepsField l G cI cJ cZ cD cR cT kp L f16399 hW.2.2.2 _ h0 y13539 rh0 (by omega) (by rw [m16409]; exact (tx_rf hTX z16407 mR rfl rfl))) rh0 (by decide) rfl wk_X12_keepsField tw_1703 rfl ⟨Nat.le_of_ble_eq_true rfl, Nat.le_of_ble_eq_true rfl⟩ ⟨rfl, rfl⟩ hl.1 rfl (Nat.le_of_ble_eq_true rfl) dX12_payRents_73 ⟨Nat.le_of_ble_eq_true rfl, Nat.le_of_ble_eq_true rfl⟩ (fun v16417 f16418 H locs q16419 hW => ?_)
            obtain ⟨⟨x16421, rfl, p16422⟩, g16420⟩ := q16419
            have m16423 : aI (f16418 pR) (2 : Int32).toNatClampNeg = y13547 := ((congrArg (fun z => aI z (2 : Int32).toNatClampNeg) (fm_A g16420 rR (by decide) rfl)).trans ((congrArg (fun z => aI z (2 : Int32).toNatClampNeg) (fm_A g16401 rR (by decide) rfl)).trans m16389))
            have m16424 : aI (f16418 pR) (x16392 : Int32).toNatClampNeg = y16394 := ((congrArg (fun z => aI z (x16392 : Int32).toNatClampNeg) (fm_A g16420 rR (by decide) rfl)).trans ((congrArg (fun z => aI z (x16392 : Int32).toNatClampNeg) (fm_A g16401 rR (by decide) rfl)).trans m16395))
            have z16425 : RP (aI (f16418 pR)) 0 = RP (aI (f0 pR)) 0 := rp_fm z16406 g16420 rR rfl
            have z16426 : RF rw_X12_payRents_u f0 f16418 h0 := rf_fm hTH z16407 g16420 rh0 rfl
            have hF := FM.tr hF g16420 rfl
            have J16441 : ∀ (f16435 : Nat → va_E) (y16438 : Int32) (m16436 : oR (f16435 h0) 2 = pR) (m16437 : aI (f16435 pR) (2 : Int32).toNatClampNeg = y13547) (z16439 : RF rw_X12_payRents_u f0 f16435 h0) (z16440 : RP (aI (f16435 pR)) 0 = RP (aI (f0 pR)) 0) (H : Heap) (locs : List Loc) (ls : Array Slot), WS G cI cJ cZ cD cR cT A kp L f16435 s H locs → FM kp L ms_X12_payRents_u f0 f16435 → lv_has ls 9 [(4, .int x16416), (3, .int x16013), (2, .int y13539), (1, .int x5), (0, .ref h0)] → W p l e ({ frames := 6, cells := 0, slots := 0, locals := 163 }) s m ([.ref h0] : List Value).toArray below meth c H locs 0 0 (MQ below (QT (po_X12_payRents_u kp L f0 h0) G cI cJ cZ cD cR cT A kp L) ([.ref h0] : List Value).toArray s 0 0 A) (F0 m 89 ls [.int y16438]) := by
              intro f16435 y16438 m16436 m16437 z16439 z16440 H locs ls hW hF hl
              clear b16025 c16370 p16388 h16393 c16397 p16403 p16422
              refine lv_istore (lv' := [(5, .int y16438), (4, .int x16416), (3, .int x16013), (2, .int y13539), (1, .int x5), (0, .ref h0)]) hx hb dX12_payRents_89 hl (by decide) rfl (fun ls hl => ?_)
              refine lv_aload_n hx hb dX12_payRents_91 rfl (lv_at hl 5 rfl) ?_
              refine fg_RX12_8 E hW rh0 dX12_payRents_92 (fun a16442 m16443 r16444 => ?_)
              obtain rfl : pR = a16442 := (m16436).symm.trans m16443
              refine lv_iload_n hx hb dX12_payRents_95 rfl (lv_at hl 2 rfl) ?_
              refine lv_iconst (v := 3) hx hb dX12_payRents_96 (by decide) ?_
              refine q_iadd (Y := 3) hx hb dX12_payRents_97 rfl rfl (by omega) (fun x16445 h16446 => ?_)
              refine gl_822 E hW rR ⟨by omega, by omega⟩ dX12_payRents_98 (fun y16447 m16448 b16449 => ?_)
              have b16450 := rr_fhol (show RowInv _ from b16449) m16448 (by omega)
              have hW0 := hW.2.2.2
              refine t_callS (As := [.int y16447]) (rest := []) E hW (c_X12_personAt l G cI cJ cZ cD cR cT kp L f16435 hW.2.2.2 _ y16447 (by omega)) wk_X12_personAt tw_1572 rfl ⟨Nat.le_of_ble_eq_true rfl, Nat.le_of_ble_eq_true rfl⟩ ⟨rfl, rfl⟩ hl.1 rfl (Nat.le_of_ble_eq_true rfl) dX12_payRents_99 ⟨Nat.le_of_ble_eq_true rfl, Nat.le_of_ble_eq_true rfl⟩ (fun v16451 f16452 H locs q16453 hW => ?_)
              obtain ⟨⟨x16455, rfl, p16456⟩, g16454⟩ := q16453
              have z16457 : RP (aI (f16452 pR)) 0 = RP (aI (f0 pR)) 0 := rp_fm z16440 g16454 rR rfl
              have z16458 : RF rw_X12_payRents_u f0 f16452 h0 := rf_fm hTH z16439 g16454 rh0 rfl
              have hF := FM.tr hF g16454 rfl
              refine lv_istore (lv' := [(6, .int x16455), (5, .int y16438), (4, .int x16416), (3, .int x16013), (2, .int y13539), (1, .int x5), (0, .ref h0)]) hx hb dX12_payRents_102 hl (by decide) rfl (fun ls hl => ?_)
              refine lv_iload hx hb dX12_payRents_104 (lv_at hl 1 rfl) ?_
              refine lv_aload_n hx hb dX12_payRents_106 rfl (lv_at hl 6 rfl) ?_
              refine fg_RX12_8 E hW rh0 dX12_payRents_107 (fun a16459 m16460 r16461 => ?_)
              obtain rfl : pR = a16459 := (((fm_R g16454 rh0 rfl).trans m16443)).symm.trans m16460
              refine lv_iload hx hb dX12_payRents_110 (lv_at hl 0 rfl) ?_
              refine lv_iconst (v := 1) hx hb dX12_payRents_112 (by decide) ?_
              refine q_iadd (Y := 1) hx hb dX12_payRents_113 rfl rfl (by omega) (fun x16462 h16463 => ?_)
              refine gl_822 E hW rR ⟨by omega, by omega⟩ dX12_payRents_114 (fun y16464 m16465 b16466 => ?_)
              refine u_isub hx hb dX12_payRents_115 (fun x16467 => ?_)
              refine lv_istore (lv' := [(7, .int x16467), (6, .int x16455), (5, .int y16438), (4, .int x16416), (3, .int x16013), (2, .int y13539), (1, .int x5), (0, .ref h0)]) hx hb dX12_payRents_116 hl (by decide) rfl (fun ls hl => ?_)
              refine lv_iload hx hb dX12_payRents_118 (lv_at hl 0 rfl) ?_
              have J16541 : ∀ (f16536 : Nat → va_E) (m16537 : oR (f16536 h0) 2 = pR) (m16538 : aI (f16536 pR) (2 : Int32).toNatClampNeg = y13547) (z16539 : RF rw_X12_payRents_u f0 f16536 h0) (z16540 : RP (aI (f16536 pR)) 0 = RP (aI (f0 pR)) 0) (H : Heap) (locs : List Loc) (ls : Array Slot), WS G cI cJ cZ cD cR cT A kp L f16536 s H locs → FM kp L ms_X12_payRents_u f0 f16536 → lv_has ls 9 [(7, .int x16467), (6, .int x16455), (5, .int y16438), (4, .int x16416), (3, .int x16013), (2, .int y13539), (1, .int x5), (0, .ref h0)] → W p l e ({ frames := 6, cells := 0, slots := 0, locals := 163 }) s m ([.ref h0] : List Value).toArray below meth c H locs 0 0 (MQ below (QT (po_X12_payRents_u kp L f0 h0) G cI cJ cZ cD cR cT A kp L) ([.ref h0] : List Value).toArray s 0 0 A) (F0 m 197 ls []) := by
                intro f16536 m16537 m16538 z16539 z16540 H locs ls hW hF hl
                refine lv_iload hx hb dX12_payRents_197 (lv_at hl 2 rfl) ?_
                refine lv_aload_n hx hb dX12_payRents_199 rfl (lv_at hl 7 rfl) ?_
                refine fg_RX12_8 E hW rh0 dX12_payRents_200 (fun a16542 m16543 r16544 => ?_)
                obtain rfl : pR = a16542 := (m16537).symm.trans m16543
                refine lv_iload hx hb dX12_payRents_203 (lv_at hl 1 rfl) ?_
                refine lv_iconst (v := 1) hx hb dX12_payRents_205 (by decide) ?_
                refine q_iadd (Y := 1) hx hb dX12_payRents_206 rfl rfl (by omega) (fun x16545 h16546 => ?_)
                refine gl_822 E hW rR ⟨by omega, by omega⟩ dX12_payRents_207 (fun y16547 m16548 b16549 => ?_)
                have J16560 : ∀ (y16559 : Int32) (H : Heap) (locs : List Loc) (ls : Array Slot), WS G cI cJ cZ cD cR cT A kp L f16536 s H locs → FM kp L ms_X12_payRents_u f0 f16536 → lv_has ls 9 [(7, .int x16467), (6, .int x16455), (5, .int y16438), (4, .int x16416), (3, .int x16013), (2, .int y13539), (1, .int x5), (0, .ref h0)] → W p l e ({ frames := 6, cells := 0, slots := 0, locals := 163 }) s m ([.ref h0] : List Value).toArray below meth c H locs 0 0 (MQ below (QT (po_X12_payRents_u kp L f0 h0) G cI cJ cZ cD cR cT A kp L) ([.ref h0] : List Value).toArray s 0 0 A) (F0 m 225 ls [.int y16559]) := by
                  intro y16559 H locs ls hW hF hl
                  refine lv_istore (lv' := [(8, .int y16559), (7, .int x16467), (6, .int x16455), (5, .int y16438), (4, .int x16416), (3, .int x16013), (2, .int y13539), (1, .int x5), (0, .ref h0)]) hx hb dX12_payRents_225 hl (by decide) rfl (fun ls hl => ?_)
                  refine lv_aload_n hx hb dX12_payRents_227 rfl (lv_at hl 8 rfl) ?_
                  refine fg_RX12_8 E hW rh0 dX12_payRents_228 (fun a16561 m16562 r16563 => ?_)
                  obtain rfl : pR = a16561 := (m16543).symm.trans m16562
                  refine lv_iload hx hb dX12_payRents_231 (lv_at hl 2 rfl) ?_
                  refine lv_iconst (v := 1) hx hb dX12_payRents_233 (by decide) ?_
                  refine q_iadd (Y := 1) hx hb dX12_payRents_234 rfl rfl (by omega) (fun x16564 h16565 => ?_)
                  refine lv_dup2_11 hx hb dX12_payRents_235 rfl rfl ?_
                  refine gl_822 E hW rR ⟨by omega, by omega⟩ dX12_payRents_236 (fun y16566 m16567 b16568 => ?_)
                  have m16569 : aI (f16536 pR) (x16564 : Int32).toNatClampNeg = y16547 := by rw [show (x16564 : Int32) = x16545 from Int32.toInt_inj.mp (by omega)]; exact m16548
                  obtain rfl : y16547 = y16566 := (m16569).symm.trans m16567
                  refine lv_iload hx hb dX12_payRents_237 (lv_at hl 0 rfl) ?_
                  refine u_isub hx hb dX12_payRents_239 (fun x16570 => ?_)
                  have hW0 := hW.2.2.2
                  refine gs_822 E hW rR ⟨by omega, by omega⟩ (fun hc => rr_up hc (by omega) (by omega) (by unfold rbI; omega)) dX12_payRents_240 (fun f16571 H locs e16572 n16573 g16574 hW => ?_)
                  have z16575 : RP (aI (f16571 pR)) 0 = RP (aI (f0 pR)) 0 := rp_st z16540 e16572 (by omega) (by omega)
                  have z16576 : RF rw_X12_payRents_u f0 f16571 h0 := rf_st (lo := 13) (hi := 333) z16539 mR e16572 (by omega) rfl
                  have hF := FM.tr hF g16574 rfl
                  refine lv_aload_n hx hb dX12_payRents_241 rfl (lv_at hl 8 rfl) ?_
                  refine fg_RX12_8 E hW rh0 dX12_payRents_242 (fun a16577 m16578 r16579 => ?_)
                  obtain rfl : pR = a16577 := (((fm_R g16574 rh0 rfl).trans m16562)).symm.trans m16578
                  refine lv_aload_n hx hb dX12_payRents_245 rfl (lv_at hl 8 rfl) ?_
                  refine fg_RX12_8 E hW rh0 dX12_payRents_246 (fun a16580 m16581 r16582 => ?_)
                  obtain rfl : pR = a16580 := (m16578).symm.trans m16581
                  refine lv_iload_n hx hb dX12_payRents_249 rfl (lv_at hl 5 rfl) ?_
                  refine gl_822 E hW rR ⟨by omega, by omega⟩ dX12_payRents_250 (fun y16583 m16584 b16585 => ?_)
                  have b16586 := rr_fest (show RowInv _ from b16585) m16584 (by omega)
                  have hW0 := hW.2.2.2
                  refine t_callS (As := [.int y16583]) (rest := [.ref pR]) E hW (c_X12_estateAt l G cI cJ cZ cD cR cT kp L f16571 hW.2.2.2 _ y16583 (by omega)) wk_X12_estateAt tw_1611 rfl ⟨Nat.le_of_ble_eq_true rfl, Nat.le_of_ble_eq_true rfl⟩ ⟨rfl, rfl⟩ hl.1 rfl (Nat.le_of_ble_eq_true rfl) dX12_payRents_251 ⟨Nat.le_of_ble_eq_true rfl, Nat.le_of_ble_eq_true rfl⟩ (fun v16587 f16588 H locs q16589 hW => ?_)
                  obtain ⟨⟨x16591, rfl, p16592⟩, g16590⟩ := q16589
                  have m16593 : aI (f16588 pR) (2 : Int32).toNatClampNeg = y13547 := ((congrArg (fun z => aI z (2 : Int32).toNatClampNeg) (fm_A g16590 rR (by decide) rfl)).trans (show aI (f16571 pR) (2 : Int32).toNatClampNeg = y13547 from by rw [e16572, up_n (tn_ne (by omega) (by decide) (by have hk0 : (2 : Int32).toInt = 2 := rfl; omega))]; exact m16538))
                  have m16594 : aI (f16588 pR) (x16564 : Int32).toNatClampNeg = x16570 := ((congrArg (fun z => aI z (x16564 : Int32).toNatClampNeg) (fm_A g16590 rR (by decide) rfl)).trans (show aI (f16571 pR) (x16564 : Int32).toNatClampNeg = x16570 from by rw [e16572]; exact up_s))
                  have z16595 : RP (aI (f16588 pR)) 0 = RP (aI (f0 pR)) 0 := rp_fm z16575 g16590 rR rfl
                  have z16596 : RF rw_X12_payRents_u f0 f16588 h0 := rf_fm hTH z16576 g16590 rh0 rfl
                  have hF := FM.tr hF g16590 rfl
                  refine lv_dup2_11 hx hb dX12_payRents_254 rfl rfl ?_
                  refine gl_822 E hW rR ⟨by omega, by omega⟩ dX12_payRents_255 (fun y16597 m16598 b16599 => ?_)
                  refine lv_iload hx hb dX12_payRents_256 (lv_at hl 0 rfl) ?_
                  refine u_iadd hx hb dX12_payRents_258 (fun x16600 => ?_)
                  have hW0 := hW.2.2.2
                  refine gs_822 E hW rR ⟨by omega, by omega⟩ (fun hc => rr_up hc (by omega) (by omega) (by unfold rbI; omega)) dX12_payRents_259 (fun f16601 H locs e16602 n16603 g16604 hW => ?_)
                  have z16605 : RP (aI (f16601 pR)) 0 = RP (aI (f0 pR)) 0 := rp_st z16595 e16602 (by omega) ⟨by omega, fun _ _ => by omega⟩
                  have z16606 : RF rw_X12_payRents_u f0 f16601 h0 := rf_st (lo := 340) (hi := 361) z16596 mR e16602 (by omega) rfl
                  have hF := FM.tr hF g16604 rfl
                  refine lv_aload_n hx hb dX12_payRents_260 rfl (lv_at hl 8 rfl) ?_
                  refine fg_RX12_8 E hW rh0 dX12_payRents_261 (fun a16607 m16608 r16609 => ?_)
                  obtain rfl : pR = a16607 := (((fm_R g16604 rh0 rfl).trans ((fm_R g16590 rh0 rfl).trans m16581))).symm.trans m16608
                  refine lv_iload_n hx hb dX12_payRents_264 rfl (lv_at hl 5 rfl) ?_
                  refine lv_iconst (v := 4) hx hb dX12_payRents_265 (by decide) ?_
                  refine q_iadd (Y := 4) hx hb dX12_payRents_266 rfl rfl (by omega) (fun x16610 h16611 => ?_)
                  refine lv_iload hx hb dX12_payRents_267 (lv_at hl 4 rfl) ?_
                  refine lv_iload hx hb dX12_payRents_269 (lv_at hl 0 rfl) ?_
                  refine u_isub hx hb dX12_payRents_271 (fun x16612 => ?_)
                  refine lv_ldc (v := 10000000) hx hb hown (hts _ tw_1600) dX12_payRents_272 ?_
                  have J16615 : ∀ (y16614 : Int32) (H : Heap) (locs : List Loc) (ls : Array Slot), WS G cI cJ cZ cD cR cT A kp L f16601 s H locs → FM kp L ms_X12_payRents_u f0 f16601 → lv_has ls 9 [(8, .int y16559), (7, .int x16467), (6, .int x16455), (5, .int y16438), (4, .int x16416), (3, .int x16013), (2, .int y13539), (1, .int x5), (0, .ref h0)] → W p l e ({ frames := 6, cells := 0, slots := 0, locals := 163 }) s m ([.ref h0] : List Value).toArray below meth c H locs 0 0 (MQ below (QT (po_X12_payRents_u kp L f0 h0) G cI cJ cZ cD cR cT A kp L) ([.ref h0] : List Value).toArray s 0 0 A) (F0 m 287 ls [.int y16614, .int x16610, .ref pR]) := by
                    intro y16614 H locs ls hW hF hl
                    have hW0 := hW.2.2.2
                    refine gs_822 E hW rR ⟨by omega, by omega⟩ (fun hc => rr_up hc (by omega) (by omega) (by unfold rbI; omega)) dX12_payRents_287 (fun f16616 H locs e16617 n16618 g16619 hW => ?_)
                    have z16620 : RP (aI (f16616 pR)) 0 = RP (aI (f0 pR)) 0 := rp_st z16605 e16617 (by omega) ⟨by omega, fun _ _ => by omega⟩
                    have z16621 : RF rw_X12_payRents_u f0 f16616 h0 := rf_st (lo := 368) (hi := 680) z16606 mR e16617 (by omega) rfl
                    have hF := FM.tr hF g16619 rfl
                    exact J16367 f16616 ((fm_R g16619 rh0 rfl).trans m16608) (show aI (f16616 pR) (2 : Int32).toNatClampNeg = y13547 from by rw [e16617, up_n (tn_ne (by omega) (by decide) (by have hk0 : (2 : Int32).toInt = 2 := rfl; omega))]; exact (show aI (f16601 pR) (2 : Int32).toNatClampNeg = y13547 from by rw [e16602, up_n (tn_ne (by omega) (by decide) (by have hk0 : (2 : Int32).toInt = 2 := rfl; omega))]; exact m16593)) z16621 z16620 _ _ _ hW hF (lv_sub hl [5, 6, 7, 8] rfl)
                  refine q_icmp_le (Y := 10000000) (tgt := 282) hx hb dX12_payRents_274 (by decide) rfl rfl (fun c16622 => ?_) (fun c16622 => ?_)
                  · refine lv_iload hx hb dX12_payRents_282 (lv_at hl 4 rfl) ?_
                    refine lv_iload hx hb dX12_payRents_284 (lv_at hl 0 rfl) ?_
                    refine u_isub hx hb dX12_payRents_286 (fun x16623 => ?_)
                    exact J16615 x16623  _ _ _ hW hF (lv_sub hl [0, 1, 2, 3, 4, 5, 6, 7, 8] rfl)
                  · refine lv_ldc (v := 10000000) hx hb hown (hts _ tw_1600) dX12_payRents_277 ?_
                    refine lv_goto (tgt := 287) hx hb dX12_payRents_279 (by decide) ?_
                    exact J16615 10000000  _ _ _ hW hF (lv_sub hl [0, 1, 2, 3, 4, 5, 6, 7, 8] rfl)
                refine q_icmp_le (tgt := 223) hx hb dX12_payRents_208 (by decide) rfl rfl (fun c16624 => ?_) (fun c16624 => ?_)
                · refine lv_iload hx hb dX12_payRents_223 (lv_at hl 2 rfl) ?_
                  exact J16560 y16438  _ _ _ hW hF (lv_sub hl [0, 1, 2, 3, 4, 5, 6, 7] rfl)
                · have hb16625 : y16547.toInt ≤ 2147483646 := by have := i32_b y16438; omega
                  have hb16626 : -2147483647 ≤ y16438.toInt := by have := i32_b y16547; omega
                  refine lv_aload_n hx hb dX12_payRents_211 rfl (lv_at hl 7 rfl) ?_
                  refine fg_RX12_8 E hW rh0 dX12_payRents_212 (fun a16627 m16628 r16629 => ?_)
                  obtain rfl : pR = a16627 := (m16543).symm.trans m16628
                  refine lv_iload hx hb dX12_payRents_215 (lv_at hl 1 rfl) ?_
                  refine lv_iconst (v := 1) hx hb dX12_payRents_217 (by decide) ?_
                  refine q_iadd (Y := 1) hx hb dX12_payRents_218 rfl rfl (by omega) (fun x16630 h16631 => ?_)
                  refine gl_822 E hW rR ⟨by omega, by omega⟩ dX12_payRents_219 (fun y16632 m16633 b16634 => ?_)
                  have m16635 : aI (f16536 pR) (x16630 : Int32).toNatClampNeg = y16547 := by rw [show (x16630 : Int32) = x16545 from Int32.toInt_inj.mp (by omega)]; exact m16548
                  obtain rfl : y16547 = y16632 := (m16635).symm.trans m16633
                  refine lv_goto (tgt := 225) hx hb dX12_payRents_220 (by decide) ?_
                  exact J16560 y16547  _ _ _ hW hF (lv_sub hl [0, 1, 2, 3, 4, 5, 6, 7] rfl)
              refine q_if_le (tgt := 197) hx hb dX12_payRents_120 (by decide) rfl (fun c16636 => ?_) (fun c16636 => ?_)
              · exact J16541 f16452 m16460 ((congrArg (fun z => aI z (2 : Int32).toNatClampNeg) (fm_A g16454 rR (by decide) rfl)).trans m16437) z16458 z16457 _ _ _ hW hF (lv_sub hl [0, 1, 2, 3, 4, 5, 6, 7] rfl)
              · refine lv_iload_n hx hb dX12_payRents_123 rfl (lv_at hl 6 rfl) ?_
                refine q_if_le (tgt := 197) hx hb dX12_payRents_124 (by decide) rfl (fun c16637 => ?_) (fun c16637 => ?_)
                · exact J16541 f16452 m16460 ((congrArg (fun z => aI z (2 : Int32).toNatClampNeg) (fm_A g16454 rR (by decide) rfl)).trans m16437) z16458 z16457 _ _ _ hW hF (lv_sub hl [0, 1, 2, 3, 4, 5, 6, 7] rfl)
                · refine lv_iload hx hb dX12_payRents_127 (lv_at hl 0 rfl) ?_
                  refine lv_iload_n hx hb dX12_payRents_129 rfl (lv_at hl 6 rfl) ?_
                  refine u_iadd hx hb dX12_payRents_130 (fun x16638 => ?_)
                  refine lv_iconst (v := 1) hx hb dX12_payRents_131 (by decide) ?_
                  refine u_isub hx hb dX12_payRents_132 (fun x16639 => ?_)
                  refine lv_iload_n hx hb dX12_payRents_133 rfl (lv_at hl 6 rfl) ?_
                  refine u_idiv hx hb dX12_payRents_134 (by omega) (fun x16640 => ?_)
                  refine lv_istore (lv' := [(8, .int x16640), (7, .int x16467), (6, .int x16455), (5, .int y16438), (4, .int x16416), (3, .int x16013), (2, .int y13539), (1, .int x5), (0, .ref h0)]) hx hb dX12_payRents_135 hl (by decide) rfl (fun ls hl => ?_)
                  refine lv_iload hx hb dX12_payRents_137 (lv_at hl 0 rfl) ?_
                  refine lv_aload_n hx hb dX12_payRents_139 rfl (lv_at hl 8 rfl) ?_
                  refine fg_RX12_8 E hW rh0 dX12_payRents_140 (fun a16641 m16642 r16643 => ?_)
                  obtain rfl : pR = a16641 := (m16460).symm.trans m16642
                  refine lv_iload hx hb dX12_payRents_143 (lv_at hl 2 rfl) ?_
                  refine lv_iconst (v := 4) hx hb dX12_payRents_145 (by decide) ?_
                  refine q_iadd (Y := 4) hx hb dX12_payRents_146 rfl rfl (by omega) (fun x16644 h16645 => ?_)
                  refine gl_822 E hW rR ⟨by omega, by omega⟩ dX12_payRents_147 (fun y16646 m16647 b16648 => ?_)
                  have J16659 : ∀ (y16658 : Int32) (H : Heap) (locs : List Loc) (ls : Array Slot), WS G cI cJ cZ cD cR cT A kp L f16452 s H locs → FM kp L ms_X12_payRents_u f0 f16452 → lv_has ls 9 [(8, .int x16640), (7, .int x16467), (6, .int x16455), (5, .int y16438), (4, .int x16416), (3, .int x16013), (2, .int y13539), (1, .int x5), (0, .ref h0)] → W p l e ({ frames := 6, cells := 0, slots := 0, locals := 163 }) s m ([.ref h0] : List Value).toArray below meth c H locs 0 0 (MQ below (QT (po_X12_payRents_u kp L f0 h0) G cI cJ cZ cD cR cT A kp L) ([.ref h0] : List Value).toArray s 0 0 A) (F0 m 165 ls [.int y16658]) := by
                    intro y16658 H locs ls hW hF hl
                    refine lv_istore (lv' := [(8, .int y16658), (7, .int x16467), (6, .int x16455), (5, .int y16438), (4, .int x16416), (3, .int x16013), (2, .int y13539), (1, .int x5), (0, .ref h0)]) hx hb dX12_payRents_165 hl (by decide) rfl (fun ls hl => ?_)
                    refine lv_aload_n hx hb dX12_payRents_167 rfl (lv_at hl 8 rfl) ?_
                    refine fg_RX12_8 E hW rh0 dX12_payRents_168 (fun a16660 m16661 r16662 => ?_)
                    obtain rfl : pR = a16660 := (m16642).symm.trans m16661
                    refine lv_iload hx hb dX12_payRents_171 (lv_at hl 2 rfl) ?_
                    refine lv_iconst (v := 4) hx hb dX12_payRents_173 (by decide) ?_
                    refine q_iadd (Y := 4) hx hb dX12_payRents_174 rfl rfl (by omega) (fun x16663 h16664 => ?_)
                    refine lv_dup2_11 hx hb dX12_payRents_175 rfl rfl ?_
                    refine gl_822 E hW rR ⟨by omega, by omega⟩ dX12_payRents_176 (fun y16665 m16666 b16667 => ?_)
                    have m16668 : aI (f16452 pR) (x16663 : Int32).toNatClampNeg = y16646 := by rw [show (x16663 : Int32) = x16644 from Int32.toInt_inj.mp (by omega)]; exact m16647
                    obtain rfl : y16646 = y16665 := (m16668).symm.trans m16666
                    refine lv_iload hx hb dX12_payRents_177 (lv_at hl 0 rfl) ?_
                    refine u_isub hx hb dX12_payRents_179 (fun x16669 => ?_)
                    have hW0 := hW.2.2.2
                    refine gs_822 E hW rR ⟨by omega, by omega⟩ (fun hc => rr_up hc (by omega) (by omega) (by unfold rbI; omega)) dX12_payRents_180 (fun f16670 H locs e16671 n16672 g16673 hW => ?_)
                    have z16674 : RP (aI (f16670 pR)) 0 = RP (aI (f0 pR)) 0 := rp_st z16457 e16671 (by omega) (by omega)
                    have z16675 : RF rw_X12_payRents_u f0 f16670 h0 := rf_st (lo := 16) (hi := 336) z16458 mR e16671 (by omega) rfl
                    have hF := FM.tr hF g16673 rfl
                    refine lv_aload_n hx hb dX12_payRents_181 rfl (lv_at hl 8 rfl) ?_
                    refine fg_RX12_8 E hW rh0 dX12_payRents_182 (fun a16676 m16677 r16678 => ?_)
                    obtain rfl : pR = a16676 := (((fm_R g16673 rh0 rfl).trans m16661)).symm.trans m16677
                    refine lv_iload hx hb dX12_payRents_185 (lv_at hl 2 rfl) ?_
                    refine lv_iconst (v := 1) hx hb dX12_payRents_187 (by decide) ?_
                    refine q_iadd (Y := 1) hx hb dX12_payRents_188 rfl rfl (by omega) (fun x16679 h16680 => ?_)
                    refine lv_dup2_11 hx hb dX12_payRents_189 rfl rfl ?_
                    refine gl_822 E hW rR ⟨by omega, by omega⟩ dX12_payRents_190 (fun y16681 m16682 b16683 => ?_)
                    have m16684 : aI (f16670 pR) (x16679 : Int32).toNatClampNeg = y16464 := by rw [show (x16679 : Int32) = x16462 from Int32.toInt_inj.mp (by omega)]; exact (show aI (f16670 pR) (x16462 : Int32).toNatClampNeg = y16464 from by rw [e16671, up_n (tn_ne (by omega) (by omega) (by omega))]; exact m16465)
                    obtain rfl : y16464 = y16681 := (m16684).symm.trans m16682
                    refine lv_iload hx hb dX12_payRents_191 (lv_at hl 0 rfl) ?_
                    refine lv_iload_n hx hb dX12_payRents_193 rfl (lv_at hl 7 rfl) ?_
                    refine u_imul hx hb dX12_payRents_194 (fun x16685 => ?_)
                    refine u_iadd hx hb dX12_payRents_195 (fun x16686 => ?_)
                    have hW0 := hW.2.2.2
                    refine gs_822 E hW rR ⟨by omega, by omega⟩ (fun hc => rr_up hc (by omega) (by omega) (by unfold rbI; omega)) dX12_payRents_196 (fun f16687 H locs e16688 n16689 g16690 hW => ?_)
                    have z16691 : RP (aI (f16687 pR)) 0 = RP (aI (f0 pR)) 0 := rp_st z16674 e16688 (by omega) (by omega)
                    have z16692 : RF rw_X12_payRents_u f0 f16687 h0 := rf_st (lo := 13) (hi := 333) z16675 mR e16688 (by omega) rfl
                    have hF := FM.tr hF g16690 rfl
                    exact J16541 f16687 ((fm_R g16690 rh0 rfl).trans m16677) (show aI (f16687 pR) (2 : Int32).toNatClampNeg = y13547 from by rw [e16688, up_n (tn_ne (by omega) (by decide) (by have hk0 : (2 : Int32).toInt = 2 := rfl; omega))]; exact (show aI (f16670 pR) (2 : Int32).toNatClampNeg = y13547 from by rw [e16671, up_n (tn_ne (by omega) (by decide) (by have hk0 : (2 : Int32).toInt = 2 := rfl; omega))]; exact ((congrArg (fun z => aI z (2 : Int32).toNatClampNeg) (fm_A g16454 rR (by decide) rfl)).trans m16437))) z16692 z16691 _ _ _ hW hF (lv_sub hl [1, 2, 3, 4, 5, 6, 7, 8] rfl)
                  refine q_icmp_le (tgt := 163) hx hb dX12_payRents_148 (by decide) rfl rfl (fun c16693 => ?_) (fun c16693 => ?_)
                  · refine lv_iload hx hb dX12_payRents_163 (lv_at hl 0 rfl) ?_
                    exact J16659 x16640  _ _ _ hW hF (lv_sub hl [0, 1, 2, 3, 4, 5, 6, 7, 8] rfl)
                  · have hb16694 : y16646.toInt ≤ 2147483646 := by have := i32_b x16640; omega
                    have hb16695 : -2147483647 ≤ x16640.toInt := by have := i32_b y16646; omega
                    refine lv_aload_n hx hb dX12_payRents_151 rfl (lv_at hl 8 rfl) ?_
                    refine fg_RX12_8 E hW rh0 dX12_payRents_152 (fun a16696 m16697 r16698 => ?_)
                    obtain rfl : pR = a16696 := (m16642).symm.trans m16697
                    refine lv_iload hx hb dX12_payRents_155 (lv_at hl 2 rfl) ?_
                    refine lv_iconst (v := 4) hx hb dX12_payRents_157 (by decide) ?_
                    refine q_iadd (Y := 4) hx hb dX12_payRents_158 rfl rfl (by omega) (fun x16699 h16700 => ?_)
                    refine gl_822 E hW rR ⟨by omega, by omega⟩ dX12_payRents_159 (fun y16701 m16702 b16703 => ?_)
                    have m16704 : aI (f16452 pR) (x16699 : Int32).toNatClampNeg = y16646 := by rw [show (x16699 : Int32) = x16644 from Int32.toInt_inj.mp (by omega)]; exact m16647
                    obtain rfl : y16646 = y16701 := (m16704).symm.trans m16702
                    refine lv_goto (tgt := 165) hx hb dX12_payRents_160 (by decide) ?_
                    exact J16659 y16646  _ _ _ hW hF (lv_sub hl [0, 1, 2, 3, 4, 5, 6, 7, 8] rfl)
            refine q_if_eq (tgt := 87) hx hb dX12_payRents_76 (by decide) rfl (fun c16705 => ?_) (fun c16705 => ?_)
            · refine lv_iload hx hb dX12_payRents_87 (lv_at hl 0 rfl) ?_
              exact J16441 f16418 x16416 ((fm_R g16420 rh0 rfl).trans m16409) m16423 z16426 z16425 _ _ _ hW hF (lv_sub hl [0, 1, 2, 3, 4] rfl)
            · refine lv_aload_n hx hb dX12_payRents_79 rfl (lv_at hl 4 rfl) ?_
              refine lv_iload_n hx hb dX12_payRents_80 rfl (lv_at hl 2 rfl) ?_
              have hW0 := hW.2.2.2
              refine t_callV (As := [.int y13539]) (rest := []) E hW (c_X12_fairOf l G cI cJ cZ cD cR cT kp L f16418 hW.2.2.2 _ h0 y13539 rh0 (by omega) (by rw [((fm_R g16420 rh0 rfl).trans m16409)]; exact (tx_rf hTX z16426 mR rfl rfl))) rh0 (by decide) rfl wk_X12_fairOf tw_1661 rfl ⟨Nat.le_of_ble_eq_true rfl, Nat.le_of_ble_eq_true rfl⟩ ⟨rfl, rfl⟩ hl.1 rfl (Nat.le_of_ble_eq_true rfl) dX12_payRents_81 ⟨Nat.le_of_ble_eq_true rfl, Nat.le_of_ble_eq_true rfl⟩ (fun v16706 f16707 H locs q16708 hW => ?_)
              obtain ⟨⟨x16710, rfl, p16711⟩, g16709⟩ := q16708
              clear p16711
              have m16712 : aI (f16707 pR) (x16020 : Int32).toNatClampNeg = y16022 := ((congrArg (fun z => aI z (x16020 : Int32).toNatClampNeg) (fm_A g16709 rR (by decide) rfl)).trans ((congrArg (fun z => aI z (x16020 : Int32).toNatClampNeg) (fm_A g16420 rR (by decide) rfl)).trans m16404))
              have m16713 : aI (f16707 pR) (x16377 : Int32).toNatClampNeg = y16022 := ((congrArg (fun z => aI z (x16377 : Int32).toNatClampNeg) (fm_A g16709 rR (by decide) rfl)).trans ((congrArg (fun z => aI z (x16377 : Int32).toNatClampNeg) (fm_A g16420 rR (by decide) rfl)).trans m16405))
              have m16714 : aI (f16707 pR) (x16411 : Int32).toNatClampNeg = y16413 := ((congrArg (fun z => aI z (x16411 : Int32).toNatClampNeg) (fm_A g16709 rR (by decide) rfl)).trans ((congrArg (fun z => aI z (x16411 : Int32).toNatClampNeg) (fm_A g16420 rR (by decide) rfl)).trans m16414))
              have z16715 : RP (aI (f16707 pR)) 0 = RP (aI (f0 pR)) 0 := rp_fm z16425 g16709 rR rfl
              have z16716 : RF rw_X12_payRents_u f0 f16707 h0 := rf_fm hTH z16426 g16709 rh0 rfl
              have hF := FM.tr hF g16709 rfl
              refine lv_goto (tgt := 89) hx hb dX12_payRents_84 (by decide) ?_
              exact J16441 f16707 x16710 ((fm_R g16709 rh0 rfl).trans ((fm_R g16420 rh0 rfl).trans m16409)) ((congrArg (fun z => aI z (2 : Int32).toNatClampNeg) (fm_A g16709 rR (by decide) rfl)).trans m16423) z16716 z16715 _ _ _ hW hF (lv_sub hl [0, 1, 2, 3, 4] rfl)
  have hk16717 : (0 : Int32).toInt = 0 := rfl
  exact L13543 41 f2 0 ((fm_R g4 rh0 rfl).trans mR) (by decide) z8 z7 (by omega) _ _ _ hW hF (lv_sub hl [0, 1, 2] rfl)
def rw_X12_addWrit_u : List (Nat × Nat) := [(4, 4), (20, 1043)]
def ms_X12_addWrit_u : List (Nat × Nat) := [(822, 0)]
def po_X12_addWrit_u (kp : Nat → Nat) (L : List Nat) (f0 : Nat → va_E) (h0 : Nat) (u1 : Int32) : Option Value → (Nat → va_E) → Prop := fun v f => v = none ∧ FM kp L ms_X12_addWrit_u f0 f ∧ (RP (aI (f (oR (f0 h0) 2))) 0 = RP (aI (f0 (oR (f0 h0) 2))) 0) ∧ (RF rw_X12_addWrit_u f0 f h0)
set_option maxHeartbeats 4000000 in
set_option maxRecDepth 100000 in
theorem c_X12_addWrit_u (l : Launch) (G : va_G) (cI cJ cZ cD cR cT : ClassId) (kp : Nat → Nat) (L : List Nat) (f0 : Nat → va_E) (hTH : TH cI cJ cZ cD cR cT kp L f0) (sz : Nat) (h0 : Nat) (u1 : Int32) (rh0 : RK kp L h0 12) (pu1 : (0 : Int) ≤ u1.toInt ∧ u1.toInt ≤ 39) (hr4 : (0 : Int) ≤ (aI (f0 (oR (f0 h0) 2)) (4 : Int32).toNatClampNeg).toInt ∧ (aI (f0 (oR (f0 h0) 2)) (4 : Int32).toNatClampNeg).toInt ≤ 59) (hTX : TX (aI (f0 (oR (f0 h0) 2)))) : Met l yX12_addWrit (Cond.code yX12_addWrit cX12_addWrit 3 none :: wTab) ({ frames := 4, cells := 0, slots := 0, locals := 106 }) (va_Pc [.ref h0, .int u1] (PreW G (tys6 cI cJ cZ cD cR cT) (va_pl L f0) sz)) (QT (po_X12_addWrit_u kp L f0 h0 u1) G cI cJ cZ cD cR cT (va_A (va_pl L f0) sz) kp L) 0 0 (va_A (va_pl L f0) sz) := by
  refine metT (by decide) (Nat.le_of_ble_eq_true rfl) hTH ?_
  intro p e s m below meth c A ls E hW hl
  obtain ⟨hx, hb, -, hml, hown, hts, -, -, -⟩ := id E
  have hF : FM kp L ms_X12_addWrit_u f0 f0 := FM.rf
  have hl : lv_has ls 3 [(0, .ref h0), (1, .int u1)] := hl
  obtain ⟨pR, mR⟩ : ∃ x : Nat, oR (f0 h0) 2 = x := ⟨_, rfl⟩
  have rR : RK kp L pR 822 := by rw [← mR]; exact th_ref hTH rh0 (by decide) (by decide) rfl
  rw [mR] at hr4
  obtain ⟨p4, mp4⟩ : ∃ x : Int32, aI (f0 pR) (4 : Int32).toNatClampNeg = x := ⟨_, rfl⟩
  rw [mp4] at hr4
  rw [mR] at hTX
  refine lv_sipush (v := 684) hx hb dX12_addWrit_0 (by decide) ?_
  refine lv_bipush (v := 6) hx hb dX12_addWrit_3 (by decide) ?_
  refine lv_aload_n hx hb dX12_addWrit_5 rfl (lv_at hl 0 rfl) ?_
  refine fg_RX12_8 E hW rh0 dX12_addWrit_6 (fun a1 m2 r3 => ?_)
  obtain rfl : pR = a1 := (mR).symm.trans m2
  refine lv_iconst (v := 4) hx hb dX12_addWrit_9 (by decide) ?_
  refine gl_822 E hW rR (by decide) dX12_addWrit_10 (fun y4 m5 b6 => ?_)
  obtain rfl : p4 = y4 := (mp4).symm.trans m5
  refine q_imul (X := 6) hx hb dX12_addWrit_11 rfl rfl (by omega) (fun x7 h8 => ?_)
  refine q_iadd (X := 684) hx hb dX12_addWrit_12 rfl rfl (by omega) (fun x9 h10 => ?_)
  refine lv_istore_n (lv' := [(2, .int x9), (0, .ref h0), (1, .int u1)]) hx hb dX12_addWrit_13 rfl hl (by decide) rfl (fun ls hl => ?_)
  refine lv_aload_n hx hb dX12_addWrit_14 rfl (lv_at hl 1 rfl) ?_
  refine lv_iload_n hx hb dX12_addWrit_15 rfl (lv_at hl 0 rfl) ?_
  refine lv_iload_n hx hb dX12_addWrit_16 rfl (lv_at hl 2 rfl) ?_
  refine lv_aload_n hx hb dX12_addWrit_17 rfl (lv_at hl 1 rfl) ?_
  refine fg_RX12_8 E hW rh0 dX12_addWrit_18 (fun a11 m12 r13 => ?_)
  obtain rfl : pR = a11 := (m2).symm.trans m12
  refine lv_iload_n hx hb dX12_addWrit_21 rfl (lv_at hl 2 rfl) ?_
  have hW0 := hW.2.2.2
  refine t_callS (As := [.int u1]) (rest := [.ref pR, .int u1, .int x9, .ref h0]) E hW (c_X12_fieldAt l G cI cJ cZ cD cR cT kp L f0 hW.2.2.2 _ u1 (by omega)) wk_X12_fieldAt tw_1624 rfl ⟨Nat.le_of_ble_eq_true rfl, Nat.le_of_ble_eq_true rfl⟩ ⟨rfl, rfl⟩ hl.1 rfl (Nat.le_of_ble_eq_true rfl) dX12_addWrit_22 ⟨Nat.le_of_ble_eq_true rfl, Nat.le_of_ble_eq_true rfl⟩ (fun v14 f15 H locs q16 hW => ?_)
  obtain ⟨⟨x18, rfl, p19⟩, g17⟩ := q16
  have z20 : RP (aI (f15 pR)) 0 = RP (aI (f0 pR)) 0 := rp_fm (rfl : RP (aI (f0 pR)) 0 = RP (aI (f0 pR)) 0) g17 rR rfl
  have z21 : RF rw_X12_addWrit_u f0 f15 h0 := rf_fm hTH rf_rf g17 rh0 rfl
  have hF := FM.tr hF g17 rfl
  refine lv_iconst (v := 3) hx hb dX12_addWrit_25 (by decide) ?_
  refine q_iadd (Y := 3) hx hb dX12_addWrit_26 rfl rfl (by omega) (fun x22 h23 => ?_)
  refine gl_822 E hW rR ⟨by omega, by omega⟩ dX12_addWrit_27 (fun y24 m25 b26 => ?_)
  have b27 := rr_fhol (show RowInv _ from b26) m25 (by omega)
  refine lv_iconst (v := 0) hx hb dX12_addWrit_28 (by decide) ?_
  refine lv_aload_n hx hb dX12_addWrit_29 rfl (lv_at hl 1 rfl) ?_
  refine lv_iconst (v := 0) hx hb dX12_addWrit_30 (by decide) ?_
  have hW0 := hW.2.2.2
  refine t_callV (As := [.int 0]) (rest := [.int 0, .int y24, .int u1, .int x9, .ref h0]) E hW (c_X12_stepWeeks l G cI cJ cZ cD cR cT kp L f15 hW.2.2.2 _ h0 0 rh0 (by decide) (by rw [((fm_R g17 rh0 rfl).trans m12)]; exact (tx_rf hTX z21 mR rfl rfl))) rh0 (by decide) rfl wk_X12_stepWeeks tw_1938 rfl ⟨Nat.le_of_ble_eq_true rfl, Nat.le_of_ble_eq_true rfl⟩ ⟨rfl, rfl⟩ hl.1 rfl (Nat.le_of_ble_eq_true rfl) dX12_addWrit_31 ⟨Nat.le_of_ble_eq_true rfl, Nat.le_of_ble_eq_true rfl⟩ (fun v28 f29 H locs q30 hW => ?_)
  obtain ⟨⟨x32, rfl, p33⟩, g31⟩ := q30
  clear p33
  have m34 : aI (f29 pR) (4 : Int32).toNatClampNeg = p4 := ((congrArg (fun z => aI z (4 : Int32).toNatClampNeg) (fm_A g31 rR (by decide) rfl)).trans ((congrArg (fun z => aI z (4 : Int32).toNatClampNeg) (fm_A g17 rR (by decide) rfl)).trans m5))
  have z35 : RP (aI (f29 pR)) 0 = RP (aI (f0 pR)) 0 := rp_fm z20 g31 rR rfl
  have z36 : RF rw_X12_addWrit_u f0 f29 h0 := rf_fm hTH z21 g31 rh0 rfl
  have hF := FM.tr hF g31 rfl
  have hk37 : (0 : Int32).toInt = 0 := rfl
  have hW0 := hW.2.2.2
  refine t_callV (As := [.int x9, .int u1, .int y24, .int 0, .int x32]) (rest := []) E hW (c_X12_addFour l G cI cJ cZ cD cR cT kp L f29 hW.2.2.2 _ h0 x9 u1 y24 0 x32 rh0 (by omega) (by omega) (by omega) (by decide) ⟨by omega, by omega, by unfold rbI; omega, by unfold rbI; omega, by unfold rbI; omega, by unfold rbI; omega⟩) rh0 (by decide) rfl wk_X12_addFour tw_1575 rfl ⟨Nat.le_of_ble_eq_true rfl, Nat.le_of_ble_eq_true rfl⟩ ⟨rfl, rfl⟩ hl.1 rfl (Nat.le_of_ble_eq_true rfl) dX12_addWrit_34 ⟨Nat.le_of_ble_eq_true rfl, Nat.le_of_ble_eq_true rfl⟩ (fun v38 f39 H locs q40 hW => ?_)
  obtain ⟨rfl, g41, h42, h43⟩ := q40
  have z45 : RF rw_X12_addWrit_u f0 f39 h0 := rf_call z36 h43 mR ((fm_R g31 rh0 rfl).trans ((fm_R g17 rh0 rfl).trans m12)) rfl
  have hF := FM.tr hF g41 rfl
  have h47 := h42
  rw [((fm_R g31 rh0 rfl).trans ((fm_R g17 rh0 rfl).trans m12))] at h47
  have z46 : RP (aI (f39 pR)) 0 = RP (aI (f0 pR)) 0 := rp_four z35 h47 (by omega)
  have m48 : aI (f39 pR) (4 : Int32).toNatClampNeg = p4 := by
    have z := h42
    rw [((fm_R g31 rh0 rfl).trans ((fm_R g17 rh0 rfl).trans m12))] at z
    have z2 := tnc (i := 4) (by first | omega | decide)
    have hk : (4 : Int32).toInt = 4 := rfl
    exact (z _ (by omega)).trans m34
  have m49 : aI (f39 pR) (x22 : Int32).toNatClampNeg = y24 := by
    have z := h42
    rw [((fm_R g31 rh0 rfl).trans ((fm_R g17 rh0 rfl).trans m12))] at z
    have z2 := tnc (i := x22) (by first | omega | decide)
    have hk : (x22 : Int32).toInt = x22.toInt := rfl
    exact (z _ (by omega)).trans ((congrArg (fun z => aI z (x22 : Int32).toNatClampNeg) (fm_A g31 rR (by decide) rfl)).trans m25)
  refine lv_aload_n hx hb dX12_addWrit_37 rfl (lv_at hl 1 rfl) ?_
  refine fg_RX12_8 E hW rh0 dX12_addWrit_38 (fun a50 m51 r52 => ?_)
  obtain rfl : pR = a50 := (((fm_R g41 rh0 rfl).trans ((fm_R g31 rh0 rfl).trans ((fm_R g17 rh0 rfl).trans m12)))).symm.trans m51
  refine lv_iload_n hx hb dX12_addWrit_41 rfl (lv_at hl 0 rfl) ?_
  refine lv_iconst (v := 4) hx hb dX12_addWrit_42 (by decide) ?_
  refine q_iadd (Y := 4) hx hb dX12_addWrit_43 rfl rfl (by omega) (fun x53 h54 => ?_)
  refine lv_aload_n hx hb dX12_addWrit_44 rfl (lv_at hl 1 rfl) ?_
  refine fg_RX12_8 E hW rh0 dX12_addWrit_45 (fun a55 m56 r57 => ?_)
  obtain rfl : pR = a55 := (m51).symm.trans m56
  refine lv_bipush (v := 8) hx hb dX12_addWrit_48 (by decide) ?_
  refine gl_822 E hW rR (by decide) dX12_addWrit_50 (fun y58 m59 b60 => ?_)
  have b61 := rr_8 (show RowInv _ from b60) m59 (by decide)
  have hW0 := hW.2.2.2
  refine gs_822 E hW rR ⟨by omega, by omega⟩ (fun hc => rr_up hc (by omega) (by omega) (by unfold rbI; omega)) dX12_addWrit_51 (fun f62 H locs e63 n64 g65 hW => ?_)
  have z66 : RP (aI (f62 pR)) 0 = RP (aI (f0 pR)) 0 := rp_st z46 e63 (by omega) ⟨by omega, fun _ _ => by omega⟩
  have z67 : RF rw_X12_addWrit_u f0 f62 h0 := rf_st (lo := 688) (hi := 1042) z45 mR e63 (by omega) rfl
  have hF := FM.tr hF g65 rfl
  refine lv_aload_n hx hb dX12_addWrit_52 rfl (lv_at hl 1 rfl) ?_
  refine fg_RX12_8 E hW rh0 dX12_addWrit_53 (fun a68 m69 r70 => ?_)
  obtain rfl : pR = a68 := (((fm_R g65 rh0 rfl).trans m56)).symm.trans m69
  refine lv_iload_n hx hb dX12_addWrit_56 rfl (lv_at hl 0 rfl) ?_
  refine lv_iconst (v := 5) hx hb dX12_addWrit_57 (by decide) ?_
  refine q_iadd (Y := 5) hx hb dX12_addWrit_58 rfl rfl (by omega) (fun x71 h72 => ?_)
  refine lv_iconst (v := 0) hx hb dX12_addWrit_59 (by decide) ?_
  have hk73 : (0 : Int32).toInt = 0 := rfl
  have hW0 := hW.2.2.2
  refine gs_822 E hW rR ⟨by omega, by omega⟩ (fun hc => rr_up hc (by omega) (by omega) (by unfold rbI; omega)) dX12_addWrit_60 (fun f74 H locs e75 n76 g77 hW => ?_)
  have hk79 : (0 : Int32).toInt = 0 := rfl
  have z78 : RP (aI (f74 pR)) 0 = RP (aI (f0 pR)) 0 := rp_st z66 e75 (by omega) ⟨by omega, fun _ _ => by omega⟩
  have z80 : RF rw_X12_addWrit_u f0 f74 h0 := rf_st (lo := 689) (hi := 1043) z67 mR e75 (by omega) rfl
  have hF := FM.tr hF g77 rfl
  refine lv_aload_n hx hb dX12_addWrit_61 rfl (lv_at hl 1 rfl) ?_
  refine fg_RX12_8 E hW rh0 dX12_addWrit_62 (fun a81 m82 r83 => ?_)
  obtain rfl : pR = a81 := (((fm_R g77 rh0 rfl).trans m69)).symm.trans m82
  refine lv_iconst (v := 4) hx hb dX12_addWrit_65 (by decide) ?_
  refine lv_dup2_11 hx hb dX12_addWrit_66 rfl rfl ?_
  refine gl_822 E hW rR (by decide) dX12_addWrit_67 (fun y84 m85 b86 => ?_)
  obtain rfl : p4 = y84 := ((show aI (f74 pR) (4 : Int32).toNatClampNeg = p4 from by rw [e75, up_n (tn_ne (by omega) (by decide) (by have hk0 : (4 : Int32).toInt = 4 := rfl; omega))]; exact (show aI (f62 pR) (4 : Int32).toNatClampNeg = p4 from by rw [e63, up_n (tn_ne (by omega) (by decide) (by have hk0 : (4 : Int32).toInt = 4 := rfl; omega))]; exact m48))).symm.trans m85
  refine lv_iconst (v := 1) hx hb dX12_addWrit_68 (by decide) ?_
  refine q_iadd (Y := 1) hx hb dX12_addWrit_69 rfl rfl (by omega) (fun x87 h88 => ?_)
  have hk89 : (4 : Int32).toInt = 4 := rfl
  have hW0 := hW.2.2.2
  refine gs_822 E hW rR (by decide) (fun hc => rr_up hc (by omega) (by omega) (by unfold rbI; omega)) dX12_addWrit_70 (fun f90 H locs e91 n92 g93 hW => ?_)
  have hk95 : (4 : Int32).toInt = 4 := rfl
  have z94 : RP (aI (f90 pR)) 0 = RP (aI (f0 pR)) 0 := rp_st z78 e91 (by omega) (by omega)
  have z96 : RF rw_X12_addWrit_u f0 f90 h0 := rf_st (lo := 4) (hi := 4) z80 mR e91 (by decide) rfl
  have hF := FM.tr hF g93 rfl
  exact e_V E hW rfl ⟨rfl, hF, (by rw [mR]; exact z94), z96⟩ dX12_addWrit_71
def rw_X12_goWrit_u : List (Nat × Nat) := [(17, 339), (367, 682), (686, 1043)]
def ms_X12_goWrit_u : List (Nat × Nat) := [(12, 38), (822, 0)]
def po_X12_goWrit_u (kp : Nat → Nat) (L : List Nat) (f0 : Nat → va_E) (h0 : Nat) (u1 : Int32) : Option Value → (Nat → va_E) → Prop := fun v f => v = none ∧ FM kp L ms_X12_goWrit_u f0 f ∧ (RP (aI (f (oR (f0 h0) 2))) 0 = RP (aI (f0 (oR (f0 h0) 2))) 0) ∧ (RF rw_X12_goWrit_u f0 f h0)
set_option maxHeartbeats 4000000 in
set_option maxRecDepth 100000 in
theorem c_X12_goWrit_u (l : Launch) (G : va_G) (cI cJ cZ cD cR cT : ClassId) (kp : Nat → Nat) (L : List Nat) (f0 : Nat → va_E) (hTH : TH cI cJ cZ cD cR cT kp L f0) (sz : Nat) (h0 : Nat) (u1 : Int32) (rh0 : RK kp L h0 12) (pu1 : (684 : Int) ≤ u1.toInt ∧ u1.toInt ≤ 1038) (hw6 : (u1.toInt - 684) % 6 = 0) (hTX : TX (aI (f0 (oR (f0 h0) 2)))) : Met l yX12_goWrit (Cond.code yX12_goWrit cX12_goWrit 4 none :: wTab) ({ frames := 4, cells := 0, slots := 0, locals := 106 }) (va_Pc [.ref h0, .int u1] (PreW G (tys6 cI cJ cZ cD cR cT) (va_pl L f0) sz)) (QT (po_X12_goWrit_u kp L f0 h0 u1) G cI cJ cZ cD cR cT (va_A (va_pl L f0) sz) kp L) 0 0 (va_A (va_pl L f0) sz) := by
  refine metT (by decide) (Nat.le_of_ble_eq_true rfl) hTH ?_
  intro p e s m below meth c A ls E hW hl
  obtain ⟨hx, hb, -, hml, hown, hts, -, -, -⟩ := id E
  have hF : FM kp L ms_X12_goWrit_u f0 f0 := FM.rf
  have hl : lv_has ls 4 [(0, .ref h0), (1, .int u1)] := hl
  obtain ⟨pR, mR⟩ : ∃ x : Nat, oR (f0 h0) 2 = x := ⟨_, rfl⟩
  have rR : RK kp L pR 822 := by rw [← mR]; exact th_ref hTH rh0 (by decide) (by decide) rfl
  rw [mR] at hTX
  refine lv_aload_n hx hb dX12_goWrit_0 rfl (lv_at hl 0 rfl) ?_
  refine fg_RX12_8 E hW rh0 dX12_goWrit_1 (fun a1 m2 r3 => ?_)
  obtain rfl : pR = a1 := (mR).symm.trans m2
  refine lv_iload_n hx hb dX12_goWrit_4 rfl (lv_at hl 1 rfl) ?_
  refine gl_822 E hW rR ⟨by omega, by omega⟩ dX12_goWrit_5 (fun y4 m5 b6 => ?_)
  have b7 := rr_wfld (show RowInv _ from b6) m5 (by omega)
  have hW0 := hW.2.2.2
  refine t_callS (As := [.int y4]) (rest := []) E hW (c_X12_fieldAt l G cI cJ cZ cD cR cT kp L f0 hW.2.2.2 _ y4 (by omega)) wk_X12_fieldAt tw_1624 rfl ⟨Nat.le_of_ble_eq_true rfl, Nat.le_of_ble_eq_true rfl⟩ ⟨rfl, rfl⟩ hl.1 rfl (Nat.le_of_ble_eq_true rfl) dX12_goWrit_6 ⟨Nat.le_of_ble_eq_true rfl, Nat.le_of_ble_eq_true rfl⟩ (fun v8 f9 H locs q10 hW => ?_)
  obtain ⟨⟨x12, rfl, p13⟩, g11⟩ := q10
  have z14 : RP (aI (f9 pR)) 0 = RP (aI (f0 pR)) 0 := rp_fm (rfl : RP (aI (f0 pR)) 0 = RP (aI (f0 pR)) 0) g11 rR rfl
  have z15 : RF rw_X12_goWrit_u f0 f9 h0 := rf_fm hTH rf_rf g11 rh0 rfl
  have hF := FM.tr hF g11 rfl
  refine lv_istore_n (lv' := [(2, .int x12), (0, .ref h0), (1, .int u1)]) hx hb dX12_goWrit_9 rfl hl (by decide) rfl (fun ls hl => ?_)
  refine lv_aload_n hx hb dX12_goWrit_10 rfl (lv_at hl 1 rfl) ?_
  refine fg_RX12_8 E hW rh0 dX12_goWrit_11 (fun a16 m17 r18 => ?_)
  obtain rfl : pR = a16 := (((fm_R g11 rh0 rfl).trans m2)).symm.trans m17
  refine lv_iload_n hx hb dX12_goWrit_14 rfl (lv_at hl 0 rfl) ?_
  refine lv_iconst (v := 4) hx hb dX12_goWrit_15 (by decide) ?_
  refine q_iadd (Y := 4) hx hb dX12_goWrit_16 rfl rfl (by omega) (fun x19 h20 => ?_)
  refine gl_822 E hW rR ⟨by omega, by omega⟩ dX12_goWrit_17 (fun y21 m22 b23 => ?_)
  refine q_if_eq (tgt := 40) hx hb dX12_goWrit_18 (by decide) rfl (fun c24 => ?_) (fun c24 => ?_)
  · refine lv_aload_n hx hb dX12_goWrit_40 rfl (lv_at hl 1 rfl) ?_
    refine fg_RX12_8 E hW rh0 dX12_goWrit_41 (fun a25 m26 r27 => ?_)
    obtain rfl : pR = a25 := (m17).symm.trans m26
    refine lv_iload_n hx hb dX12_goWrit_44 rfl (lv_at hl 2 rfl) ?_
    refine lv_iconst (v := 5) hx hb dX12_goWrit_45 (by decide) ?_
    refine q_iadd (Y := 5) hx hb dX12_goWrit_46 rfl rfl (by omega) (fun x28 h29 => ?_)
    refine lv_iconst (v := 1) hx hb dX12_goWrit_47 (by decide) ?_
    have hk30 : (1 : Int32).toInt = 1 := rfl
    have hW0 := hW.2.2.2
    refine gs_822 E hW rR ⟨by omega, by omega⟩ (fun hc => rr_up hc (by omega) (by omega) (by unfold rbI; omega)) dX12_goWrit_48 (fun f31 H locs e32 n33 g34 hW => ?_)
    have hk36 : (1 : Int32).toInt = 1 := rfl
    have z35 : RP (aI (f31 pR)) 0 = RP (aI (f0 pR)) 0 := rp_st z14 e32 (by omega) ⟨by omega, fun _ _ => by omega⟩
    have z37 : RF rw_X12_goWrit_u f0 f31 h0 := rf_st (lo := 689) (hi := 1043) z15 mR e32 (by omega) rfl
    have hF := FM.tr hF g34 rfl
    exact e_V E hW rfl ⟨rfl, hF, (by rw [mR]; exact z35), z37⟩ dX12_goWrit_49
  · refine lv_aload_n hx hb dX12_goWrit_21 rfl (lv_at hl 1 rfl) ?_
    refine fg_RX12_8 E hW rh0 dX12_goWrit_22 (fun a38 m39 r40 => ?_)
    obtain rfl : pR = a38 := (m17).symm.trans m39
    refine lv_iload_n hx hb dX12_goWrit_25 rfl (lv_at hl 0 rfl) ?_
    refine lv_iconst (v := 3) hx hb dX12_goWrit_26 (by decide) ?_
    refine q_iadd (Y := 3) hx hb dX12_goWrit_27 rfl rfl (by omega) (fun x41 h42 => ?_)
    refine gl_822 E hW rR ⟨by omega, by omega⟩ dX12_goWrit_28 (fun y43 m44 b45 => ?_)
    have b46 := rr_fhol (show RowInv _ from b45) m44 (by omega)
    refine lv_aload_n hx hb dX12_goWrit_29 rfl (lv_at hl 1 rfl) ?_
    refine fg_RX12_8 E hW rh0 dX12_goWrit_30 (fun a47 m48 r49 => ?_)
    obtain rfl : pR = a47 := (m39).symm.trans m48
    refine lv_iload_n hx hb dX12_goWrit_33 rfl (lv_at hl 2 rfl) ?_
    refine lv_iconst (v := 1) hx hb dX12_goWrit_34 (by decide) ?_
    refine q_iadd (Y := 1) hx hb dX12_goWrit_35 rfl rfl (by omega) (fun x50 h51 => ?_)
    refine gl_822 E hW rR ⟨by omega, by omega⟩ dX12_goWrit_36 (fun y52 m53 b54 => ?_)
    refine q_icmp_eq (tgt := 50) hx hb dX12_goWrit_37 (by decide) rfl rfl (fun c55 => ?_) (fun c55 => ?_)
    · refine lv_aload_n hx hb dX12_goWrit_50 rfl (lv_at hl 1 rfl) ?_
      refine fg_RX12_8 E hW rh0 dX12_goWrit_51 (fun a56 m57 r58 => ?_)
      obtain rfl : pR = a56 := (m48).symm.trans m57
      refine lv_iload_n hx hb dX12_goWrit_54 rfl (lv_at hl 2 rfl) ?_
      refine lv_iconst (v := 4) hx hb dX12_goWrit_55 (by decide) ?_
      refine q_iadd (Y := 4) hx hb dX12_goWrit_56 rfl rfl (by omega) (fun x59 h60 => ?_)
      refine gl_822 E hW rR ⟨by omega, by omega⟩ dX12_goWrit_57 (fun y61 m62 b63 => ?_)
      refine lv_aload_n hx hb dX12_goWrit_58 rfl (lv_at hl 1 rfl) ?_
      refine fg_RX12_8 E hW rh0 dX12_goWrit_59 (fun a64 m65 r66 => ?_)
      obtain rfl : pR = a64 := (m57).symm.trans m65
      refine lv_bipush (v := 8) hx hb dX12_goWrit_62 (by decide) ?_
      refine gl_822 E hW rR (by decide) dX12_goWrit_64 (fun y67 m68 b69 => ?_)
      have b70 := rr_8 (show RowInv _ from b69) m68 (by decide)
      refine q_icmp_eq (tgt := 81) hx hb dX12_goWrit_65 (by decide) rfl rfl (fun c71 => ?_) (fun c71 => ?_)
      · exact e_V E hW rfl ⟨rfl, hF, (by rw [mR]; exact z14), z15⟩ dX12_goWrit_81
      · refine lv_aload_n hx hb dX12_goWrit_68 rfl (lv_at hl 1 rfl) ?_
        refine lv_aload_n hx hb dX12_goWrit_69 rfl (lv_at hl 1 rfl) ?_
        refine fg_RX12_8 E hW rh0 dX12_goWrit_70 (fun a72 m73 r74 => ?_)
        obtain rfl : pR = a72 := (m65).symm.trans m73
        refine lv_iload_n hx hb dX12_goWrit_73 rfl (lv_at hl 2 rfl) ?_
        refine gl_822 E hW rR ⟨by omega, by omega⟩ dX12_goWrit_74 (fun y75 m76 b77 => ?_)
        obtain rfl : y4 = y75 := (((congrArg (fun z => aI z (u1 : Int32).toNatClampNeg) (fm_A g11 rR (by decide) rfl)).trans m5)).symm.trans m76
        have hW0 := hW.2.2.2
        refine t_callV (As := [.int y4]) (rest := []) E hW (c_X12_isGuarded l G cI cJ cZ cD cR cT kp L f9 hW.2.2.2 _ h0 y4 rh0 (by omega)) rh0 (by decide) rfl wk_X12_isGuarded tw_1946 rfl ⟨Nat.le_of_ble_eq_true rfl, Nat.le_of_ble_eq_true rfl⟩ ⟨rfl, rfl⟩ hl.1 rfl (Nat.le_of_ble_eq_true rfl) dX12_goWrit_75 ⟨Nat.le_of_ble_eq_true rfl, Nat.le_of_ble_eq_true rfl⟩ (fun v78 f79 H locs q80 hW => ?_)
        obtain ⟨⟨x82, rfl, p83⟩, g81⟩ := q80
        have z84 : RP (aI (f79 pR)) 0 = RP (aI (f0 pR)) 0 := rp_fm z14 g81 rR rfl
        have z85 : RF rw_X12_goWrit_u f0 f79 h0 := rf_fm hTH z15 g81 rh0 rfl
        have hF := FM.tr hF g81 rfl
        refine q_if_eq (tgt := 82) hx hb dX12_goWrit_78 (by decide) rfl (fun c86 => ?_) (fun c86 => ?_)
        · refine lv_aload_n hx hb dX12_goWrit_82 rfl (lv_at hl 1 rfl) ?_
          refine fg_RX12_8 E hW rh0 dX12_goWrit_83 (fun a87 m88 r89 => ?_)
          obtain rfl : pR = a87 := (((fm_R g81 rh0 rfl).trans m73)).symm.trans m88
          refine lv_iload_n hx hb dX12_goWrit_86 rfl (lv_at hl 2 rfl) ?_
          refine lv_iconst (v := 3) hx hb dX12_goWrit_87 (by decide) ?_
          refine q_iadd (Y := 3) hx hb dX12_goWrit_88 rfl rfl (by omega) (fun x90 h91 => ?_)
          refine lv_dup2_11 hx hb dX12_goWrit_89 rfl rfl ?_
          refine gl_822 E hW rR ⟨by omega, by omega⟩ dX12_goWrit_90 (fun y92 m93 b94 => ?_)
          refine lv_iconst (v := 1) hx hb dX12_goWrit_91 (by decide) ?_
          refine u_isub hx hb dX12_goWrit_92 (fun x95 => ?_)
          have hW0 := hW.2.2.2
          refine gs_822 E hW rR ⟨by omega, by omega⟩ (fun hc => rr_up hc (by omega) (by omega) (by unfold rbI; omega)) dX12_goWrit_93 (fun f96 H locs e97 n98 g99 hW => ?_)
          have z100 : RP (aI (f96 pR)) 0 = RP (aI (f0 pR)) 0 := rp_st z84 e97 (by omega) ⟨by omega, fun _ _ => by omega⟩
          have z101 : RF rw_X12_goWrit_u f0 f96 h0 := rf_st (lo := 687) (hi := 1041) z85 mR e97 (by omega) rfl
          have hF := FM.tr hF g99 rfl
          refine lv_aload_n hx hb dX12_goWrit_94 rfl (lv_at hl 1 rfl) ?_
          refine fg_RX12_8 E hW rh0 dX12_goWrit_95 (fun a102 m103 r104 => ?_)
          obtain rfl : pR = a102 := (((fm_R g99 rh0 rfl).trans m88)).symm.trans m103
          refine lv_iload_n hx hb dX12_goWrit_98 rfl (lv_at hl 2 rfl) ?_
          refine lv_iconst (v := 3) hx hb dX12_goWrit_99 (by decide) ?_
          refine q_iadd (Y := 3) hx hb dX12_goWrit_100 rfl rfl (by omega) (fun x105 h106 => ?_)
          refine gl_822 E hW rR ⟨by omega, by omega⟩ dX12_goWrit_101 (fun y107 m108 b109 => ?_)
          have m110 : aI (f96 pR) (x105 : Int32).toNatClampNeg = x95 := by rw [show (x105 : Int32) = x90 from Int32.toInt_inj.mp (by omega)]; exact (show aI (f96 pR) (x90 : Int32).toNatClampNeg = x95 from by rw [e97]; exact up_s)
          obtain rfl : x95 = y107 := (m110).symm.trans m108
          refine q_if_le (tgt := 106) hx hb dX12_goWrit_102 (by decide) rfl (fun c111 => ?_) (fun c111 => ?_)
          · refine lv_aload_n hx hb dX12_goWrit_106 rfl (lv_at hl 1 rfl) ?_
            refine fg_RX12_8 E hW rh0 dX12_goWrit_107 (fun a112 m113 r114 => ?_)
            obtain rfl : pR = a112 := (m103).symm.trans m113
            refine lv_iload_n hx hb dX12_goWrit_110 rfl (lv_at hl 2 rfl) ?_
            refine lv_iconst (v := 2) hx hb dX12_goWrit_111 (by decide) ?_
            refine q_iadd (Y := 2) hx hb dX12_goWrit_112 rfl rfl (by omega) (fun x115 h116 => ?_)
            refine lv_dup2_11 hx hb dX12_goWrit_113 rfl rfl ?_
            refine gl_822 E hW rR ⟨by omega, by omega⟩ dX12_goWrit_114 (fun y117 m118 b119 => ?_)
            refine lv_iconst (v := 1) hx hb dX12_goWrit_115 (by decide) ?_
            refine u_iadd hx hb dX12_goWrit_116 (fun x120 => ?_)
            have hW0 := hW.2.2.2
            refine gs_822 E hW rR ⟨by omega, by omega⟩ (fun hc => rr_up hc (by omega) (by omega) (by unfold rbI; omega)) dX12_goWrit_117 (fun f121 H locs e122 n123 g124 hW => ?_)
            have z125 : RP (aI (f121 pR)) 0 = RP (aI (f0 pR)) 0 := rp_st z100 e122 (by omega) ⟨by omega, fun _ _ => by omega⟩
            have z126 : RF rw_X12_goWrit_u f0 f121 h0 := rf_st (lo := 686) (hi := 1040) z101 mR e122 (by omega) rfl
            have hF := FM.tr hF g124 rfl
            refine lv_aload_n hx hb dX12_goWrit_118 rfl (lv_at hl 1 rfl) ?_
            refine fg_RX12_8 E hW rh0 dX12_goWrit_119 (fun a127 m128 r129 => ?_)
            obtain rfl : pR = a127 := (((fm_R g124 rh0 rfl).trans m113)).symm.trans m128
            refine lv_iload_n hx hb dX12_goWrit_122 rfl (lv_at hl 2 rfl) ?_
            refine lv_iconst (v := 2) hx hb dX12_goWrit_123 (by decide) ?_
            refine q_iadd (Y := 2) hx hb dX12_goWrit_124 rfl rfl (by omega) (fun x130 h131 => ?_)
            refine gl_822 E hW rR ⟨by omega, by omega⟩ dX12_goWrit_125 (fun y132 m133 b134 => ?_)
            have m135 : aI (f121 pR) (x130 : Int32).toNatClampNeg = x120 := by rw [show (x130 : Int32) = x115 from Int32.toInt_inj.mp (by omega)]; exact (show aI (f121 pR) (x115 : Int32).toNatClampNeg = x120 from by rw [e122]; exact up_s)
            obtain rfl : x120 = y132 := (m135).symm.trans m133
            refine lv_iconst (v := 4) hx hb dX12_goWrit_126 (by decide) ?_
            refine q_icmp_ge (Y := 4) (tgt := 151) hx hb dX12_goWrit_127 (by decide) rfl rfl (fun c136 => ?_) (fun c136 => ?_)
            · refine lv_aload_n hx hb dX12_goWrit_151 rfl (lv_at hl 1 rfl) ?_
              refine fg_RX12_8 E hW rh0 dX12_goWrit_152 (fun a137 m138 r139 => ?_)
              obtain rfl : pR = a137 := (m128).symm.trans m138
              refine lv_iload_n hx hb dX12_goWrit_155 rfl (lv_at hl 2 rfl) ?_
              refine lv_iconst (v := 5) hx hb dX12_goWrit_156 (by decide) ?_
              refine q_iadd (Y := 5) hx hb dX12_goWrit_157 rfl rfl (by omega) (fun x140 h141 => ?_)
              refine lv_iconst (v := 1) hx hb dX12_goWrit_158 (by decide) ?_
              have hk142 : (1 : Int32).toInt = 1 := rfl
              have hW0 := hW.2.2.2
              refine gs_822 E hW rR ⟨by omega, by omega⟩ (fun hc => rr_up hc (by omega) (by omega) (by unfold rbI; omega)) dX12_goWrit_159 (fun f143 H locs e144 n145 g146 hW => ?_)
              have hk148 : (1 : Int32).toInt = 1 := rfl
              have z147 : RP (aI (f143 pR)) 0 = RP (aI (f0 pR)) 0 := rp_st z125 e144 (by omega) ⟨by omega, fun _ _ => by omega⟩
              have z149 : RF rw_X12_goWrit_u f0 f143 h0 := rf_st (lo := 689) (hi := 1043) z126 mR e144 (by omega) rfl
              have hF := FM.tr hF g146 rfl
              refine lv_aload_n hx hb dX12_goWrit_160 rfl (lv_at hl 1 rfl) ?_
              refine lv_dup hx hb dX12_goWrit_161 rfl ?_
              refine fg_RX12_461 E hW rh0 dX12_goWrit_162 (fun y150 m151 => ?_)
              refine lv_iconst (v := 1) hx hb dX12_goWrit_165 (by decide) ?_
              refine u_iadd hx hb dX12_goWrit_166 (fun x153 => ?_)
              have hW0 := hW.2.2.2
              refine fp_RX12_461 E hW rh0 dX12_goWrit_167 (fun f154 H locs e155 n156 g157 hW => ?_)
              have m158 : aI (f154 pR) (u1 : Int32).toNatClampNeg = y4 := ((congrArg (fun z => aI z (u1 : Int32).toNatClampNeg) (fm_A g157 rR (by decide) rfl)).trans (show aI (f143 pR) (u1 : Int32).toNatClampNeg = y4 from by rw [e144, up_n (tn_ne (by omega) (by omega) (by omega))]; exact (show aI (f121 pR) (u1 : Int32).toNatClampNeg = y4 from by rw [e122, up_n (tn_ne (by omega) (by omega) (by omega))]; exact (show aI (f96 pR) (u1 : Int32).toNatClampNeg = y4 from by rw [e97, up_n (tn_ne (by omega) (by omega) (by omega))]; exact ((congrArg (fun z => aI z (u1 : Int32).toNatClampNeg) (fm_A g81 rR (by decide) rfl)).trans m76)))))
              have m159 : aI (f154 pR) (x19 : Int32).toNatClampNeg = y21 := ((congrArg (fun z => aI z (x19 : Int32).toNatClampNeg) (fm_A g157 rR (by decide) rfl)).trans (show aI (f143 pR) (x19 : Int32).toNatClampNeg = y21 from by rw [e144, up_n (tn_ne (by omega) (by omega) (by omega))]; exact (show aI (f121 pR) (x19 : Int32).toNatClampNeg = y21 from by rw [e122, up_n (tn_ne (by omega) (by omega) (by omega))]; exact (show aI (f96 pR) (x19 : Int32).toNatClampNeg = y21 from by rw [e97, up_n (tn_ne (by omega) (by omega) (by omega))]; exact ((congrArg (fun z => aI z (x19 : Int32).toNatClampNeg) (fm_A g81 rR (by decide) rfl)).trans m22)))))
              have m160 : aI (f154 pR) (x41 : Int32).toNatClampNeg = y43 := ((congrArg (fun z => aI z (x41 : Int32).toNatClampNeg) (fm_A g157 rR (by decide) rfl)).trans (show aI (f143 pR) (x41 : Int32).toNatClampNeg = y43 from by rw [e144, up_n (tn_ne (by omega) (by omega) (by omega))]; exact (show aI (f121 pR) (x41 : Int32).toNatClampNeg = y43 from by rw [e122, up_n (tn_ne (by omega) (by omega) (by omega))]; exact (show aI (f96 pR) (x41 : Int32).toNatClampNeg = y43 from by rw [e97, up_n (tn_ne (by omega) (by omega) (by omega))]; exact ((congrArg (fun z => aI z (x41 : Int32).toNatClampNeg) (fm_A g81 rR (by decide) rfl)).trans m44)))))
              have m161 : aI (f154 pR) (x50 : Int32).toNatClampNeg = y52 := ((congrArg (fun z => aI z (x50 : Int32).toNatClampNeg) (fm_A g157 rR (by decide) rfl)).trans (show aI (f143 pR) (x50 : Int32).toNatClampNeg = y52 from by rw [e144, up_n (tn_ne (by omega) (by omega) (by omega))]; exact (show aI (f121 pR) (x50 : Int32).toNatClampNeg = y52 from by rw [e122, up_n (tn_ne (by omega) (by omega) (by omega))]; exact (show aI (f96 pR) (x50 : Int32).toNatClampNeg = y52 from by rw [e97, up_n (tn_ne (by omega) (by omega) (by omega))]; exact ((congrArg (fun z => aI z (x50 : Int32).toNatClampNeg) (fm_A g81 rR (by decide) rfl)).trans m53)))))
              have m162 : aI (f154 pR) (x59 : Int32).toNatClampNeg = y61 := ((congrArg (fun z => aI z (x59 : Int32).toNatClampNeg) (fm_A g157 rR (by decide) rfl)).trans (show aI (f143 pR) (x59 : Int32).toNatClampNeg = y61 from by rw [e144, up_n (tn_ne (by omega) (by omega) (by omega))]; exact (show aI (f121 pR) (x59 : Int32).toNatClampNeg = y61 from by rw [e122, up_n (tn_ne (by omega) (by omega) (by omega))]; exact (show aI (f96 pR) (x59 : Int32).toNatClampNeg = y61 from by rw [e97, up_n (tn_ne (by omega) (by omega) (by omega))]; exact ((congrArg (fun z => aI z (x59 : Int32).toNatClampNeg) (fm_A g81 rR (by decide) rfl)).trans m62)))))
              have m163 : aI (f154 pR) (8 : Int32).toNatClampNeg = y67 := ((congrArg (fun z => aI z (8 : Int32).toNatClampNeg) (fm_A g157 rR (by decide) rfl)).trans (show aI (f143 pR) (8 : Int32).toNatClampNeg = y67 from by rw [e144, up_n (tn_ne (by omega) (by decide) (by have hk0 : (8 : Int32).toInt = 8 := rfl; omega))]; exact (show aI (f121 pR) (8 : Int32).toNatClampNeg = y67 from by rw [e122, up_n (tn_ne (by omega) (by decide) (by have hk0 : (8 : Int32).toInt = 8 := rfl; omega))]; exact (show aI (f96 pR) (8 : Int32).toNatClampNeg = y67 from by rw [e97, up_n (tn_ne (by omega) (by decide) (by have hk0 : (8 : Int32).toInt = 8 := rfl; omega))]; exact ((congrArg (fun z => aI z (8 : Int32).toNatClampNeg) (fm_A g81 rR (by decide) rfl)).trans m68)))))
              have m164 : aI (f154 pR) (x90 : Int32).toNatClampNeg = x95 := ((congrArg (fun z => aI z (x90 : Int32).toNatClampNeg) (fm_A g157 rR (by decide) rfl)).trans (show aI (f143 pR) (x90 : Int32).toNatClampNeg = x95 from by rw [e144, up_n (tn_ne (by omega) (by omega) (by omega))]; exact (show aI (f121 pR) (x90 : Int32).toNatClampNeg = x95 from by rw [e122, up_n (tn_ne (by omega) (by omega) (by omega))]; exact (show aI (f96 pR) (x90 : Int32).toNatClampNeg = x95 from by rw [e97]; exact up_s))))
              have m165 : aI (f154 pR) (x105 : Int32).toNatClampNeg = x95 := ((congrArg (fun z => aI z (x105 : Int32).toNatClampNeg) (fm_A g157 rR (by decide) rfl)).trans (show aI (f143 pR) (x105 : Int32).toNatClampNeg = x95 from by rw [e144, up_n (tn_ne (by omega) (by omega) (by omega))]; exact (show aI (f121 pR) (x105 : Int32).toNatClampNeg = x95 from by rw [e122, up_n (tn_ne (by omega) (by omega) (by omega))]; exact m108)))
              have m166 : aI (f154 pR) (x115 : Int32).toNatClampNeg = x120 := ((congrArg (fun z => aI z (x115 : Int32).toNatClampNeg) (fm_A g157 rR (by decide) rfl)).trans (show aI (f143 pR) (x115 : Int32).toNatClampNeg = x120 from by rw [e144, up_n (tn_ne (by omega) (by omega) (by omega))]; exact (show aI (f121 pR) (x115 : Int32).toNatClampNeg = x120 from by rw [e122]; exact up_s)))
              have m167 : aI (f154 pR) (x130 : Int32).toNatClampNeg = x120 := ((congrArg (fun z => aI z (x130 : Int32).toNatClampNeg) (fm_A g157 rR (by decide) rfl)).trans (show aI (f143 pR) (x130 : Int32).toNatClampNeg = x120 from by rw [e144, up_n (tn_ne (by omega) (by omega) (by omega))]; exact m133))
              have z168 : RP (aI (f154 pR)) 0 = RP (aI (f0 pR)) 0 := rp_fm z147 g157 rR rfl
              have z169 : RF rw_X12_goWrit_u f0 f154 h0 := rf_fm hTH z149 g157 rh0 rfl
              have hF := FM.tr hF g157 rfl
              refine lv_aload_n hx hb dX12_goWrit_170 rfl (lv_at hl 1 rfl) ?_
              refine fg_RX12_8 E hW rh0 dX12_goWrit_171 (fun a170 m171 r172 => ?_)
              obtain rfl : pR = a170 := (((fm_R g157 rh0 rfl).trans ((fm_R g146 rh0 rfl).trans m138))).symm.trans m171
              refine lv_iload_n hx hb dX12_goWrit_174 rfl (lv_at hl 0 rfl) ?_
              refine lv_iconst (v := 3) hx hb dX12_goWrit_175 (by decide) ?_
              refine q_iadd (Y := 3) hx hb dX12_goWrit_176 rfl rfl (by omega) (fun x173 h174 => ?_)
              refine gl_822 E hW rR ⟨by omega, by omega⟩ dX12_goWrit_177 (fun y175 m176 b177 => ?_)
              have m178 : aI (f154 pR) (x173 : Int32).toNatClampNeg = y43 := by rw [show (x173 : Int32) = x41 from Int32.toInt_inj.mp (by omega)]; exact m160
              obtain rfl : y43 = y175 := (m178).symm.trans m176
              refine lv_istore_n (lv' := [(3, .int y43), (2, .int x12), (0, .ref h0), (1, .int u1)]) hx hb dX12_goWrit_178 rfl hl (by decide) rfl (fun ls hl => ?_)
              refine lv_aload_n hx hb dX12_goWrit_179 rfl (lv_at hl 2 rfl) ?_
              refine fg_RX12_8 E hW rh0 dX12_goWrit_180 (fun a179 m180 r181 => ?_)
              obtain rfl : pR = a179 := (m171).symm.trans m180
              refine lv_iload_n hx hb dX12_goWrit_183 rfl (lv_at hl 1 rfl) ?_
              refine lv_iconst (v := 3) hx hb dX12_goWrit_184 (by decide) ?_
              refine q_iadd (Y := 3) hx hb dX12_goWrit_185 rfl rfl (by omega) (fun x182 h183 => ?_)
              refine lv_iconst (v := (-1)) hx hb dX12_goWrit_186 (by decide) ?_
              have hk184 : ((-1) : Int32).toInt = -1 := rfl
              have m189 : aI (f154 pR) (x182 : Int32).toNatClampNeg = y43 := by rw [show (x182 : Int32) = x41 from Int32.toInt_inj.mp (by omega)]; exact m160
              have hW0 := hW.2.2.2
              refine gs_822 E hW rR ⟨by omega, by omega⟩ (fun hc => rr_up hc (by omega) (by omega) (by unfold rbI; omega)) dX12_goWrit_187 (fun f185 H locs e186 n187 g188 hW => ?_)
              have hk191 : ((-1) : Int32).toInt = -1 := rfl
              have z190 : RP (aI (f185 pR)) 0 = RP (aI (f0 pR)) 0 := rp_st z168 e186 (by omega) ⟨by omega, fun _ _ => by omega⟩
              have z192 : RF rw_X12_goWrit_u f0 f185 h0 := rf_st (lo := 367) (hi := 679) z169 mR e186 (by omega) rfl
              have hF := FM.tr hF g188 rfl
              refine lv_aload_n hx hb dX12_goWrit_188 rfl (lv_at hl 2 rfl) ?_
              refine fg_RX12_8 E hW rh0 dX12_goWrit_189 (fun a193 m194 r195 => ?_)
              obtain rfl : pR = a193 := (((fm_R g188 rh0 rfl).trans m180)).symm.trans m194
              refine lv_iload_n hx hb dX12_goWrit_192 rfl (lv_at hl 1 rfl) ?_
              refine lv_iconst (v := 5) hx hb dX12_goWrit_193 (by decide) ?_
              refine q_iadd (Y := 5) hx hb dX12_goWrit_194 rfl rfl (by omega) (fun x196 h197 => ?_)
              refine lv_iconst (v := 0) hx hb dX12_goWrit_195 (by decide) ?_
              have hk198 : (0 : Int32).toInt = 0 := rfl
              have hW0 := hW.2.2.2
              refine gs_822 E hW rR ⟨by omega, by omega⟩ (fun hc => rr_up hc (by omega) (by omega) (by unfold rbI; omega)) dX12_goWrit_196 (fun f199 H locs e200 n201 g202 hW => ?_)
              have hk204 : (0 : Int32).toInt = 0 := rfl
              have z203 : RP (aI (f199 pR)) 0 = RP (aI (f0 pR)) 0 := rp_st z190 e200 (by omega) ⟨by omega, fun _ _ => by omega⟩
              have z205 : RF rw_X12_goWrit_u f0 f199 h0 := rf_st (lo := 369) (hi := 681) z192 mR e200 (by omega) rfl
              have hF := FM.tr hF g202 rfl
              refine lv_aload_n hx hb dX12_goWrit_197 rfl (lv_at hl 2 rfl) ?_
              refine fg_RX12_8 E hW rh0 dX12_goWrit_198 (fun a206 m207 r208 => ?_)
              obtain rfl : pR = a206 := (((fm_R g202 rh0 rfl).trans m194)).symm.trans m207
              refine lv_iload_n hx hb dX12_goWrit_201 rfl (lv_at hl 1 rfl) ?_
              refine lv_bipush (v := 6) hx hb dX12_goWrit_202 (by decide) ?_
              refine q_iadd (Y := 6) hx hb dX12_goWrit_204 rfl rfl (by omega) (fun x209 h210 => ?_)
              refine lv_iconst (v := 1) hx hb dX12_goWrit_205 (by decide) ?_
              have hk211 : (1 : Int32).toInt = 1 := rfl
              have hW0 := hW.2.2.2
              refine gs_822 E hW rR ⟨by omega, by omega⟩ (fun hc => rr_up hc (by omega) (by omega) (by unfold rbI; omega)) dX12_goWrit_206 (fun f212 H locs e213 n214 g215 hW => ?_)
              have hk217 : (1 : Int32).toInt = 1 := rfl
              have z216 : RP (aI (f212 pR)) 0 = RP (aI (f0 pR)) 0 := rp_st z203 e213 (by omega) ⟨by omega, fun _ _ => by omega⟩
              have z218 : RF rw_X12_goWrit_u f0 f212 h0 := rf_st (lo := 370) (hi := 682) z205 mR e213 (by omega) rfl
              have hF := FM.tr hF g215 rfl
              refine lv_aload_n hx hb dX12_goWrit_207 rfl (lv_at hl 2 rfl) ?_
              refine lv_iload_n hx hb dX12_goWrit_208 rfl (lv_at hl 0 rfl) ?_
              refine lv_iconst (v := 0) hx hb dX12_goWrit_209 (by decide) ?_
              have hW0 := hW.2.2.2
              refine t_callV (As := [.int y43, .int 0]) (rest := []) E hW (c_X12_holdsAny l G cI cJ cZ cD cR cT kp L f212 hW.2.2.2 _ h0 y43 0 rh0 (by omega) (by decide)) rh0 (by decide) rfl wk_X12_holdsAny tw_1681 rfl ⟨Nat.le_of_ble_eq_true rfl, Nat.le_of_ble_eq_true rfl⟩ ⟨rfl, rfl⟩ hl.1 rfl (Nat.le_of_ble_eq_true rfl) dX12_goWrit_210 ⟨Nat.le_of_ble_eq_true rfl, Nat.le_of_ble_eq_true rfl⟩ (fun v219 f220 H locs q221 hW => ?_)
              obtain ⟨⟨x223, rfl, p224⟩, g222⟩ := q221
              have p224 : (0 : Int) ≤ x223.toInt ∧ x223.toInt ≤ 1 := p224
              have m225 : aI (f220 pR) (u1 : Int32).toNatClampNeg = y4 := ((congrArg (fun z => aI z (u1 : Int32).toNatClampNeg) (fm_A g222 rR (by decide) rfl)).trans (show aI (f212 pR) (u1 : Int32).toNatClampNeg = y4 from by rw [e213, up_n (tn_ne (by omega) (by omega) (by omega))]; exact (show aI (f199 pR) (u1 : Int32).toNatClampNeg = y4 from by rw [e200, up_n (tn_ne (by omega) (by omega) (by omega))]; exact (show aI (f185 pR) (u1 : Int32).toNatClampNeg = y4 from by rw [e186, up_n (tn_ne (by omega) (by omega) (by omega))]; exact m158))))
              have m226 : aI (f220 pR) (x19 : Int32).toNatClampNeg = y21 := ((congrArg (fun z => aI z (x19 : Int32).toNatClampNeg) (fm_A g222 rR (by decide) rfl)).trans (show aI (f212 pR) (x19 : Int32).toNatClampNeg = y21 from by rw [e213, up_n (tn_ne (by omega) (by omega) (by omega))]; exact (show aI (f199 pR) (x19 : Int32).toNatClampNeg = y21 from by rw [e200, up_n (tn_ne (by omega) (by omega) (by omega))]; exact (show aI (f185 pR) (x19 : Int32).toNatClampNeg = y21 from by rw [e186, up_n (tn_ne (by omega) (by omega) (by omega))]; exact m159))))
              have m227 : aI (f220 pR) (x50 : Int32).toNatClampNeg = y52 := ((congrArg (fun z => aI z (x50 : Int32).toNatClampNeg) (fm_A g222 rR (by decide) rfl)).trans (show aI (f212 pR) (x50 : Int32).toNatClampNeg = y52 from by rw [e213, up_n (tn_ne (by omega) (by omega) (by omega))]; exact (show aI (f199 pR) (x50 : Int32).toNatClampNeg = y52 from by rw [e200, up_n (tn_ne (by omega) (by omega) (by omega))]; exact (show aI (f185 pR) (x50 : Int32).toNatClampNeg = y52 from by rw [e186, up_n (tn_ne (by omega) (by omega) (by omega))]; exact m161))))
              have m228 : aI (f220 pR) (x59 : Int32).toNatClampNeg = y61 := ((congrArg (fun z => aI z (x59 : Int32).toNatClampNeg) (fm_A g222 rR (by decide) rfl)).trans (show aI (f212 pR) (x59 : Int32).toNatClampNeg = y61 from by rw [e213, up_n (tn_ne (by omega) (by omega) (by omega))]; exact (show aI (f199 pR) (x59 : Int32).toNatClampNeg = y61 from by rw [e200, up_n (tn_ne (by omega) (by omega) (by omega))]; exact (show aI (f185 pR) (x59 : Int32).toNatClampNeg = y61 from by rw [e186, up_n (tn_ne (by omega) (by omega) (by omega))]; exact m162))))
              have m229 : aI (f220 pR) (8 : Int32).toNatClampNeg = y67 := ((congrArg (fun z => aI z (8 : Int32).toNatClampNeg) (fm_A g222 rR (by decide) rfl)).trans (show aI (f212 pR) (8 : Int32).toNatClampNeg = y67 from by rw [e213, up_n (tn_ne (by omega) (by decide) (by have hk0 : (8 : Int32).toInt = 8 := rfl; omega))]; exact (show aI (f199 pR) (8 : Int32).toNatClampNeg = y67 from by rw [e200, up_n (tn_ne (by omega) (by decide) (by have hk0 : (8 : Int32).toInt = 8 := rfl; omega))]; exact (show aI (f185 pR) (8 : Int32).toNatClampNeg = y67 from by rw [e186, up_n (tn_ne (by omega) (by decide) (by have hk0 : (8 : Int32).toInt = 8 := rfl; omega))]; exact m163))))
              have m230 : aI (f220 pR) (x90 : Int32).toNatClampNeg = x95 := ((congrArg (fun z => aI z (x90 : Int32).toNatClampNeg) (fm_A g222 rR (by decide) rfl)).trans (show aI (f212 pR) (x90 : Int32).toNatClampNeg = x95 from by rw [e213, up_n (tn_ne (by omega) (by omega) (by omega))]; exact (show aI (f199 pR) (x90 : Int32).toNatClampNeg = x95 from by rw [e200, up_n (tn_ne (by omega) (by omega) (by omega))]; exact (show aI (f185 pR) (x90 : Int32).toNatClampNeg = x95 from by rw [e186, up_n (tn_ne (by omega) (by omega) (by omega))]; exact m164))))
              have m231 : aI (f220 pR) (x105 : Int32).toNatClampNeg = x95 := ((congrArg (fun z => aI z (x105 : Int32).toNatClampNeg) (fm_A g222 rR (by decide) rfl)).trans (show aI (f212 pR) (x105 : Int32).toNatClampNeg = x95 from by rw [e213, up_n (tn_ne (by omega) (by omega) (by omega))]; exact (show aI (f199 pR) (x105 : Int32).toNatClampNeg = x95 from by rw [e200, up_n (tn_ne (by omega) (by omega) (by omega))]; exact (show aI (f185 pR) (x105 : Int32).toNatClampNeg = x95 from by rw [e186, up_n (tn_ne (by omega) (by omega) (by omega))]; exact m165))))
              have m232 : aI (f220 pR) (x115 : Int32).toNatClampNeg = x120 := ((congrArg (fun z => aI z (x115 : Int32).toNatClampNeg) (fm_A g222 rR (by decide) rfl)).trans (show aI (f212 pR) (x115 : Int32).toNatClampNeg = x120 from by rw [e213, up_n (tn_ne (by omega) (by omega) (by omega))]; exact (show aI (f199 pR) (x115 : Int32).toNatClampNeg = x120 from by rw [e200, up_n (tn_ne (by omega) (by omega) (by omega))]; exact (show aI (f185 pR) (x115 : Int32).toNatClampNeg = x120 from by rw [e186, up_n (tn_ne (by omega) (by omega) (by omega))]; exact m166))))
              have m233 : aI (f220 pR) (x130 : Int32).toNatClampNeg = x120 := ((congrArg (fun z => aI z (x130 : Int32).toNatClampNeg) (fm_A g222 rR (by decide) rfl)).trans (show aI (f212 pR) (x130 : Int32).toNatClampNeg = x120 from by rw [e213, up_n (tn_ne (by omega) (by omega) (by omega))]; exact (show aI (f199 pR) (x130 : Int32).toNatClampNeg = x120 from by rw [e200, up_n (tn_ne (by omega) (by omega) (by omega))]; exact (show aI (f185 pR) (x130 : Int32).toNatClampNeg = x120 from by rw [e186, up_n (tn_ne (by omega) (by omega) (by omega))]; exact m167))))
              have m234 : aI (f220 pR) (x140 : Int32).toNatClampNeg = 1 := ((congrArg (fun z => aI z (x140 : Int32).toNatClampNeg) (fm_A g222 rR (by decide) rfl)).trans (show aI (f212 pR) (x140 : Int32).toNatClampNeg = 1 from by rw [e213, up_n (tn_ne (by omega) (by omega) (by omega))]; exact (show aI (f199 pR) (x140 : Int32).toNatClampNeg = 1 from by rw [e200, up_n (tn_ne (by omega) (by omega) (by omega))]; exact (show aI (f185 pR) (x140 : Int32).toNatClampNeg = 1 from by rw [e186, up_n (tn_ne (by omega) (by omega) (by omega))]; exact ((congrArg (fun z => aI z (x140 : Int32).toNatClampNeg) (fm_A g157 rR (by decide) rfl)).trans (show aI (f143 pR) (x140 : Int32).toNatClampNeg = 1 from by rw [e144]; exact up_s))))))
              have m235 : aI (f220 pR) (x182 : Int32).toNatClampNeg = (-1) := ((congrArg (fun z => aI z (x182 : Int32).toNatClampNeg) (fm_A g222 rR (by decide) rfl)).trans (show aI (f212 pR) (x182 : Int32).toNatClampNeg = (-1) from by rw [e213, up_n (tn_ne (by omega) (by omega) (by omega))]; exact (show aI (f199 pR) (x182 : Int32).toNatClampNeg = (-1) from by rw [e200, up_n (tn_ne (by omega) (by omega) (by omega))]; exact (show aI (f185 pR) (x182 : Int32).toNatClampNeg = (-1) from by rw [e186]; exact up_s))))
              have m236 : aI (f220 pR) (x196 : Int32).toNatClampNeg = 0 := ((congrArg (fun z => aI z (x196 : Int32).toNatClampNeg) (fm_A g222 rR (by decide) rfl)).trans (show aI (f212 pR) (x196 : Int32).toNatClampNeg = 0 from by rw [e213, up_n (tn_ne (by omega) (by omega) (by omega))]; exact (show aI (f199 pR) (x196 : Int32).toNatClampNeg = 0 from by rw [e200]; exact up_s)))
              have z237 : RP (aI (f220 pR)) 0 = RP (aI (f0 pR)) 0 := rp_fm z216 g222 rR rfl
              have z238 : RF rw_X12_goWrit_u f0 f220 h0 := rf_fm hTH z218 g222 rh0 rfl
              have hF := FM.tr hF g222 rfl
              have J308 : ∀ (f302 : Nat → va_E) (m303 : oR (f302 h0) 2 = pR) (m304 : oI (f302 h0) 38 = x153) (m305 : aI (f302 pR) (8 : Int32).toNatClampNeg = y67) (z306 : RF rw_X12_goWrit_u f0 f302 h0) (z307 : RP (aI (f302 pR)) 0 = RP (aI (f0 pR)) 0) (H : Heap) (locs : List Loc) (ls : Array Slot), WS G cI cJ cZ cD cR cT A kp L f302 s H locs → FM kp L ms_X12_goWrit_u f0 f302 → lv_has ls 4 [(3, .int y43), (2, .int x12), (0, .ref h0), (1, .int u1)] → W p l e ({ frames := 4, cells := 0, slots := 0, locals := 106 }) s m ([.ref h0, .int u1] : List Value).toArray below meth c H locs 0 0 (MQ below (QT (po_X12_goWrit_u kp L f0 h0 u1) G cI cJ cZ cD cR cT A kp L) ([.ref h0, .int u1] : List Value).toArray s 0 0 A) (F0 m 261 ls []) := by
                intro f302 m303 m304 m305 z306 z307 H locs ls hW hF hl
                clear c24 p83 c86 c111 c136 p224
                exact e_V E hW rfl ⟨rfl, hF, (by rw [mR]; exact z307), z306⟩ dX12_goWrit_261
              refine q_if_ne (tgt := 261) hx hb dX12_goWrit_213 (by decide) rfl (fun c309 => ?_) (fun c309 => ?_)
              · exact J308 f220 ((fm_R g222 rh0 rfl).trans ((fm_R g215 rh0 rfl).trans m207)) ((fm_I g222 rh0 rfl).trans ((fm_I g215 rh0 rfl).trans ((fm_I g202 rh0 rfl).trans ((fm_I g188 rh0 rfl).trans e155)))) m229 z238 z237 _ _ _ hW hF (lv_sub hl [0, 1, 2, 3] rfl)
              · refine lv_aload_n hx hb dX12_goWrit_216 rfl (lv_at hl 2 rfl) ?_
                refine fg_RX12_8 E hW rh0 dX12_goWrit_217 (fun a310 m311 r312 => ?_)
                obtain rfl : pR = a310 := (((fm_R g222 rh0 rfl).trans ((fm_R g215 rh0 rfl).trans m207))).symm.trans m311
                refine lv_iload_n hx hb dX12_goWrit_220 rfl (lv_at hl 0 rfl) ?_
                have hW0 := hW.2.2.2
                refine t_callS (As := [.int y43]) (rest := [.ref pR]) E hW (c_X12_personAt l G cI cJ cZ cD cR cT kp L f220 hW.2.2.2 _ y43 (by omega)) wk_X12_personAt tw_1572 rfl ⟨Nat.le_of_ble_eq_true rfl, Nat.le_of_ble_eq_true rfl⟩ ⟨rfl, rfl⟩ hl.1 rfl (Nat.le_of_ble_eq_true rfl) dX12_goWrit_221 ⟨Nat.le_of_ble_eq_true rfl, Nat.le_of_ble_eq_true rfl⟩ (fun v313 f314 H locs q315 hW => ?_)
                obtain ⟨⟨x317, rfl, p318⟩, g316⟩ := q315
                have m319 : aI (f314 pR) (x209 : Int32).toNatClampNeg = 1 := ((congrArg (fun z => aI z (x209 : Int32).toNatClampNeg) (fm_A g316 rR (by decide) rfl)).trans ((congrArg (fun z => aI z (x209 : Int32).toNatClampNeg) (fm_A g222 rR (by decide) rfl)).trans (show aI (f212 pR) (x209 : Int32).toNatClampNeg = 1 from by rw [e213]; exact up_s)))
                have z320 : RP (aI (f314 pR)) 0 = RP (aI (f0 pR)) 0 := rp_fm z237 g316 rR rfl
                have z321 : RF rw_X12_goWrit_u f0 f314 h0 := rf_fm hTH z238 g316 rh0 rfl
                have hF := FM.tr hF g316 rfl
                refine lv_iconst (v := 5) hx hb dX12_goWrit_224 (by decide) ?_
                refine q_iadd (Y := 5) hx hb dX12_goWrit_225 rfl rfl (by omega) (fun x322 h323 => ?_)
                refine gl_822 E hW rR ⟨by omega, by omega⟩ dX12_goWrit_226 (fun y324 m325 b326 => ?_)
                refine q_if_ne (tgt := 261) hx hb dX12_goWrit_227 (by decide) rfl (fun c327 => ?_) (fun c327 => ?_)
                · exact J308 f314 ((fm_R g316 rh0 rfl).trans m311) ((fm_I g316 rh0 rfl).trans ((fm_I g222 rh0 rfl).trans ((fm_I g215 rh0 rfl).trans ((fm_I g202 rh0 rfl).trans ((fm_I g188 rh0 rfl).trans e155))))) ((congrArg (fun z => aI z (8 : Int32).toNatClampNeg) (fm_A g316 rR (by decide) rfl)).trans m229) z321 z320 _ _ _ hW hF (lv_sub hl [0, 1, 2, 3] rfl)
                · refine lv_aload_n hx hb dX12_goWrit_230 rfl (lv_at hl 2 rfl) ?_
                  refine fg_RX12_8 E hW rh0 dX12_goWrit_231 (fun a328 m329 r330 => ?_)
                  obtain rfl : pR = a328 := (((fm_R g316 rh0 rfl).trans m311)).symm.trans m329
                  refine lv_iload_n hx hb dX12_goWrit_234 rfl (lv_at hl 0 rfl) ?_
                  have hW0 := hW.2.2.2
                  refine t_callS (As := [.int y43]) (rest := [.ref pR]) E hW (c_X12_personAt l G cI cJ cZ cD cR cT kp L f314 hW.2.2.2 _ y43 (by omega)) wk_X12_personAt tw_1572 rfl ⟨Nat.le_of_ble_eq_true rfl, Nat.le_of_ble_eq_true rfl⟩ ⟨rfl, rfl⟩ hl.1 rfl (Nat.le_of_ble_eq_true rfl) dX12_goWrit_235 ⟨Nat.le_of_ble_eq_true rfl, Nat.le_of_ble_eq_true rfl⟩ (fun v331 f332 H locs q333 hW => ?_)
                  obtain ⟨⟨x335, rfl, p336⟩, g334⟩ := q333
                  have m337 : aI (f332 pR) (u1 : Int32).toNatClampNeg = y4 := ((congrArg (fun z => aI z (u1 : Int32).toNatClampNeg) (fm_A g334 rR (by decide) rfl)).trans ((congrArg (fun z => aI z (u1 : Int32).toNatClampNeg) (fm_A g316 rR (by decide) rfl)).trans m225))
                  have m338 : aI (f332 pR) (x19 : Int32).toNatClampNeg = y21 := ((congrArg (fun z => aI z (x19 : Int32).toNatClampNeg) (fm_A g334 rR (by decide) rfl)).trans ((congrArg (fun z => aI z (x19 : Int32).toNatClampNeg) (fm_A g316 rR (by decide) rfl)).trans m226))
                  have m339 : aI (f332 pR) (x50 : Int32).toNatClampNeg = y52 := ((congrArg (fun z => aI z (x50 : Int32).toNatClampNeg) (fm_A g334 rR (by decide) rfl)).trans ((congrArg (fun z => aI z (x50 : Int32).toNatClampNeg) (fm_A g316 rR (by decide) rfl)).trans m227))
                  have m340 : aI (f332 pR) (x59 : Int32).toNatClampNeg = y61 := ((congrArg (fun z => aI z (x59 : Int32).toNatClampNeg) (fm_A g334 rR (by decide) rfl)).trans ((congrArg (fun z => aI z (x59 : Int32).toNatClampNeg) (fm_A g316 rR (by decide) rfl)).trans m228))
                  have m341 : aI (f332 pR) (8 : Int32).toNatClampNeg = y67 := ((congrArg (fun z => aI z (8 : Int32).toNatClampNeg) (fm_A g334 rR (by decide) rfl)).trans ((congrArg (fun z => aI z (8 : Int32).toNatClampNeg) (fm_A g316 rR (by decide) rfl)).trans m229))
                  have m342 : aI (f332 pR) (x90 : Int32).toNatClampNeg = x95 := ((congrArg (fun z => aI z (x90 : Int32).toNatClampNeg) (fm_A g334 rR (by decide) rfl)).trans ((congrArg (fun z => aI z (x90 : Int32).toNatClampNeg) (fm_A g316 rR (by decide) rfl)).trans m230))
                  have m343 : aI (f332 pR) (x105 : Int32).toNatClampNeg = x95 := ((congrArg (fun z => aI z (x105 : Int32).toNatClampNeg) (fm_A g334 rR (by decide) rfl)).trans ((congrArg (fun z => aI z (x105 : Int32).toNatClampNeg) (fm_A g316 rR (by decide) rfl)).trans m231))
                  have m344 : aI (f332 pR) (x115 : Int32).toNatClampNeg = x120 := ((congrArg (fun z => aI z (x115 : Int32).toNatClampNeg) (fm_A g334 rR (by decide) rfl)).trans ((congrArg (fun z => aI z (x115 : Int32).toNatClampNeg) (fm_A g316 rR (by decide) rfl)).trans m232))
                  have m345 : aI (f332 pR) (x130 : Int32).toNatClampNeg = x120 := ((congrArg (fun z => aI z (x130 : Int32).toNatClampNeg) (fm_A g334 rR (by decide) rfl)).trans ((congrArg (fun z => aI z (x130 : Int32).toNatClampNeg) (fm_A g316 rR (by decide) rfl)).trans m233))
                  have m346 : aI (f332 pR) (x140 : Int32).toNatClampNeg = 1 := ((congrArg (fun z => aI z (x140 : Int32).toNatClampNeg) (fm_A g334 rR (by decide) rfl)).trans ((congrArg (fun z => aI z (x140 : Int32).toNatClampNeg) (fm_A g316 rR (by decide) rfl)).trans m234))
                  have m347 : aI (f332 pR) (x182 : Int32).toNatClampNeg = (-1) := ((congrArg (fun z => aI z (x182 : Int32).toNatClampNeg) (fm_A g334 rR (by decide) rfl)).trans ((congrArg (fun z => aI z (x182 : Int32).toNatClampNeg) (fm_A g316 rR (by decide) rfl)).trans m235))
                  have m348 : aI (f332 pR) (x196 : Int32).toNatClampNeg = 0 := ((congrArg (fun z => aI z (x196 : Int32).toNatClampNeg) (fm_A g334 rR (by decide) rfl)).trans ((congrArg (fun z => aI z (x196 : Int32).toNatClampNeg) (fm_A g316 rR (by decide) rfl)).trans m236))
                  have z349 : RP (aI (f332 pR)) 0 = RP (aI (f0 pR)) 0 := rp_fm z320 g334 rR rfl
                  have z350 : RF rw_X12_goWrit_u f0 f332 h0 := rf_fm hTH z321 g334 rh0 rfl
                  have hF := FM.tr hF g334 rfl
                  refine lv_iconst (v := 5) hx hb dX12_goWrit_238 (by decide) ?_
                  refine q_iadd (Y := 5) hx hb dX12_goWrit_239 rfl rfl (by omega) (fun x351 h352 => ?_)
                  refine lv_iconst (v := 1) hx hb dX12_goWrit_240 (by decide) ?_
                  have hk353 : (1 : Int32).toInt = 1 := rfl
                  have m358 : aI (f332 pR) (x351 : Int32).toNatClampNeg = y324 := by rw [show (x351 : Int32) = x322 from Int32.toInt_inj.mp (by omega)]; exact ((congrArg (fun z => aI z (x322 : Int32).toNatClampNeg) (fm_A g334 rR (by decide) rfl)).trans m325)
                  have hW0 := hW.2.2.2
                  refine gs_822 E hW rR ⟨by omega, by omega⟩ (fun hc => rr_up hc (by omega) (by omega) (by unfold rbI; omega)) dX12_goWrit_241 (fun f354 H locs e355 n356 g357 hW => ?_)
                  have m359 : oI (f354 h0) 38 = x153 := ((fm_I g357 rh0 rfl).trans ((fm_I g334 rh0 rfl).trans ((fm_I g316 rh0 rfl).trans ((fm_I g222 rh0 rfl).trans ((fm_I g215 rh0 rfl).trans ((fm_I g202 rh0 rfl).trans ((fm_I g188 rh0 rfl).trans e155)))))))
                  have hk361 : (1 : Int32).toInt = 1 := rfl
                  have z360 : RP (aI (f354 pR)) 0 = RP (aI (f0 pR)) 0 := rp_dead z349 e355 (by omega) (by omega) m358 (by omega)
                  have z362 : RF rw_X12_goWrit_u f0 f354 h0 := rf_st (lo := 17) (hi := 337) z350 mR e355 (by omega) rfl
                  have hF := FM.tr hF g357 rfl
                  refine lv_aload_n hx hb dX12_goWrit_242 rfl (lv_at hl 2 rfl) ?_
                  refine fg_RX12_8 E hW rh0 dX12_goWrit_243 (fun a363 m364 r365 => ?_)
                  obtain rfl : pR = a363 := (((fm_R g357 rh0 rfl).trans ((fm_R g334 rh0 rfl).trans m329))).symm.trans m364
                  refine lv_iload_n hx hb dX12_goWrit_246 rfl (lv_at hl 0 rfl) ?_
                  have hW0 := hW.2.2.2
                  refine t_callS (As := [.int y43]) (rest := [.ref pR]) E hW (c_X12_personAt l G cI cJ cZ cD cR cT kp L f354 hW.2.2.2 _ y43 (by omega)) wk_X12_personAt tw_1572 rfl ⟨Nat.le_of_ble_eq_true rfl, Nat.le_of_ble_eq_true rfl⟩ ⟨rfl, rfl⟩ hl.1 rfl (Nat.le_of_ble_eq_true rfl) dX12_goWrit_247 ⟨Nat.le_of_ble_eq_true rfl, Nat.le_of_ble_eq_true rfl⟩ (fun v366 f367 H locs q368 hW => ?_)
                  obtain ⟨⟨x370, rfl, p371⟩, g369⟩ := q368
                  have m372 : aI (f367 pR) (u1 : Int32).toNatClampNeg = y4 := ((congrArg (fun z => aI z (u1 : Int32).toNatClampNeg) (fm_A g369 rR (by decide) rfl)).trans (show aI (f354 pR) (u1 : Int32).toNatClampNeg = y4 from by rw [e355, up_n (tn_ne (by omega) (by omega) (by omega))]; exact m337))
                  have m373 : aI (f367 pR) (x19 : Int32).toNatClampNeg = y21 := ((congrArg (fun z => aI z (x19 : Int32).toNatClampNeg) (fm_A g369 rR (by decide) rfl)).trans (show aI (f354 pR) (x19 : Int32).toNatClampNeg = y21 from by rw [e355, up_n (tn_ne (by omega) (by omega) (by omega))]; exact m338))
                  have m374 : aI (f367 pR) (x50 : Int32).toNatClampNeg = y52 := ((congrArg (fun z => aI z (x50 : Int32).toNatClampNeg) (fm_A g369 rR (by decide) rfl)).trans (show aI (f354 pR) (x50 : Int32).toNatClampNeg = y52 from by rw [e355, up_n (tn_ne (by omega) (by omega) (by omega))]; exact m339))
                  have m375 : aI (f367 pR) (x59 : Int32).toNatClampNeg = y61 := ((congrArg (fun z => aI z (x59 : Int32).toNatClampNeg) (fm_A g369 rR (by decide) rfl)).trans (show aI (f354 pR) (x59 : Int32).toNatClampNeg = y61 from by rw [e355, up_n (tn_ne (by omega) (by omega) (by omega))]; exact m340))
                  have m376 : aI (f367 pR) (8 : Int32).toNatClampNeg = y67 := ((congrArg (fun z => aI z (8 : Int32).toNatClampNeg) (fm_A g369 rR (by decide) rfl)).trans (show aI (f354 pR) (8 : Int32).toNatClampNeg = y67 from by rw [e355, up_n (tn_ne (by omega) (by decide) (by have hk0 : (8 : Int32).toInt = 8 := rfl; omega))]; exact m341))
                  have m377 : aI (f367 pR) (x90 : Int32).toNatClampNeg = x95 := ((congrArg (fun z => aI z (x90 : Int32).toNatClampNeg) (fm_A g369 rR (by decide) rfl)).trans (show aI (f354 pR) (x90 : Int32).toNatClampNeg = x95 from by rw [e355, up_n (tn_ne (by omega) (by omega) (by omega))]; exact m342))
                  have m378 : aI (f367 pR) (x105 : Int32).toNatClampNeg = x95 := ((congrArg (fun z => aI z (x105 : Int32).toNatClampNeg) (fm_A g369 rR (by decide) rfl)).trans (show aI (f354 pR) (x105 : Int32).toNatClampNeg = x95 from by rw [e355, up_n (tn_ne (by omega) (by omega) (by omega))]; exact m343))
                  have m379 : aI (f367 pR) (x115 : Int32).toNatClampNeg = x120 := ((congrArg (fun z => aI z (x115 : Int32).toNatClampNeg) (fm_A g369 rR (by decide) rfl)).trans (show aI (f354 pR) (x115 : Int32).toNatClampNeg = x120 from by rw [e355, up_n (tn_ne (by omega) (by omega) (by omega))]; exact m344))
                  have m380 : aI (f367 pR) (x130 : Int32).toNatClampNeg = x120 := ((congrArg (fun z => aI z (x130 : Int32).toNatClampNeg) (fm_A g369 rR (by decide) rfl)).trans (show aI (f354 pR) (x130 : Int32).toNatClampNeg = x120 from by rw [e355, up_n (tn_ne (by omega) (by omega) (by omega))]; exact m345))
                  have m381 : aI (f367 pR) (x140 : Int32).toNatClampNeg = 1 := ((congrArg (fun z => aI z (x140 : Int32).toNatClampNeg) (fm_A g369 rR (by decide) rfl)).trans (show aI (f354 pR) (x140 : Int32).toNatClampNeg = 1 from by rw [e355, up_n (tn_ne (by omega) (by omega) (by omega))]; exact m346))
                  have m382 : aI (f367 pR) (x182 : Int32).toNatClampNeg = (-1) := ((congrArg (fun z => aI z (x182 : Int32).toNatClampNeg) (fm_A g369 rR (by decide) rfl)).trans (show aI (f354 pR) (x182 : Int32).toNatClampNeg = (-1) from by rw [e355, up_n (tn_ne (by omega) (by omega) (by omega))]; exact m347))
                  have m383 : aI (f367 pR) (x196 : Int32).toNatClampNeg = 0 := ((congrArg (fun z => aI z (x196 : Int32).toNatClampNeg) (fm_A g369 rR (by decide) rfl)).trans (show aI (f354 pR) (x196 : Int32).toNatClampNeg = 0 from by rw [e355, up_n (tn_ne (by omega) (by omega) (by omega))]; exact m348))
                  have m384 : aI (f367 pR) (x209 : Int32).toNatClampNeg = 1 := ((congrArg (fun z => aI z (x209 : Int32).toNatClampNeg) (fm_A g369 rR (by decide) rfl)).trans (show aI (f354 pR) (x209 : Int32).toNatClampNeg = 1 from by rw [e355, up_n (tn_ne (by omega) (by omega) (by omega))]; exact ((congrArg (fun z => aI z (x209 : Int32).toNatClampNeg) (fm_A g334 rR (by decide) rfl)).trans m319)))
                  have z385 : RP (aI (f367 pR)) 0 = RP (aI (f0 pR)) 0 := rp_fm z360 g369 rR rfl
                  have z386 : RF rw_X12_goWrit_u f0 f367 h0 := rf_fm hTH z362 g369 rh0 rfl
                  have hF := FM.tr hF g369 rfl
                  refine lv_bipush (v := 7) hx hb dX12_goWrit_250 (by decide) ?_
                  refine q_iadd (Y := 7) hx hb dX12_goWrit_252 rfl rfl (by omega) (fun x387 h388 => ?_)
                  refine lv_aload_n hx hb dX12_goWrit_253 rfl (lv_at hl 2 rfl) ?_
                  refine fg_RX12_8 E hW rh0 dX12_goWrit_254 (fun a389 m390 r391 => ?_)
                  obtain rfl : pR = a389 := (((fm_R g369 rh0 rfl).trans m364)).symm.trans m390
                  refine lv_bipush (v := 8) hx hb dX12_goWrit_257 (by decide) ?_
                  refine gl_822 E hW rR (by decide) dX12_goWrit_259 (fun y392 m393 b394 => ?_)
                  obtain rfl : y67 = y392 := (m376).symm.trans m393
                  have hW0 := hW.2.2.2
                  refine gs_822 E hW rR ⟨by omega, by omega⟩ (fun hc => rr_up hc (by omega) (by omega) (by unfold rbI; omega)) dX12_goWrit_260 (fun f395 H locs e396 n397 g398 hW => ?_)
                  have z399 : RP (aI (f395 pR)) 0 = RP (aI (f0 pR)) 0 := rp_st z385 e396 (by omega) (by omega)
                  have z400 : RF rw_X12_goWrit_u f0 f395 h0 := rf_st (lo := 19) (hi := 339) z386 mR e396 (by omega) rfl
                  have hF := FM.tr hF g398 rfl
                  exact J308 f395 ((fm_R g398 rh0 rfl).trans m390) ((fm_I g398 rh0 rfl).trans ((fm_I g369 rh0 rfl).trans m359)) (show aI (f395 pR) (8 : Int32).toNatClampNeg = y67 from by rw [e396, up_n (tn_ne (by omega) (by decide) (by have hk0 : (8 : Int32).toInt = 8 := rfl; omega))]; exact m393) z400 z399 _ _ _ hW hF (lv_sub hl [0, 1, 2, 3] rfl)
            · refine lv_aload_n hx hb dX12_goWrit_130 rfl (lv_at hl 1 rfl) ?_
              refine fg_RX12_8 E hW rh0 dX12_goWrit_131 (fun a401 m402 r403 => ?_)
              obtain rfl : pR = a401 := (m128).symm.trans m402
              refine lv_iload_n hx hb dX12_goWrit_134 rfl (lv_at hl 2 rfl) ?_
              refine lv_iconst (v := 3) hx hb dX12_goWrit_135 (by decide) ?_
              refine q_iadd (Y := 3) hx hb dX12_goWrit_136 rfl rfl (by omega) (fun x404 h405 => ?_)
              refine lv_aload_n hx hb dX12_goWrit_137 rfl (lv_at hl 1 rfl) ?_
              refine lv_aload_n hx hb dX12_goWrit_138 rfl (lv_at hl 1 rfl) ?_
              refine fg_RX12_8 E hW rh0 dX12_goWrit_139 (fun a406 m407 r408 => ?_)
              obtain rfl : pR = a406 := (m402).symm.trans m407
              refine lv_iload_n hx hb dX12_goWrit_142 rfl (lv_at hl 2 rfl) ?_
              refine lv_iconst (v := 2) hx hb dX12_goWrit_143 (by decide) ?_
              refine q_iadd (Y := 2) hx hb dX12_goWrit_144 rfl rfl (by omega) (fun x409 h410 => ?_)
              refine gl_822 E hW rR ⟨by omega, by omega⟩ dX12_goWrit_145 (fun y411 m412 b413 => ?_)
              have m414 : aI (f121 pR) (x409 : Int32).toNatClampNeg = x120 := by rw [show (x409 : Int32) = x115 from Int32.toInt_inj.mp (by omega)]; exact (show aI (f121 pR) (x115 : Int32).toNatClampNeg = x120 from by rw [e122]; exact up_s)
              obtain rfl : x120 = y411 := (m414).symm.trans m412
              have hW0 := hW.2.2.2
              refine t_callV (As := [.int x120]) (rest := [.int x404, .ref pR]) E hW (c_X12_stepWeeks l G cI cJ cZ cD cR cT kp L f121 hW.2.2.2 _ h0 x120 rh0 (by omega) (by rw [m407]; exact (tx_rf hTX z126 mR rfl rfl))) rh0 (by decide) rfl wk_X12_stepWeeks tw_1938 rfl ⟨Nat.le_of_ble_eq_true rfl, Nat.le_of_ble_eq_true rfl⟩ ⟨rfl, rfl⟩ hl.1 rfl (Nat.le_of_ble_eq_true rfl) dX12_goWrit_146 ⟨Nat.le_of_ble_eq_true rfl, Nat.le_of_ble_eq_true rfl⟩ (fun v415 f416 H locs q417 hW => ?_)
              obtain ⟨⟨x419, rfl, p420⟩, g418⟩ := q417
              clear p420
              have m421 : aI (f416 pR) (u1 : Int32).toNatClampNeg = y4 := ((congrArg (fun z => aI z (u1 : Int32).toNatClampNeg) (fm_A g418 rR (by decide) rfl)).trans (show aI (f121 pR) (u1 : Int32).toNatClampNeg = y4 from by rw [e122, up_n (tn_ne (by omega) (by omega) (by omega))]; exact (show aI (f96 pR) (u1 : Int32).toNatClampNeg = y4 from by rw [e97, up_n (tn_ne (by omega) (by omega) (by omega))]; exact ((congrArg (fun z => aI z (u1 : Int32).toNatClampNeg) (fm_A g81 rR (by decide) rfl)).trans m76))))
              have m422 : aI (f416 pR) (x19 : Int32).toNatClampNeg = y21 := ((congrArg (fun z => aI z (x19 : Int32).toNatClampNeg) (fm_A g418 rR (by decide) rfl)).trans (show aI (f121 pR) (x19 : Int32).toNatClampNeg = y21 from by rw [e122, up_n (tn_ne (by omega) (by omega) (by omega))]; exact (show aI (f96 pR) (x19 : Int32).toNatClampNeg = y21 from by rw [e97, up_n (tn_ne (by omega) (by omega) (by omega))]; exact ((congrArg (fun z => aI z (x19 : Int32).toNatClampNeg) (fm_A g81 rR (by decide) rfl)).trans m22))))
              have m423 : aI (f416 pR) (x41 : Int32).toNatClampNeg = y43 := ((congrArg (fun z => aI z (x41 : Int32).toNatClampNeg) (fm_A g418 rR (by decide) rfl)).trans (show aI (f121 pR) (x41 : Int32).toNatClampNeg = y43 from by rw [e122, up_n (tn_ne (by omega) (by omega) (by omega))]; exact (show aI (f96 pR) (x41 : Int32).toNatClampNeg = y43 from by rw [e97, up_n (tn_ne (by omega) (by omega) (by omega))]; exact ((congrArg (fun z => aI z (x41 : Int32).toNatClampNeg) (fm_A g81 rR (by decide) rfl)).trans m44))))
              have m424 : aI (f416 pR) (x50 : Int32).toNatClampNeg = y52 := ((congrArg (fun z => aI z (x50 : Int32).toNatClampNeg) (fm_A g418 rR (by decide) rfl)).trans (show aI (f121 pR) (x50 : Int32).toNatClampNeg = y52 from by rw [e122, up_n (tn_ne (by omega) (by omega) (by omega))]; exact (show aI (f96 pR) (x50 : Int32).toNatClampNeg = y52 from by rw [e97, up_n (tn_ne (by omega) (by omega) (by omega))]; exact ((congrArg (fun z => aI z (x50 : Int32).toNatClampNeg) (fm_A g81 rR (by decide) rfl)).trans m53))))
              have m425 : aI (f416 pR) (x59 : Int32).toNatClampNeg = y61 := ((congrArg (fun z => aI z (x59 : Int32).toNatClampNeg) (fm_A g418 rR (by decide) rfl)).trans (show aI (f121 pR) (x59 : Int32).toNatClampNeg = y61 from by rw [e122, up_n (tn_ne (by omega) (by omega) (by omega))]; exact (show aI (f96 pR) (x59 : Int32).toNatClampNeg = y61 from by rw [e97, up_n (tn_ne (by omega) (by omega) (by omega))]; exact ((congrArg (fun z => aI z (x59 : Int32).toNatClampNeg) (fm_A g81 rR (by decide) rfl)).trans m62))))
              have m426 : aI (f416 pR) (8 : Int32).toNatClampNeg = y67 := ((congrArg (fun z => aI z (8 : Int32).toNatClampNeg) (fm_A g418 rR (by decide) rfl)).trans (show aI (f121 pR) (8 : Int32).toNatClampNeg = y67 from by rw [e122, up_n (tn_ne (by omega) (by decide) (by have hk0 : (8 : Int32).toInt = 8 := rfl; omega))]; exact (show aI (f96 pR) (8 : Int32).toNatClampNeg = y67 from by rw [e97, up_n (tn_ne (by omega) (by decide) (by have hk0 : (8 : Int32).toInt = 8 := rfl; omega))]; exact ((congrArg (fun z => aI z (8 : Int32).toNatClampNeg) (fm_A g81 rR (by decide) rfl)).trans m68))))
              have m427 : aI (f416 pR) (x90 : Int32).toNatClampNeg = x95 := ((congrArg (fun z => aI z (x90 : Int32).toNatClampNeg) (fm_A g418 rR (by decide) rfl)).trans (show aI (f121 pR) (x90 : Int32).toNatClampNeg = x95 from by rw [e122, up_n (tn_ne (by omega) (by omega) (by omega))]; exact (show aI (f96 pR) (x90 : Int32).toNatClampNeg = x95 from by rw [e97]; exact up_s)))
              have m428 : aI (f416 pR) (x105 : Int32).toNatClampNeg = x95 := ((congrArg (fun z => aI z (x105 : Int32).toNatClampNeg) (fm_A g418 rR (by decide) rfl)).trans (show aI (f121 pR) (x105 : Int32).toNatClampNeg = x95 from by rw [e122, up_n (tn_ne (by omega) (by omega) (by omega))]; exact m108))
              have m429 : aI (f416 pR) (x115 : Int32).toNatClampNeg = x120 := ((congrArg (fun z => aI z (x115 : Int32).toNatClampNeg) (fm_A g418 rR (by decide) rfl)).trans (show aI (f121 pR) (x115 : Int32).toNatClampNeg = x120 from by rw [e122]; exact up_s))
              have z430 : RP (aI (f416 pR)) 0 = RP (aI (f0 pR)) 0 := rp_fm z125 g418 rR rfl
              have z431 : RF rw_X12_goWrit_u f0 f416 h0 := rf_fm hTH z126 g418 rh0 rfl
              have hF := FM.tr hF g418 rfl
              have m436 : aI (f416 pR) (x404 : Int32).toNatClampNeg = x95 := by rw [show (x404 : Int32) = x90 from Int32.toInt_inj.mp (by omega)]; exact m427
              have hW0 := hW.2.2.2
              refine gs_822 E hW rR ⟨by omega, by omega⟩ (fun hc => rr_up hc (by omega) (by omega) (by unfold rbI; omega)) dX12_goWrit_149 (fun f432 H locs e433 n434 g435 hW => ?_)
              have z437 : RP (aI (f432 pR)) 0 = RP (aI (f0 pR)) 0 := rp_st z430 e433 (by omega) ⟨by omega, fun _ _ => by omega⟩
              have z438 : RF rw_X12_goWrit_u f0 f432 h0 := rf_st (lo := 687) (hi := 1041) z431 mR e433 (by omega) rfl
              have hF := FM.tr hF g435 rfl
              exact e_V E hW rfl ⟨rfl, hF, (by rw [mR]; exact z437), z438⟩ dX12_goWrit_150
          · exact e_V E hW rfl ⟨rfl, hF, (by rw [mR]; exact z100), z101⟩ dX12_goWrit_105
        · exact e_V E hW rfl ⟨rfl, hF, (by rw [mR]; exact z84), z85⟩ dX12_goWrit_81
    · refine lv_aload_n hx hb dX12_goWrit_40 rfl (lv_at hl 1 rfl) ?_
      refine fg_RX12_8 E hW rh0 dX12_goWrit_41 (fun a439 m440 r441 => ?_)
      obtain rfl : pR = a439 := (m48).symm.trans m440
      refine lv_iload_n hx hb dX12_goWrit_44 rfl (lv_at hl 2 rfl) ?_
      refine lv_iconst (v := 5) hx hb dX12_goWrit_45 (by decide) ?_
      refine q_iadd (Y := 5) hx hb dX12_goWrit_46 rfl rfl (by omega) (fun x442 h443 => ?_)
      refine lv_iconst (v := 1) hx hb dX12_goWrit_47 (by decide) ?_
      have hk444 : (1 : Int32).toInt = 1 := rfl
      have hW0 := hW.2.2.2
      refine gs_822 E hW rR ⟨by omega, by omega⟩ (fun hc => rr_up hc (by omega) (by omega) (by unfold rbI; omega)) dX12_goWrit_48 (fun f445 H locs e446 n447 g448 hW => ?_)
      have hk450 : (1 : Int32).toInt = 1 := rfl
      have z449 : RP (aI (f445 pR)) 0 = RP (aI (f0 pR)) 0 := rp_st z14 e446 (by omega) ⟨by omega, fun _ _ => by omega⟩
      have z451 : RF rw_X12_goWrit_u f0 f445 h0 := rf_st (lo := 689) (hi := 1043) z15 mR e446 (by omega) rfl
      have hF := FM.tr hF g448 rfl
      exact e_V E hW rfl ⟨rfl, hF, (by rw [mR]; exact z449), z451⟩ dX12_goWrit_49
def rw_X12_goWeek_u : List (Nat × Nat) := [(4, 4), (8, 9), (13, 1043)]
def ms_X12_goWeek_u : List (Nat × Nat) := [(12, 33), (12, 34), (12, 35), (12, 36), (12, 37), (12, 38), (822, 0), (849, 0), (850, 0), (851, 0), (852, 0), (859, 0)]
def po_X12_goWeek_u (kp : Nat → Nat) (L : List Nat) (f0 : Nat → va_E) (h0 : Nat) : Option Value → (Nat → va_E) → Prop := fun v f => v = none ∧ FM kp L ms_X12_goWeek_u f0 f ∧ ((aI (f (oR (f0 h0) 2)) (8 : Int32).toNatClampNeg).toInt = (aI (f0 (oR (f0 h0) 2)) (8 : Int32).toNatClampNeg).toInt + 1) ∧ (RP (aI (f (oR (f0 h0) 2))) 0 = RP (aI (f0 (oR (f0 h0) 2))) 0) ∧ (RF rw_X12_goWeek_u f0 f h0)
set_option maxHeartbeats 4000000 in
set_option maxRecDepth 100000 in
theorem c_X12_goWeek_u (l : Launch) (G : va_G) (cI cJ cZ cD cR cT : ClassId) (kp : Nat → Nat) (L : List Nat) (f0 : Nat → va_E) (hTH : TH cI cJ cZ cD cR cT kp L f0) (sz : Nat) (h0 : Nat) (rh0 : RK kp L h0 12) (hr8 : (0 : Int) ≤ (aI (f0 (oR (f0 h0) 2)) (8 : Int32).toNatClampNeg).toInt ∧ (aI (f0 (oR (f0 h0) 2)) (8 : Int32).toNatClampNeg).toInt ≤ 398) (hTX : TX (aI (f0 (oR (f0 h0) 2)))) : Met l yX12_goWeek (Cond.code yX12_goWeek cX12_goWeek 3 none :: wTab) ({ frames := 7, cells := 0, slots := 0, locals := 191 }) (va_Pc [.ref h0] (PreW G (tys6 cI cJ cZ cD cR cT) (va_pl L f0) sz)) (QT (po_X12_goWeek_u kp L f0 h0) G cI cJ cZ cD cR cT (va_A (va_pl L f0) sz) kp L) 0 0 (va_A (va_pl L f0) sz) := by
  refine metT (by decide) (Nat.le_of_ble_eq_true rfl) hTH ?_
  intro p e s m below meth c A ls E hW hl
  obtain ⟨hx, hb, -, hml, hown, hts, -, -, -⟩ := id E
  have hF : FM kp L ms_X12_goWeek_u f0 f0 := FM.rf
  have hl : lv_has ls 3 [(0, .ref h0)] := hl
  obtain ⟨pR, mR⟩ : ∃ x : Nat, oR (f0 h0) 2 = x := ⟨_, rfl⟩
  have rR : RK kp L pR 822 := by rw [← mR]; exact th_ref hTH rh0 (by decide) (by decide) rfl
  rw [mR] at hr8
  obtain ⟨p8, mp8⟩ : ∃ x : Int32, aI (f0 pR) (8 : Int32).toNatClampNeg = x := ⟨_, rfl⟩
  rw [mp8] at hr8
  rw [mR] at hTX
  refine lv_aload_n hx hb dX12_goWeek_0 rfl (lv_at hl 0 rfl) ?_
  have hW0 := hW.2.2.2
  refine t_callV (As := []) (rest := []) E hW (c_X12_forceNow l G cI cJ cZ cD cR cT kp L f0 hW.2.2.2 _ h0 rh0 (by rw [mR]; exact hTX)) rh0 (by decide) rfl wk_X12_forceNow tw_1647 rfl ⟨Nat.le_of_ble_eq_true rfl, Nat.le_of_ble_eq_true rfl⟩ ⟨rfl, rfl⟩ hl.1 rfl (Nat.le_of_ble_eq_true rfl) dX12_goWeek_1 ⟨Nat.le_of_ble_eq_true rfl, Nat.le_of_ble_eq_true rfl⟩ (fun v1 f2 H locs q3 hW => ?_)
  obtain ⟨rfl, g4⟩ := q3
  have z5 : RP (aI (f2 pR)) 0 = RP (aI (f0 pR)) 0 := rp_fm (rfl : RP (aI (f0 pR)) 0 = RP (aI (f0 pR)) 0) g4 rR rfl
  have z6 : RF rw_X12_goWeek_u f0 f2 h0 := rf_fm hTH rf_rf g4 rh0 rfl
  have hF := FM.tr hF g4 rfl
  refine lv_aload_n hx hb dX12_goWeek_4 rfl (lv_at hl 0 rfl) ?_
  have hW0 := hW.2.2.2
  refine t_callV (As := []) (rest := []) E hW (c_X12_bringCrops_u l G cI cJ cZ cD cR cT kp L f2 hW.2.2.2 _ h0 rh0) rh0 (by decide) rfl wk_X12_bringCrops tw_1922 rfl ⟨Nat.le_of_ble_eq_true rfl, Nat.le_of_ble_eq_true rfl⟩ ⟨rfl, rfl⟩ hl.1 rfl (Nat.le_of_ble_eq_true rfl) dX12_goWeek_5 ⟨Nat.le_of_ble_eq_true rfl, Nat.le_of_ble_eq_true rfl⟩ (fun v7 f8 H locs q9 hW => ?_)
  obtain ⟨rfl, g10, h11, h12⟩ := q9
  have z14 : RF rw_X12_goWeek_u f0 f8 h0 := rf_call z6 h12 mR ((fm_R g4 rh0 rfl).trans mR) rfl
  have hF := FM.tr hF g10 rfl
  have z15 : RP (aI (f8 pR)) 0 = RP (aI (f0 pR)) 0 := rp_call z5 h11 ((fm_R g4 rh0 rfl).trans mR)
  refine lv_aload_n hx hb dX12_goWeek_8 rfl (lv_at hl 0 rfl) ?_
  refine fg_RX12_8 E hW rh0 dX12_goWeek_9 (fun a16 m17 r18 => ?_)
  obtain rfl : pR = a16 := (((fm_R g10 rh0 rfl).trans ((fm_R g4 rh0 rfl).trans mR))).symm.trans m17
  refine lv_bipush (v := 8) hx hb dX12_goWeek_12 (by decide) ?_
  refine gl_822 E hW rR (by decide) dX12_goWeek_14 (fun y19 m20 b21 => ?_)
  obtain rfl : p8 = y19 := (((show aI (f8 pR) (8 : Int32).toNatClampNeg = aI (f2 pR) (8 : Int32).toNatClampNeg from rf_get h12 ((fm_R g4 rh0 rfl).trans mR) 8 rfl).trans ((congrArg (fun z => aI z (8 : Int32).toNatClampNeg) (fm_A g4 rR (by decide) rfl)).trans mp8))).symm.trans m20
  refine lv_bipush (v := 13) hx hb dX12_goWeek_15 (by decide) ?_
  refine q_irem (Y := 13) hx hb dX12_goWeek_17 rfl rfl (by omega) (by omega) (fun x22 h23 => ?_)
  have J1486 : ∀ (f1481 : Nat → va_E) (m1482 : oR (f1481 h0) 2 = pR) (m1483 : aI (f1481 pR) (8 : Int32).toNatClampNeg = p8) (z1484 : RF rw_X12_goWeek_u f0 f1481 h0) (z1485 : RP (aI (f1481 pR)) 0 = RP (aI (f0 pR)) 0) (H : Heap) (locs : List Loc) (ls : Array Slot), WS G cI cJ cZ cD cR cT A kp L f1481 s H locs → FM kp L ms_X12_goWeek_u f0 f1481 → lv_has ls 3 [(0, .ref h0)] → W p l e ({ frames := 7, cells := 0, slots := 0, locals := 191 }) s m ([.ref h0] : List Value).toArray below meth c H locs 0 0 (MQ below (QT (po_X12_goWeek_u kp L f0 h0) G cI cJ cZ cD cR cT A kp L) ([.ref h0] : List Value).toArray s 0 0 A) (F0 m 84 ls []) := by
    intro f1481 m1482 m1483 z1484 z1485 H locs ls hW hF hl
    refine lv_iconst (v := 0) hx hb dX12_goWeek_84 (by decide) ?_
    refine lv_istore_n (lv' := [(1, .int 0), (0, .ref h0)]) hx hb dX12_goWeek_85 rfl hl (by decide) rfl (fun ls hl => ?_)
    have L3069 : ∀ (n : Nat), ∀ (f3062 : Nat → va_E) (y3065 : Int32) (m3063 : oR (f3062 h0) 2 = pR) (m3064 : aI (f3062 pR) (8 : Int32).toNatClampNeg = p8) (b3066 : (0 : Int) ≤ y3065.toInt ∧ y3065.toInt ≤ 60) (z3067 : RF rw_X12_goWeek_u f0 f3062 h0) (z3068 : RP (aI (f3062 pR)) 0 = RP (aI (f0 pR)) 0) (hm : (61 : Int) - y3065.toInt ≤ n) (H : Heap) (locs : List Loc) (ls : Array Slot), WS G cI cJ cZ cD cR cT A kp L f3062 s H locs → FM kp L ms_X12_goWeek_u f0 f3062 → lv_has ls 3 [(1, .int y3065), (0, .ref h0)] → W p l e ({ frames := 7, cells := 0, slots := 0, locals := 191 }) s m ([.ref h0] : List Value).toArray below meth c H locs 0 0 (MQ below (QT (po_X12_goWeek_u kp L f0 h0) G cI cJ cZ cD cR cT A kp L) ([.ref h0] : List Value).toArray s 0 0 A) (F0 m 86 ls []) := by
      intro n
      induction n with
      | zero =>
        intro f3062 y3065 m3063 m3064 b3066 z3067 z3068 hm H locs ls hW hF hl
        have hz := i32_b y3065
        exfalso; omega
      | succ n ih =>
        intro f3062 y3065 m3063 m3064 b3066 z3067 z3068 hm H locs ls hW hF hl
        have ih86 := ih
        refine lv_iload_n hx hb dX12_goWeek_86 rfl (lv_at hl 0 rfl) ?_
        refine lv_aload_n hx hb dX12_goWeek_87 rfl (lv_at hl 1 rfl) ?_
        refine fg_RX12_8 E hW rh0 dX12_goWeek_88 (fun a3070 m3071 r3072 => ?_)
        obtain rfl : pR = a3070 := (m3063).symm.trans m3071
        refine lv_iconst (v := 4) hx hb dX12_goWeek_91 (by decide) ?_
        refine gl_822 E hW rR (by decide) dX12_goWeek_92 (fun y3073 m3074 b3075 => ?_)
        have b3076 := rr_4 (show RowInv _ from b3075) m3074 (by decide)
        refine q_icmp_ge (tgt := 132) hx hb dX12_goWeek_93 (by decide) rfl rfl (fun c3125 => ?_) (fun c3125 => ?_)
        · refine lv_iconst (v := 0) hx hb dX12_goWeek_132 (by decide) ?_
          refine lv_istore_n (lv' := [(1, .int 0), (0, .ref h0)]) hx hb dX12_goWeek_133 rfl hl (by decide) rfl (fun ls hl => ?_)
          have L6231 : ∀ (n : Nat), ∀ (f6223 : Nat → va_E) (y6227 : Int32) (m6224 : oR (f6223 h0) 2 = pR) (m6225 : aI (f6223 pR) (8 : Int32).toNatClampNeg = p8) (m6226 : aI (f6223 pR) (4 : Int32).toNatClampNeg = y3073) (b6228 : (0 : Int) ≤ y6227.toInt ∧ y6227.toInt ≤ 40) (z6229 : RF rw_X12_goWeek_u f0 f6223 h0) (z6230 : RP (aI (f6223 pR)) 0 = RP (aI (f0 pR)) 0) (hm : (41 : Int) - y6227.toInt ≤ n) (H : Heap) (locs : List Loc) (ls : Array Slot), WS G cI cJ cZ cD cR cT A kp L f6223 s H locs → FM kp L ms_X12_goWeek_u f0 f6223 → lv_has ls 3 [(1, .int y6227), (0, .ref h0)] → W p l e ({ frames := 7, cells := 0, slots := 0, locals := 191 }) s m ([.ref h0] : List Value).toArray below meth c H locs 0 0 (MQ below (QT (po_X12_goWeek_u kp L f0 h0) G cI cJ cZ cD cR cT A kp L) ([.ref h0] : List Value).toArray s 0 0 A) (F0 m 134 ls []) := by
            intro n
            induction n with
            | zero =>
              intro f6223 y6227 m6224 m6225 m6226 b6228 z6229 z6230 hm H locs ls hW hF hl
              have hz := i32_b y6227
              exfalso; omega
            | succ n ih =>
              intro f6223 y6227 m6224 m6225 m6226 b6228 z6229 z6230 hm H locs ls hW hF hl
              have ih134 := ih
              refine lv_iload_n hx hb dX12_goWeek_134 rfl (lv_at hl 0 rfl) ?_
              refine lv_aload_n hx hb dX12_goWeek_135 rfl (lv_at hl 1 rfl) ?_
              refine fg_RX12_8 E hW rh0 dX12_goWeek_136 (fun a6232 m6233 r6234 => ?_)
              obtain rfl : pR = a6232 := (m6224).symm.trans m6233
              refine lv_iconst (v := 0) hx hb dX12_goWeek_139 (by decide) ?_
              refine gl_822 E hW rR (by decide) dX12_goWeek_140 (fun y6235 m6236 b6237 => ?_)
              have b6238 := rr_0 (show RowInv _ from b6237) m6236 (by decide)
              refine q_icmp_ge (tgt := 237) hx hb dX12_goWeek_141 (by decide) rfl rfl (fun c6386 => ?_) (fun c6386 => ?_)
              · refine lv_iconst (v := 0) hx hb dX12_goWeek_237 (by decide) ?_
                refine lv_istore_n (lv' := [(1, .int 0), (0, .ref h0)]) hx hb dX12_goWeek_238 rfl hl (by decide) rfl (fun ls hl => ?_)
                have L7061 : ∀ (n : Nat), ∀ (f7052 : Nat → va_E) (y7057 : Int32) (m7053 : oR (f7052 h0) 2 = pR) (m7054 : aI (f7052 pR) (8 : Int32).toNatClampNeg = p8) (m7055 : aI (f7052 pR) (4 : Int32).toNatClampNeg = y3073) (m7056 : aI (f7052 pR) (0 : Int32).toNatClampNeg = y6235) (b7058 : (0 : Int) ≤ y7057.toInt ∧ y7057.toInt ≤ 40) (z7059 : RF rw_X12_goWeek_u f0 f7052 h0) (z7060 : RP (aI (f7052 pR)) 0 = RP (aI (f0 pR)) 0) (hm : (41 : Int) - y7057.toInt ≤ n) (H : Heap) (locs : List Loc) (ls : Array Slot), WS G cI cJ cZ cD cR cT A kp L f7052 s H locs → FM kp L ms_X12_goWeek_u f0 f7052 → lv_has ls 3 [(1, .int y7057), (0, .ref h0)] → W p l e ({ frames := 7, cells := 0, slots := 0, locals := 191 }) s m ([.ref h0] : List Value).toArray below meth c H locs 0 0 (MQ below (QT (po_X12_goWeek_u kp L f0 h0) G cI cJ cZ cD cR cT A kp L) ([.ref h0] : List Value).toArray s 0 0 A) (F0 m 239 ls []) := by
                  intro n
                  induction n with
                  | zero =>
                    intro f7052 y7057 m7053 m7054 m7055 m7056 b7058 z7059 z7060 hm H locs ls hW hF hl
                    have hz := i32_b y7057
                    exfalso; omega
                  | succ n ih =>
                    intro f7052 y7057 m7053 m7054 m7055 m7056 b7058 z7059 z7060 hm H locs ls hW hF hl
                    have ih239 := ih
                    refine lv_iload_n hx hb dX12_goWeek_239 rfl (lv_at hl 0 rfl) ?_
                    refine lv_aload_n hx hb dX12_goWeek_240 rfl (lv_at hl 1 rfl) ?_
                    refine fg_RX12_8 E hW rh0 dX12_goWeek_241 (fun a7062 m7063 r7064 => ?_)
                    obtain rfl : pR = a7062 := (m7053).symm.trans m7063
                    refine lv_iconst (v := 0) hx hb dX12_goWeek_244 (by decide) ?_
                    refine gl_822 E hW rR (by decide) dX12_goWeek_245 (fun y7065 m7066 b7067 => ?_)
                    obtain rfl : y6235 = y7065 := (m7056).symm.trans m7066
                    refine q_icmp_ge (tgt := 268) hx hb dX12_goWeek_246 (by decide) rfl rfl (fun c7087 => ?_) (fun c7087 => ?_)
                    · refine lv_iconst (v := 0) hx hb dX12_goWeek_268 (by decide) ?_
                      refine lv_istore_n (lv' := [(1, .int 0), (0, .ref h0)]) hx hb dX12_goWeek_269 rfl hl (by decide) rfl (fun ls hl => ?_)
                      have L7990 : ∀ (n : Nat), ∀ (f7981 : Nat → va_E) (y7986 : Int32) (m7982 : oR (f7981 h0) 2 = pR) (m7983 : aI (f7981 pR) (8 : Int32).toNatClampNeg = p8) (m7984 : aI (f7981 pR) (4 : Int32).toNatClampNeg = y3073) (m7985 : aI (f7981 pR) (0 : Int32).toNatClampNeg = y6235) (b7987 : (0 : Int) ≤ y7986.toInt ∧ y7986.toInt ≤ 40) (z7988 : RF rw_X12_goWeek_u f0 f7981 h0) (z7989 : RP (aI (f7981 pR)) 0 = RP (aI (f0 pR)) 0) (hm : (41 : Int) - y7986.toInt ≤ n) (H : Heap) (locs : List Loc) (ls : Array Slot), WS G cI cJ cZ cD cR cT A kp L f7981 s H locs → FM kp L ms_X12_goWeek_u f0 f7981 → lv_has ls 3 [(1, .int y7986), (0, .ref h0)] → W p l e ({ frames := 7, cells := 0, slots := 0, locals := 191 }) s m ([.ref h0] : List Value).toArray below meth c H locs 0 0 (MQ below (QT (po_X12_goWeek_u kp L f0 h0) G cI cJ cZ cD cR cT A kp L) ([.ref h0] : List Value).toArray s 0 0 A) (F0 m 270 ls []) := by
                        intro n
                        induction n with
                        | zero =>
                          intro f7981 y7986 m7982 m7983 m7984 m7985 b7987 z7988 z7989 hm H locs ls hW hF hl
                          have hz := i32_b y7986
                          exfalso; omega
                        | succ n ih =>
                          intro f7981 y7986 m7982 m7983 m7984 m7985 b7987 z7988 z7989 hm H locs ls hW hF hl
                          have ih270 := ih
                          refine lv_iload_n hx hb dX12_goWeek_270 rfl (lv_at hl 0 rfl) ?_
                          refine lv_aload_n hx hb dX12_goWeek_271 rfl (lv_at hl 1 rfl) ?_
                          refine fg_RX12_8 E hW rh0 dX12_goWeek_272 (fun a7991 m7992 r7993 => ?_)
                          obtain rfl : pR = a7991 := (m7982).symm.trans m7992
                          refine lv_iconst (v := 0) hx hb dX12_goWeek_275 (by decide) ?_
                          refine gl_822 E hW rR (by decide) dX12_goWeek_276 (fun y7994 m7995 b7996 => ?_)
                          obtain rfl : y6235 = y7994 := (m7985).symm.trans m7995
                          refine q_icmp_ge (tgt := 312) hx hb dX12_goWeek_277 (by decide) rfl rfl (fun c8028 => ?_) (fun c8028 => ?_)
                          · refine lv_aload_n hx hb dX12_goWeek_312 rfl (lv_at hl 1 rfl) ?_
                            refine fg_RX12_8 E hW rh0 dX12_goWeek_313 (fun a8029 m8030 r8031 => ?_)
                            obtain rfl : pR = a8029 := (m7992).symm.trans m8030
                            refine lv_bipush (v := 8) hx hb dX12_goWeek_316 (by decide) ?_
                            refine lv_dup2_11 hx hb dX12_goWeek_318 rfl rfl ?_
                            refine gl_822 E hW rR (by decide) dX12_goWeek_319 (fun y8032 m8033 b8034 => ?_)
                            obtain rfl : p8 = y8032 := (m7983).symm.trans m8033
                            refine lv_iconst (v := 1) hx hb dX12_goWeek_320 (by decide) ?_
                            refine q_iadd (Y := 1) hx hb dX12_goWeek_321 rfl rfl (by omega) (fun x8035 h8036 => ?_)
                            have hk8037 : (8 : Int32).toInt = 8 := rfl
                            have hW0 := hW.2.2.2
                            refine gs_822 E hW rR (by decide) (fun hc => rr_up hc (by omega) (by omega) (by unfold rbI; omega)) dX12_goWeek_322 (fun f8038 H locs e8039 n8040 g8041 hW => ?_)
                            have hk8043 : (8 : Int32).toInt = 8 := rfl
                            have z8042 : RP (aI (f8038 pR)) 0 = RP (aI (f0 pR)) 0 := rp_st z7989 e8039 (by omega) (by omega)
                            have z8044 : RF rw_X12_goWeek_u f0 f8038 h0 := rf_st (lo := 8) (hi := 8) z7988 mR e8039 (by decide) rfl
                            have hF := FM.tr hF g8041 rfl
                            exact e_V E hW rfl ⟨rfl, hF, (by rw [mR, (show aI (f8038 pR) (8 : Int32).toNatClampNeg = x8035 from by rw [e8039]; exact up_s), mp8]; omega), (by rw [mR]; exact z8042), z8044⟩ dX12_goWeek_323
                          · refine lv_aload_n hx hb dX12_goWeek_280 rfl (lv_at hl 1 rfl) ?_
                            refine fg_RX12_8 E hW rh0 dX12_goWeek_281 (fun a8045 m8046 r8047 => ?_)
                            obtain rfl : pR = a8045 := (m7992).symm.trans m8046
                            refine lv_iload_n hx hb dX12_goWeek_284 rfl (lv_at hl 0 rfl) ?_
                            have hW0 := hW.2.2.2
                            refine t_callS (As := [.int y7986]) (rest := [.ref pR]) E hW (c_X12_personAt l G cI cJ cZ cD cR cT kp L f7981 hW.2.2.2 _ y7986 (by omega)) wk_X12_personAt tw_1572 rfl ⟨Nat.le_of_ble_eq_true rfl, Nat.le_of_ble_eq_true rfl⟩ ⟨rfl, rfl⟩ hl.1 rfl (Nat.le_of_ble_eq_true rfl) dX12_goWeek_285 ⟨Nat.le_of_ble_eq_true rfl, Nat.le_of_ble_eq_true rfl⟩ (fun v8048 f8049 H locs q8050 hW => ?_)
                            obtain ⟨⟨x8052, rfl, p8053⟩, g8051⟩ := q8050
                            have z8054 : RP (aI (f8049 pR)) 0 = RP (aI (f0 pR)) 0 := rp_fm z7989 g8051 rR rfl
                            have z8055 : RF rw_X12_goWeek_u f0 f8049 h0 := rf_fm hTH z7988 g8051 rh0 rfl
                            have hF := FM.tr hF g8051 rfl
                            refine lv_bipush (v := 6) hx hb dX12_goWeek_288 (by decide) ?_
                            refine q_iadd (Y := 6) hx hb dX12_goWeek_290 rfl rfl (by omega) (fun x8056 h8057 => ?_)
                            refine lv_aload_n hx hb dX12_goWeek_291 rfl (lv_at hl 1 rfl) ?_
                            refine fg_RX12_67 E hW rh0 dX12_goWeek_292 (fun a8058 m8059 r8060 => ?_)
                            refine lv_iload_n hx hb dX12_goWeek_295 rfl (lv_at hl 0 rfl) ?_
                            refine gl_859 E hW r8060 ⟨by omega, by omega⟩ dX12_goWeek_296 (fun y8061 m8062 b8063 => ?_)
                            have J8066 : ∀ (y8064 : Int32) (b8065 : (0 : Int) ≤ y8064.toInt ∧ y8064.toInt ≤ 1) (H : Heap) (locs : List Loc) (ls : Array Slot), WS G cI cJ cZ cD cR cT A kp L f8049 s H locs → FM kp L ms_X12_goWeek_u f0 f8049 → lv_has ls 3 [(1, .int y7986), (0, .ref h0)] → W p l e ({ frames := 7, cells := 0, slots := 0, locals := 191 }) s m ([.ref h0] : List Value).toArray below meth c H locs 0 0 (MQ below (QT (po_X12_goWeek_u kp L f0 h0) G cI cJ cZ cD cR cT A kp L) ([.ref h0] : List Value).toArray s 0 0 A) (F0 m 305 ls [.int y8064, .int x8056, .ref pR]) := by
                              intro y8064 b8065 H locs ls hW hF hl
                              have hW0 := hW.2.2.2
                              refine gs_822 E hW rR ⟨by omega, by omega⟩ (fun hc => rr_up hc (by omega) (by omega) (by unfold rbI; omega)) dX12_goWeek_305 (fun f8067 H locs e8068 n8069 g8070 hW => ?_)
                              have z8071 : RP (aI (f8067 pR)) 0 = RP (aI (f0 pR)) 0 := rp_st z8054 e8068 (by omega) (by omega)
                              have z8072 : RF rw_X12_goWeek_u f0 f8067 h0 := rf_st (lo := 26) (hi := 338) z8055 mR e8068 (by omega) rfl
                              have hF := FM.tr hF g8070 rfl
                              refine q_iinc hx hb dX12_goWeek_306 hl (k := 0) rfl rfl rfl (by omega) (by decide) (fun i8073 ls h8074 hl => ?_)
                              have hl : lv_has ls 3 [(1, .int i8073), (0, .ref h0)] := hl
                              refine lv_goto (tgt := 270) hx hb dX12_goWeek_309 (by decide) ?_
                              exact ih270 f8067 i8073 ((fm_R g8070 rh0 rfl).trans ((fm_R g8051 rh0 rfl).trans m8046)) (show aI (f8067 pR) (8 : Int32).toNatClampNeg = p8 from by rw [e8068, up_n (tn_ne (by omega) (by decide) (by have hk0 : (8 : Int32).toInt = 8 := rfl; omega))]; exact ((congrArg (fun z => aI z (8 : Int32).toNatClampNeg) (fm_A g8051 rR (by decide) rfl)).trans m7983)) (show aI (f8067 pR) (4 : Int32).toNatClampNeg = y3073 from by rw [e8068, up_n (tn_ne (by omega) (by decide) (by have hk0 : (4 : Int32).toInt = 4 := rfl; omega))]; exact ((congrArg (fun z => aI z (4 : Int32).toNatClampNeg) (fm_A g8051 rR (by decide) rfl)).trans m7984)) (show aI (f8067 pR) (0 : Int32).toNatClampNeg = y6235 from by rw [e8068, up_n (tn_ne (by omega) (by decide) (by have hk0 : (0 : Int32).toInt = 0 := rfl; omega))]; exact ((congrArg (fun z => aI z (0 : Int32).toNatClampNeg) (fm_A g8051 rR (by decide) rfl)).trans m7995)) (by omega) z8072 z8071 (by omega) _ _ _ hW hF (lv_sub hl [0, 1] rfl)
                            refine q_if_eq (tgt := 304) hx hb dX12_goWeek_297 (by decide) rfl (fun c8075 => ?_) (fun c8075 => ?_)
                            · refine lv_iconst (v := 0) hx hb dX12_goWeek_304 (by decide) ?_
                              exact J8066 0 (by decide) _ _ _ hW hF (lv_sub hl [0, 1] rfl)
                            · refine lv_iconst (v := 1) hx hb dX12_goWeek_300 (by decide) ?_
                              refine lv_goto (tgt := 305) hx hb dX12_goWeek_301 (by decide) ?_
                              exact J8066 1 (by decide) _ _ _ hW hF (lv_sub hl [0, 1] rfl)
                      have hk8076 : (0 : Int32).toInt = 0 := rfl
                      exact L7990 41 f7052 0 m7063 m7054 m7055 m7066 (by decide) z7059 z7060 (by omega) _ _ _ hW hF (lv_sub hl [0, 1] rfl)
                    · refine lv_aload_n hx hb dX12_goWeek_249 rfl (lv_at hl 1 rfl) ?_
                      refine fg_RX12_67 E hW rh0 dX12_goWeek_250 (fun a8077 m8078 r8079 => ?_)
                      refine lv_iload_n hx hb dX12_goWeek_253 rfl (lv_at hl 0 rfl) ?_
                      refine lv_aload_n hx hb dX12_goWeek_254 rfl (lv_at hl 1 rfl) ?_
                      refine lv_iconst (v := 5) hx hb dX12_goWeek_255 (by decide) ?_
                      refine lv_iload_n hx hb dX12_goWeek_256 rfl (lv_at hl 0 rfl) ?_
                      refine lv_iconst (v := (-1)) hx hb dX12_goWeek_257 (by decide) ?_
                      have hW0 := hW.2.2.2
                      refine t_callV (As := [.int 5, .int y7057, .int (-1)]) (rest := [.int y7057, .ref a8077]) E hW (c_X12_find l G cI cJ cZ cD cR cT kp L f7052 hW.2.2.2 _ h0 5 y7057 (-1) rh0 (by decide) (by omega) (by decide) (by rw [m7063]; exact (tx_rf hTX z7059 mR rfl rfl))) rh0 (by decide) rfl wk_X12_find tw_1669 rfl ⟨Nat.le_of_ble_eq_true rfl, Nat.le_of_ble_eq_true rfl⟩ ⟨rfl, rfl⟩ hl.1 rfl (Nat.le_of_ble_eq_true rfl) dX12_goWeek_258 ⟨Nat.le_of_ble_eq_true rfl, Nat.le_of_ble_eq_true rfl⟩ (fun v8080 f8081 H locs q8082 hW => ?_)
                      obtain ⟨⟨x8084, rfl, p8085⟩, g8083⟩ := q8082
                      have p8085 : (0 : Int) ≤ x8084.toInt ∧ x8084.toInt ≤ 1 := p8085
                      have z8086 : RP (aI (f8081 pR)) 0 = RP (aI (f0 pR)) 0 := rp_fm z7060 g8083 rR rfl
                      have z8087 : RF rw_X12_goWeek_u f0 f8081 h0 := rf_fm hTH z7059 g8083 rh0 rfl
                      have hF := FM.tr hF g8083 rfl
                      have hW0 := hW.2.2.2
                      refine gs_859 E hW r8079 ⟨by omega, by omega⟩ (by omega) dX12_goWeek_261 (fun f8088 H locs e8089 n8090 g8091 hW => ?_)
                      have m8092 : aI (f8088 pR) (8 : Int32).toNatClampNeg = p8 := ((congrArg (fun z => aI z (8 : Int32).toNatClampNeg) (fm_A g8091 rR (by decide) rfl)).trans ((congrArg (fun z => aI z (8 : Int32).toNatClampNeg) (fm_A g8083 rR (by decide) rfl)).trans m7054))
                      have m8093 : aI (f8088 pR) (4 : Int32).toNatClampNeg = y3073 := ((congrArg (fun z => aI z (4 : Int32).toNatClampNeg) (fm_A g8091 rR (by decide) rfl)).trans ((congrArg (fun z => aI z (4 : Int32).toNatClampNeg) (fm_A g8083 rR (by decide) rfl)).trans m7055))
                      have m8094 : aI (f8088 pR) (0 : Int32).toNatClampNeg = y6235 := ((congrArg (fun z => aI z (0 : Int32).toNatClampNeg) (fm_A g8091 rR (by decide) rfl)).trans ((congrArg (fun z => aI z (0 : Int32).toNatClampNeg) (fm_A g8083 rR (by decide) rfl)).trans m7066))
                      have z8095 : RP (aI (f8088 pR)) 0 = RP (aI (f0 pR)) 0 := rp_fm z8086 g8091 rR rfl
                      have z8096 : RF rw_X12_goWeek_u f0 f8088 h0 := rf_fm hTH z8087 g8091 rh0 rfl
                      have hF := FM.tr hF g8091 rfl
                      refine q_iinc hx hb dX12_goWeek_262 hl (k := 0) rfl rfl rfl (by omega) (by decide) (fun i8097 ls h8098 hl => ?_)
                      have hl : lv_has ls 3 [(1, .int i8097), (0, .ref h0)] := hl
                      refine lv_goto (tgt := 239) hx hb dX12_goWeek_265 (by decide) ?_
                      exact ih239 f8088 i8097 ((fm_R g8091 rh0 rfl).trans ((fm_R g8083 rh0 rfl).trans m7063)) m8092 m8093 m8094 (by omega) z8096 z8095 (by omega) _ _ _ hW hF (lv_sub hl [0, 1] rfl)
                have hk8099 : (0 : Int32).toInt = 0 := rfl
                exact L7061 41 f6223 0 m6233 m6225 m6226 m6236 (by decide) z6229 z6230 (by omega) _ _ _ hW hF (lv_sub hl [0, 1] rfl)
              · refine lv_iload_n hx hb dX12_goWeek_144 rfl (lv_at hl 0 rfl) ?_
                have hW0 := hW.2.2.2
                refine t_callS (As := [.int y6227]) (rest := []) E hW (c_X12_personAt l G cI cJ cZ cD cR cT kp L f6223 hW.2.2.2 _ y6227 (by omega)) wk_X12_personAt tw_1572 rfl ⟨Nat.le_of_ble_eq_true rfl, Nat.le_of_ble_eq_true rfl⟩ ⟨rfl, rfl⟩ hl.1 rfl (Nat.le_of_ble_eq_true rfl) dX12_goWeek_145 ⟨Nat.le_of_ble_eq_true rfl, Nat.le_of_ble_eq_true rfl⟩ (fun v8100 f8101 H locs q8102 hW => ?_)
                obtain ⟨⟨x8104, rfl, p8105⟩, g8103⟩ := q8102
                have z8106 : RP (aI (f8101 pR)) 0 = RP (aI (f0 pR)) 0 := rp_fm z6230 g8103 rR rfl
                have z8107 : RF rw_X12_goWeek_u f0 f8101 h0 := rf_fm hTH z6229 g8103 rh0 rfl
                have hF := FM.tr hF g8103 rfl
                refine lv_istore_n (lv' := [(2, .int x8104), (1, .int y6227), (0, .ref h0)]) hx hb dX12_goWeek_148 rfl hl (by decide) rfl (fun ls hl => ?_)
                refine lv_aload_n hx hb dX12_goWeek_149 rfl (lv_at hl 2 rfl) ?_
                refine fg_RX12_8 E hW rh0 dX12_goWeek_150 (fun a8108 m8109 r8110 => ?_)
                obtain rfl : pR = a8108 := (((fm_R g8103 rh0 rfl).trans m6233)).symm.trans m8109
                refine lv_iload_n hx hb dX12_goWeek_153 rfl (lv_at hl 0 rfl) ?_
                refine lv_bipush (v := 7) hx hb dX12_goWeek_154 (by decide) ?_
                refine q_iadd (Y := 7) hx hb dX12_goWeek_156 rfl rfl (by omega) (fun x8111 h8112 => ?_)
                refine gl_822 E hW rR ⟨by omega, by omega⟩ dX12_goWeek_157 (fun y8113 m8114 b8115 => ?_)
                refine lv_iconst (v := (-1)) hx hb dX12_goWeek_158 (by decide) ?_
                have J8183 : ∀ (f8176 : Nat → va_E) (m8177 : oR (f8176 h0) 2 = pR) (m8178 : aI (f8176 pR) (8 : Int32).toNatClampNeg = p8) (m8179 : aI (f8176 pR) (4 : Int32).toNatClampNeg = y3073) (m8180 : aI (f8176 pR) (0 : Int32).toNatClampNeg = y6235) (z8181 : RF rw_X12_goWeek_u f0 f8176 h0) (z8182 : RP (aI (f8176 pR)) 0 = RP (aI (f0 pR)) 0) (H : Heap) (locs : List Loc) (ls : Array Slot), WS G cI cJ cZ cD cR cT A kp L f8176 s H locs → FM kp L ms_X12_goWeek_u f0 f8176 → lv_has ls 3 [(2, .int x8104), (1, .int y6227), (0, .ref h0)] → W p l e ({ frames := 7, cells := 0, slots := 0, locals := 191 }) s m ([.ref h0] : List Value).toArray below meth c H locs 0 0 (MQ below (QT (po_X12_goWeek_u kp L f0 h0) G cI cJ cZ cD cR cT A kp L) ([.ref h0] : List Value).toArray s 0 0 A) (F0 m 231 ls []) := by
                  intro f8176 m8177 m8178 m8179 m8180 z8181 z8182 H locs ls hW hF hl
                  refine q_iinc hx hb dX12_goWeek_231 hl (k := 1) rfl rfl rfl (by omega) (by decide) (fun i8184 ls h8185 hl => ?_)
                  have hl : lv_has ls 3 [(1, .int i8184), (2, .int x8104), (0, .ref h0)] := hl
                  refine lv_goto (tgt := 134) hx hb dX12_goWeek_234 (by decide) ?_
                  exact ih134 f8176 i8184 m8177 m8178 m8179 (by omega) z8181 z8182 (by omega) _ _ _ hW hF (lv_sub hl [0, 2] rfl)
                refine q_icmp_eq (Y := -1) (tgt := 231) hx hb dX12_goWeek_159 (by decide) rfl rfl (fun c8186 => ?_) (fun c8186 => ?_)
                · exact J8183 f8101 m8109 ((congrArg (fun z => aI z (8 : Int32).toNatClampNeg) (fm_A g8103 rR (by decide) rfl)).trans m6225) ((congrArg (fun z => aI z (4 : Int32).toNatClampNeg) (fm_A g8103 rR (by decide) rfl)).trans m6226) ((congrArg (fun z => aI z (0 : Int32).toNatClampNeg) (fm_A g8103 rR (by decide) rfl)).trans m6236) z8107 z8106 _ _ _ hW hF (lv_sub hl [0, 1, 2] rfl)
                · refine lv_aload_n hx hb dX12_goWeek_162 rfl (lv_at hl 2 rfl) ?_
                  refine fg_RX12_8 E hW rh0 dX12_goWeek_163 (fun a8187 m8188 r8189 => ?_)
                  obtain rfl : pR = a8187 := (m8109).symm.trans m8188
                  refine lv_iload_n hx hb dX12_goWeek_166 rfl (lv_at hl 0 rfl) ?_
                  refine lv_iconst (v := 5) hx hb dX12_goWeek_167 (by decide) ?_
                  refine q_iadd (Y := 5) hx hb dX12_goWeek_168 rfl rfl (by omega) (fun x8190 h8191 => ?_)
                  refine gl_822 E hW rR ⟨by omega, by omega⟩ dX12_goWeek_169 (fun y8192 m8193 b8194 => ?_)
                  refine lv_iconst (v := 1) hx hb dX12_goWeek_170 (by decide) ?_
                  refine q_icmp_ne (Y := 1) (tgt := 231) hx hb dX12_goWeek_171 (by decide) rfl rfl (fun c8195 => ?_) (fun c8195 => ?_)
                  · exact J8183 f8101 m8188 ((congrArg (fun z => aI z (8 : Int32).toNatClampNeg) (fm_A g8103 rR (by decide) rfl)).trans m6225) ((congrArg (fun z => aI z (4 : Int32).toNatClampNeg) (fm_A g8103 rR (by decide) rfl)).trans m6226) ((congrArg (fun z => aI z (0 : Int32).toNatClampNeg) (fm_A g8103 rR (by decide) rfl)).trans m6236) z8107 z8106 _ _ _ hW hF (lv_sub hl [0, 1, 2] rfl)
                  · refine lv_aload_n hx hb dX12_goWeek_174 rfl (lv_at hl 2 rfl) ?_
                    refine lv_iconst (v := 3) hx hb dX12_goWeek_175 (by decide) ?_
                    refine lv_iload_n hx hb dX12_goWeek_176 rfl (lv_at hl 1 rfl) ?_
                    refine lv_iconst (v := (-1)) hx hb dX12_goWeek_177 (by decide) ?_
                    have hW0 := hW.2.2.2
                    refine t_callV (As := [.int 3, .int y6227, .int (-1)]) (rest := []) E hW (c_X12_find l G cI cJ cZ cD cR cT kp L f8101 hW.2.2.2 _ h0 3 y6227 (-1) rh0 (by decide) (by omega) (by decide) (by rw [m8188]; exact (tx_rf hTX z8107 mR rfl rfl))) rh0 (by decide) rfl wk_X12_find tw_1669 rfl ⟨Nat.le_of_ble_eq_true rfl, Nat.le_of_ble_eq_true rfl⟩ ⟨rfl, rfl⟩ hl.1 rfl (Nat.le_of_ble_eq_true rfl) dX12_goWeek_178 ⟨Nat.le_of_ble_eq_true rfl, Nat.le_of_ble_eq_true rfl⟩ (fun v8196 f8197 H locs q8198 hW => ?_)
                    obtain ⟨⟨x8200, rfl, p8201⟩, g8199⟩ := q8198
                    have p8201 : (0 : Int) ≤ x8200.toInt ∧ x8200.toInt ≤ 1 := p8201
                    have m8202 : aI (f8197 pR) (8 : Int32).toNatClampNeg = p8 := ((congrArg (fun z => aI z (8 : Int32).toNatClampNeg) (fm_A g8199 rR (by decide) rfl)).trans ((congrArg (fun z => aI z (8 : Int32).toNatClampNeg) (fm_A g8103 rR (by decide) rfl)).trans m6225))
                    have m8203 : aI (f8197 pR) (4 : Int32).toNatClampNeg = y3073 := ((congrArg (fun z => aI z (4 : Int32).toNatClampNeg) (fm_A g8199 rR (by decide) rfl)).trans ((congrArg (fun z => aI z (4 : Int32).toNatClampNeg) (fm_A g8103 rR (by decide) rfl)).trans m6226))
                    have m8204 : aI (f8197 pR) (0 : Int32).toNatClampNeg = y6235 := ((congrArg (fun z => aI z (0 : Int32).toNatClampNeg) (fm_A g8199 rR (by decide) rfl)).trans ((congrArg (fun z => aI z (0 : Int32).toNatClampNeg) (fm_A g8103 rR (by decide) rfl)).trans m6236))
                    have z8205 : RP (aI (f8197 pR)) 0 = RP (aI (f0 pR)) 0 := rp_fm z8106 g8199 rR rfl
                    have z8206 : RF rw_X12_goWeek_u f0 f8197 h0 := rf_fm hTH z8107 g8199 rh0 rfl
                    have hF := FM.tr hF g8199 rfl
                    refine lv_pop hx hb dX12_goWeek_181 rfl ?_
                    refine lv_aload_n hx hb dX12_goWeek_182 rfl (lv_at hl 2 rfl) ?_
                    refine fg_RX12_430 E hW rh0 dX12_goWeek_183 (fun y8207 m8208 => ?_)
                    refine lv_lconst (v := 0) hx hb dX12_goWeek_186 (by decide) ?_
                    refine q_lcmp_le (Y := 0) (tgt := 231) hx hb dX12_goWeek_187 dX12_goWeek_188 (by decide) rfl rfl (fun c8209 => ?_) (fun c8209 => ?_)
                    · exact J8183 f8197 ((fm_R g8199 rh0 rfl).trans m8188) m8202 m8203 m8204 z8206 z8205 _ _ _ hW hF (lv_sub hl [0, 1, 2] rfl)
                    · refine lv_aload_n hx hb dX12_goWeek_191 rfl (lv_at hl 2 rfl) ?_
                      refine fg_RX12_430 E hW rh0 dX12_goWeek_192 (fun y8210 m8211 => ?_)
                      refine lv_aload_n hx hb dX12_goWeek_195 rfl (lv_at hl 2 rfl) ?_
                      refine fg_RX12_8 E hW rh0 dX12_goWeek_196 (fun a8212 m8213 r8214 => ?_)
                      obtain rfl : pR = a8212 := (((fm_R g8199 rh0 rfl).trans m8188)).symm.trans m8213
                      refine lv_bipush (v := 9) hx hb dX12_goWeek_199 (by decide) ?_
                      refine gl_822 E hW rR (by decide) dX12_goWeek_201 (fun y8215 m8216 b8217 => ?_)
                      refine q_i2l hx hb dX12_goWeek_202 rfl (fun x8218 h8219 => ?_)
                      have hb8220 : -2147483648 ≤ x8218.toInt ∧ x8218.toInt ≤ 2147483647 := by have := i32_b y8215; omega
                      refine q_lcmp_gt (tgt := 231) hx hb dX12_goWeek_203 dX12_goWeek_204 (by decide) rfl rfl (fun c8221 => ?_) (fun c8221 => ?_)
                      · exact J8183 f8197 m8213 m8202 m8203 m8204 z8206 z8205 _ _ _ hW hF (lv_sub hl [0, 1, 2] rfl)
                      · refine lv_aload_n hx hb dX12_goWeek_207 rfl (lv_at hl 2 rfl) ?_
                        refine fg_RX12_8 E hW rh0 dX12_goWeek_208 (fun a8222 m8223 r8224 => ?_)
                        obtain rfl : pR = a8222 := (m8213).symm.trans m8223
                        refine lv_bipush (v := 9) hx hb dX12_goWeek_211 (by decide) ?_
                        refine lv_dup2_11 hx hb dX12_goWeek_213 rfl rfl ?_
                        refine gl_822 E hW rR (by decide) dX12_goWeek_214 (fun y8225 m8226 b8227 => ?_)
                        obtain rfl : y8215 = y8225 := (m8216).symm.trans m8226
                        refine lv_aload_n hx hb dX12_goWeek_215 rfl (lv_at hl 2 rfl) ?_
                        refine fg_RX12_430 E hW rh0 dX12_goWeek_216 (fun y8228 m8229 => ?_)
                        refine u_l2i hx hb dX12_goWeek_219 (fun x8230 => ?_)
                        refine u_isub hx hb dX12_goWeek_220 (fun x8231 => ?_)
                        have hk8232 : (9 : Int32).toInt = 9 := rfl
                        have hW0 := hW.2.2.2
                        refine gs_822 E hW rR (by decide) (fun hc => rr_up hc (by omega) (by omega) (by unfold rbI; omega)) dX12_goWeek_221 (fun f8233 H locs e8234 n8235 g8236 hW => ?_)
                        have hk8238 : (9 : Int32).toInt = 9 := rfl
                        have z8237 : RP (aI (f8233 pR)) 0 = RP (aI (f0 pR)) 0 := rp_st z8205 e8234 (by omega) (by omega)
                        have z8239 : RF rw_X12_goWeek_u f0 f8233 h0 := rf_st (lo := 9) (hi := 9) z8206 mR e8234 (by decide) rfl
                        have hF := FM.tr hF g8236 rfl
                        refine lv_aload_n hx hb dX12_goWeek_222 rfl (lv_at hl 2 rfl) ?_
                        refine lv_iload_n hx hb dX12_goWeek_223 rfl (lv_at hl 1 rfl) ?_
                        refine lv_aload_n hx hb dX12_goWeek_224 rfl (lv_at hl 2 rfl) ?_
                        refine fg_RX12_430 E hW rh0 dX12_goWeek_225 (fun y8240 m8241 => ?_)
                        have hW0 := hW.2.2.2
                        refine t_callV (As := [.int y6227, .long y8240]) (rest := []) E hW (c_X12_gets_u l G cI cJ cZ cD cR cT kp L f8233 hW.2.2.2 _ h0 y6227 y8240 rh0 (by omega)) rh0 (by decide) rfl wk_X12_gets tw_1596 rfl ⟨Nat.le_of_ble_eq_true rfl, Nat.le_of_ble_eq_true rfl⟩ ⟨rfl, rfl⟩ hl.1 rfl (Nat.le_of_ble_eq_true rfl) dX12_goWeek_228 ⟨Nat.le_of_ble_eq_true rfl, Nat.le_of_ble_eq_true rfl⟩ (fun v8242 f8243 H locs q8244 hW => ?_)
                        obtain ⟨rfl, g8245, h8246, h8247⟩ := q8244
                        have z8249 : RF rw_X12_goWeek_u f0 f8243 h0 := rf_call z8239 h8247 mR ((fm_R g8236 rh0 rfl).trans m8223) rfl
                        have hF := FM.tr hF g8245 rfl
                        have z8250 : RP (aI (f8243 pR)) 0 = RP (aI (f0 pR)) 0 := rp_call z8237 h8246 ((fm_R g8236 rh0 rfl).trans m8223)
                        exact J8183 f8243 ((fm_R g8245 rh0 rfl).trans ((fm_R g8236 rh0 rfl).trans m8223)) ((show aI (f8243 pR) (8 : Int32).toNatClampNeg = aI (f8233 pR) (8 : Int32).toNatClampNeg from rf_get h8247 ((fm_R g8236 rh0 rfl).trans m8223) 8 rfl).trans (show aI (f8233 pR) (8 : Int32).toNatClampNeg = p8 from by rw [e8234, up_n (tn_ne (by decide) (by decide) (by decide))]; exact m8202)) ((show aI (f8243 pR) (4 : Int32).toNatClampNeg = aI (f8233 pR) (4 : Int32).toNatClampNeg from rf_get h8247 ((fm_R g8236 rh0 rfl).trans m8223) 4 rfl).trans (show aI (f8233 pR) (4 : Int32).toNatClampNeg = y3073 from by rw [e8234, up_n (tn_ne (by decide) (by decide) (by decide))]; exact m8203)) ((show aI (f8243 pR) (0 : Int32).toNatClampNeg = aI (f8233 pR) (0 : Int32).toNatClampNeg from rf_get h8247 ((fm_R g8236 rh0 rfl).trans m8223) 0 rfl).trans (show aI (f8233 pR) (0 : Int32).toNatClampNeg = y6235 from by rw [e8234, up_n (tn_ne (by decide) (by decide) (by decide))]; exact m8204)) z8249 z8250 _ _ _ hW hF (lv_sub hl [0, 1, 2] rfl)
          have hk8251 : (0 : Int32).toInt = 0 := rfl
          exact L6231 41 f3062 0 m3071 m3064 m3074 (by decide) z3067 z3068 (by omega) _ _ _ hW hF (lv_sub hl [0, 1] rfl)
        · refine lv_aload_n hx hb dX12_goWeek_96 rfl (lv_at hl 1 rfl) ?_
          refine fg_RX12_8 E hW rh0 dX12_goWeek_97 (fun a8252 m8253 r8254 => ?_)
          obtain rfl : pR = a8252 := (m3071).symm.trans m8253
          refine lv_sipush (v := 684) hx hb dX12_goWeek_100 (by decide) ?_
          refine lv_bipush (v := 6) hx hb dX12_goWeek_103 (by decide) ?_
          refine lv_iload_n hx hb dX12_goWeek_105 rfl (lv_at hl 0 rfl) ?_
          refine q_imul (X := 6) hx hb dX12_goWeek_106 rfl rfl (by omega) (fun x8255 h8256 => ?_)
          refine q_iadd (X := 684) hx hb dX12_goWeek_107 rfl rfl (by omega) (fun x8257 h8258 => ?_)
          refine lv_iconst (v := 5) hx hb dX12_goWeek_108 (by decide) ?_
          refine q_iadd (Y := 5) hx hb dX12_goWeek_109 rfl rfl (by omega) (fun x8259 h8260 => ?_)
          refine gl_822 E hW rR ⟨by omega, by omega⟩ dX12_goWeek_110 (fun y8261 m8262 b8263 => ?_)
          have J8283 : ∀ (f8277 : Nat → va_E) (m8278 : oR (f8277 h0) 2 = pR) (m8279 : aI (f8277 pR) (8 : Int32).toNatClampNeg = p8) (m8280 : aI (f8277 pR) (4 : Int32).toNatClampNeg = y3073) (z8281 : RF rw_X12_goWeek_u f0 f8277 h0) (z8282 : RP (aI (f8277 pR)) 0 = RP (aI (f0 pR)) 0) (H : Heap) (locs : List Loc) (ls : Array Slot), WS G cI cJ cZ cD cR cT A kp L f8277 s H locs → FM kp L ms_X12_goWeek_u f0 f8277 → lv_has ls 3 [(1, .int y3065), (0, .ref h0)] → W p l e ({ frames := 7, cells := 0, slots := 0, locals := 191 }) s m ([.ref h0] : List Value).toArray below meth c H locs 0 0 (MQ below (QT (po_X12_goWeek_u kp L f0 h0) G cI cJ cZ cD cR cT A kp L) ([.ref h0] : List Value).toArray s 0 0 A) (F0 m 126 ls []) := by
            intro f8277 m8278 m8279 m8280 z8281 z8282 H locs ls hW hF hl
            clear h8260
            refine q_iinc hx hb dX12_goWeek_126 hl (k := 0) rfl rfl rfl (by omega) (by decide) (fun i8284 ls h8285 hl => ?_)
            have hl : lv_has ls 3 [(1, .int i8284), (0, .ref h0)] := hl
            refine lv_goto (tgt := 86) hx hb dX12_goWeek_129 (by decide) ?_
            exact ih86 f8277 i8284 m8278 m8279 (by omega) z8281 z8282 (by omega) _ _ _ hW hF (lv_sub hl [0, 1] rfl)
          refine q_if_ne (tgt := 126) hx hb dX12_goWeek_111 (by decide) rfl (fun c8286 => ?_) (fun c8286 => ?_)
          · exact J8283 f3062 m8253 m3064 m3074 z3067 z3068 _ _ _ hW hF (lv_sub hl [0, 1] rfl)
          · refine lv_aload_n hx hb dX12_goWeek_114 rfl (lv_at hl 1 rfl) ?_
            refine lv_sipush (v := 684) hx hb dX12_goWeek_115 (by decide) ?_
            refine lv_bipush (v := 6) hx hb dX12_goWeek_118 (by decide) ?_
            refine lv_iload_n hx hb dX12_goWeek_120 rfl (lv_at hl 0 rfl) ?_
            refine q_imul (X := 6) hx hb dX12_goWeek_121 rfl rfl (by omega) (fun x8287 h8288 => ?_)
            refine q_iadd (X := 684) hx hb dX12_goWeek_122 rfl rfl (by omega) (fun x8289 h8290 => ?_)
            have hW0 := hW.2.2.2
            refine t_callV (As := [.int x8289]) (rest := []) E hW (c_X12_goWrit_u l G cI cJ cZ cD cR cT kp L f3062 hW.2.2.2 _ h0 x8289 rh0 (by omega) (by omega) (by rw [m8253]; exact (tx_rf hTX z3067 mR rfl rfl))) rh0 (by decide) rfl wk_X12_goWrit tw_1942 rfl ⟨Nat.le_of_ble_eq_true rfl, Nat.le_of_ble_eq_true rfl⟩ ⟨rfl, rfl⟩ hl.1 rfl (Nat.le_of_ble_eq_true rfl) dX12_goWeek_123 ⟨Nat.le_of_ble_eq_true rfl, Nat.le_of_ble_eq_true rfl⟩ (fun v8291 f8292 H locs q8293 hW => ?_)
            obtain ⟨rfl, g8294, h8295, h8296⟩ := q8293
            have z8298 : RF rw_X12_goWeek_u f0 f8292 h0 := rf_call z3067 h8296 mR m8253 rfl
            have hF := FM.tr hF g8294 rfl
            have z8299 : RP (aI (f8292 pR)) 0 = RP (aI (f0 pR)) 0 := rp_call z3068 h8295 m8253
            exact J8283 f8292 ((fm_R g8294 rh0 rfl).trans m8253) ((show aI (f8292 pR) (8 : Int32).toNatClampNeg = aI (f3062 pR) (8 : Int32).toNatClampNeg from rf_get h8296 m8253 8 rfl).trans m3064) ((show aI (f8292 pR) (4 : Int32).toNatClampNeg = aI (f3062 pR) (4 : Int32).toNatClampNeg from rf_get h8296 m8253 4 rfl).trans m3074) z8298 z8299 _ _ _ hW hF (lv_sub hl [0, 1] rfl)
    have hk8300 : (0 : Int32).toInt = 0 := rfl
    exact L3069 61 f1481 0 m1482 m1483 (by decide) z1484 z1485 (by omega) _ _ _ hW hF (lv_sub hl [0, 1] rfl)
  refine q_if_ne (tgt := 84) hx hb dX12_goWeek_18 (by decide) rfl (fun c8301 => ?_) (fun c8301 => ?_)
  · exact J1486 f8 m17 m20 z14 z15 _ _ _ hW hF (lv_sub hl [0] rfl)
  · refine lv_aload_n hx hb dX12_goWeek_21 rfl (lv_at hl 0 rfl) ?_
    refine fg_RX12_8 E hW rh0 dX12_goWeek_22 (fun a8302 m8303 r8304 => ?_)
    obtain rfl : pR = a8302 := (m17).symm.trans m8303
    refine lv_bipush (v := 8) hx hb dX12_goWeek_25 (by decide) ?_
    refine gl_822 E hW rR (by decide) dX12_goWeek_27 (fun y8305 m8306 b8307 => ?_)
    obtain rfl : p8 = y8305 := (m20).symm.trans m8306
    refine q_if_le (tgt := 84) hx hb dX12_goWeek_28 (by decide) rfl (fun c8308 => ?_) (fun c8308 => ?_)
    · exact J1486 f8 m8303 m8306 z14 z15 _ _ _ hW hF (lv_sub hl [0] rfl)
    · refine lv_aload_n hx hb dX12_goWeek_31 rfl (lv_at hl 0 rfl) ?_
      have hW0 := hW.2.2.2
      refine t_callV (As := []) (rest := []) E hW (c_X12_payRents_u l G cI cJ cZ cD cR cT kp L f8 hW.2.2.2 _ h0 rh0 (by rw [m8303]; exact (tx_rf hTX z14 mR rfl rfl))) rh0 (by decide) rfl wk_X12_payRents tw_1926 rfl ⟨Nat.le_of_ble_eq_true rfl, Nat.le_of_ble_eq_true rfl⟩ ⟨rfl, rfl⟩ hl.1 rfl (Nat.le_of_ble_eq_true rfl) dX12_goWeek_32 ⟨Nat.le_of_ble_eq_true rfl, Nat.le_of_ble_eq_true rfl⟩ (fun v8309 f8310 H locs q8311 hW => ?_)
      obtain ⟨rfl, g8312, h8313, h8314⟩ := q8311
      have z8316 : RF rw_X12_goWeek_u f0 f8310 h0 := rf_call z14 h8314 mR m8303 rfl
      have hF := FM.tr hF g8312 rfl
      have z8317 : RP (aI (f8310 pR)) 0 = RP (aI (f0 pR)) 0 := rp_call z15 h8313 m8303
      refine lv_iconst (v := 0) hx hb dX12_goWeek_35 (by decide) ?_
      refine lv_istore_n (lv' := [(1, .int 0), (0, .ref h0)]) hx hb dX12_goWeek_36 rfl hl (by decide) rfl (fun ls hl => ?_)
      have L9693 : ∀ (n : Nat), ∀ (f9686 : Nat → va_E) (y9689 : Int32) (m9687 : oR (f9686 h0) 2 = pR) (m9688 : aI (f9686 pR) (8 : Int32).toNatClampNeg = p8) (b9690 : (0 : Int) ≤ y9689.toInt ∧ y9689.toInt ≤ 40) (z9691 : RF rw_X12_goWeek_u f0 f9686 h0) (z9692 : RP (aI (f9686 pR)) 0 = RP (aI (f0 pR)) 0) (hm : (41 : Int) - y9689.toInt ≤ n) (H : Heap) (locs : List Loc) (ls : Array Slot), WS G cI cJ cZ cD cR cT A kp L f9686 s H locs → FM kp L ms_X12_goWeek_u f0 f9686 → lv_has ls 3 [(1, .int y9689), (0, .ref h0)] → W p l e ({ frames := 7, cells := 0, slots := 0, locals := 191 }) s m ([.ref h0] : List Value).toArray below meth c H locs 0 0 (MQ below (QT (po_X12_goWeek_u kp L f0 h0) G cI cJ cZ cD cR cT A kp L) ([.ref h0] : List Value).toArray s 0 0 A) (F0 m 37 ls []) := by
        intro n
        induction n with
        | zero =>
          intro f9686 y9689 m9687 m9688 b9690 z9691 z9692 hm H locs ls hW hF hl
          have hz := i32_b y9689
          exfalso; omega
        | succ n ih =>
          intro f9686 y9689 m9687 m9688 b9690 z9691 z9692 hm H locs ls hW hF hl
          have ih37 := ih
          refine lv_iload_n hx hb dX12_goWeek_37 rfl (lv_at hl 0 rfl) ?_
          refine lv_aload_n hx hb dX12_goWeek_38 rfl (lv_at hl 1 rfl) ?_
          refine fg_RX12_8 E hW rh0 dX12_goWeek_39 (fun a9694 m9695 r9696 => ?_)
          obtain rfl : pR = a9694 := (m9687).symm.trans m9695
          refine lv_iconst (v := 2) hx hb dX12_goWeek_42 (by decide) ?_
          refine gl_822 E hW rR (by decide) dX12_goWeek_43 (fun y9697 m9698 b9699 => ?_)
          have b9700 := rr_2 (show RowInv _ from b9699) m9698 (by decide)
          refine q_icmp_ge (tgt := 84) hx hb dX12_goWeek_44 (by decide) rfl rfl (fun c9701 => ?_) (fun c9701 => ?_)
          · exact J1486 f9686 m9695 m9688 z9691 z9692 _ _ _ hW hF (lv_sub hl [1] rfl)
          · refine lv_aload_n hx hb dX12_goWeek_47 rfl (lv_at hl 1 rfl) ?_
            refine fg_RX12_161 E hW rh0 dX12_goWeek_48 (fun y9702 m9703 b9704 => ?_)
            refine q_if_eq (tgt := 84) hx hb dX12_goWeek_51 (by decide) rfl (fun c9705 => ?_) (fun c9705 => ?_)
            · exact J1486 f9686 m9695 m9688 z9691 z9692 _ _ _ hW hF (lv_sub hl [1] rfl)
            · refine lv_aload_n hx hb dX12_goWeek_54 rfl (lv_at hl 1 rfl) ?_
              refine lv_iload_n hx hb dX12_goWeek_55 rfl (lv_at hl 0 rfl) ?_
              have hW0 := hW.2.2.2
              refine t_callV (As := [.int y9689]) (rest := []) E hW (c_X12_canWrit l G cI cJ cZ cD cR cT kp L f9686 hW.2.2.2 _ h0 y9689 rh0 (by omega)) rh0 (by decide) rfl wk_X12_canWrit tw_1930 rfl ⟨Nat.le_of_ble_eq_true rfl, Nat.le_of_ble_eq_true rfl⟩ ⟨rfl, rfl⟩ hl.1 rfl (Nat.le_of_ble_eq_true rfl) dX12_goWeek_56 ⟨Nat.le_of_ble_eq_true rfl, Nat.le_of_ble_eq_true rfl⟩ (fun v9706 f9707 H locs q9708 hW => ?_)
              obtain ⟨⟨x9710, rfl, p9711⟩, g9709⟩ := q9708
              have z9712 : RP (aI (f9707 pR)) 0 = RP (aI (f0 pR)) 0 := rp_fm z9692 g9709 rR rfl
              have z9713 : RF rw_X12_goWeek_u f0 f9707 h0 := rf_fm hTH z9691 g9709 rh0 rfl
              have hF := FM.tr hF g9709 rfl
              have J9738 : ∀ (f9731 : Nat → va_E) (m9732 : oR (f9731 h0) 2 = pR) (m9733 : oI (f9731 h0) 6 = y9702) (m9734 : aI (f9731 pR) (8 : Int32).toNatClampNeg = p8) (m9735 : aI (f9731 pR) (2 : Int32).toNatClampNeg = y9697) (z9736 : RF rw_X12_goWeek_u f0 f9731 h0) (z9737 : RP (aI (f9731 pR)) 0 = RP (aI (f0 pR)) 0) (H : Heap) (locs : List Loc) (ls : Array Slot), WS G cI cJ cZ cD cR cT A kp L f9731 s H locs → FM kp L ms_X12_goWeek_u f0 f9731 → lv_has ls 3 [(1, .int y9689), (0, .ref h0)] → W p l e ({ frames := 7, cells := 0, slots := 0, locals := 191 }) s m ([.ref h0] : List Value).toArray below meth c H locs 0 0 (MQ below (QT (po_X12_goWeek_u kp L f0 h0) G cI cJ cZ cD cR cT A kp L) ([.ref h0] : List Value).toArray s 0 0 A) (F0 m 78 ls []) := by
                intro f9731 m9732 m9733 m9734 m9735 z9736 z9737 H locs ls hW hF hl
                clear p9711
                refine q_iinc hx hb dX12_goWeek_78 hl (k := 0) rfl rfl rfl (by omega) (by decide) (fun i9739 ls h9740 hl => ?_)
                have hl : lv_has ls 3 [(1, .int i9739), (0, .ref h0)] := hl
                refine lv_goto (tgt := 37) hx hb dX12_goWeek_81 (by decide) ?_
                exact ih37 f9731 i9739 m9732 m9734 (by omega) z9736 z9737 (by omega) _ _ _ hW hF (lv_sub hl [0, 1] rfl)
              refine q_if_eq (tgt := 78) hx hb dX12_goWeek_59 (by decide) rfl (fun c9741 => ?_) (fun c9741 => ?_)
              · exact J9738 f9707 ((fm_R g9709 rh0 rfl).trans m9695) ((fm_I g9709 rh0 rfl).trans m9703) ((congrArg (fun z => aI z (8 : Int32).toNatClampNeg) (fm_A g9709 rR (by decide) rfl)).trans m9688) ((congrArg (fun z => aI z (2 : Int32).toNatClampNeg) (fm_A g9709 rR (by decide) rfl)).trans m9698) z9713 z9712 _ _ _ hW hF (lv_sub hl [0, 1] rfl)
              · refine lv_aload_n hx hb dX12_goWeek_62 rfl (lv_at hl 1 rfl) ?_
                refine fg_RX12_8 E hW rh0 dX12_goWeek_63 (fun a9742 m9743 r9744 => ?_)
                obtain rfl : pR = a9742 := (((fm_R g9709 rh0 rfl).trans m9695)).symm.trans m9743
                refine lv_iconst (v := 4) hx hb dX12_goWeek_66 (by decide) ?_
                refine gl_822 E hW rR (by decide) dX12_goWeek_67 (fun y9745 m9746 b9747 => ?_)
                have b9748 := rr_4 (show RowInv _ from b9747) m9746 (by decide)
                refine lv_bipush (v := 60) hx hb dX12_goWeek_68 (by decide) ?_
                refine q_icmp_ge (Y := 60) (tgt := 78) hx hb dX12_goWeek_70 (by decide) rfl rfl (fun c9749 => ?_) (fun c9749 => ?_)
                · exact J9738 f9707 m9743 ((fm_I g9709 rh0 rfl).trans m9703) ((congrArg (fun z => aI z (8 : Int32).toNatClampNeg) (fm_A g9709 rR (by decide) rfl)).trans m9688) ((congrArg (fun z => aI z (2 : Int32).toNatClampNeg) (fm_A g9709 rR (by decide) rfl)).trans m9698) z9713 z9712 _ _ _ hW hF (lv_sub hl [0, 1] rfl)
                · refine lv_aload_n hx hb dX12_goWeek_73 rfl (lv_at hl 1 rfl) ?_
                  refine lv_iload_n hx hb dX12_goWeek_74 rfl (lv_at hl 0 rfl) ?_
                  have hW0 := hW.2.2.2
                  refine t_callV (As := [.int y9689]) (rest := []) E hW (c_X12_addWrit_u l G cI cJ cZ cD cR cT kp L f9707 hW.2.2.2 _ h0 y9689 rh0 (by omega) (by rw [m9743, m9746]; omega) (by rw [m9743]; exact (tx_rf hTX z9713 mR rfl rfl))) rh0 (by decide) rfl wk_X12_addWrit tw_1934 rfl ⟨Nat.le_of_ble_eq_true rfl, Nat.le_of_ble_eq_true rfl⟩ ⟨rfl, rfl⟩ hl.1 rfl (Nat.le_of_ble_eq_true rfl) dX12_goWeek_75 ⟨Nat.le_of_ble_eq_true rfl, Nat.le_of_ble_eq_true rfl⟩ (fun v9750 f9751 H locs q9752 hW => ?_)
                  obtain ⟨rfl, g9753, h9754, h9755⟩ := q9752
                  have z9757 : RF rw_X12_goWeek_u f0 f9751 h0 := rf_call z9713 h9755 mR m9743 rfl
                  have hF := FM.tr hF g9753 rfl
                  have z9758 : RP (aI (f9751 pR)) 0 = RP (aI (f0 pR)) 0 := rp_call z9712 h9754 m9743
                  exact J9738 f9751 ((fm_R g9753 rh0 rfl).trans m9743) ((fm_I g9753 rh0 rfl).trans ((fm_I g9709 rh0 rfl).trans m9703)) ((show aI (f9751 pR) (8 : Int32).toNatClampNeg = aI (f9707 pR) (8 : Int32).toNatClampNeg from rf_get h9755 m9743 8 rfl).trans ((congrArg (fun z => aI z (8 : Int32).toNatClampNeg) (fm_A g9709 rR (by decide) rfl)).trans m9688)) ((show aI (f9751 pR) (2 : Int32).toNatClampNeg = aI (f9707 pR) (2 : Int32).toNatClampNeg from rf_get h9755 m9743 2 rfl).trans ((congrArg (fun z => aI z (2 : Int32).toNatClampNeg) (fm_A g9709 rR (by decide) rfl)).trans m9698)) z9757 z9758 _ _ _ hW hF (lv_sub hl [0, 1] rfl)
      have hk9759 : (0 : Int32).toInt = 0 := rfl
      exact L9693 41 f8310 0 ((fm_R g8312 rh0 rfl).trans m8303) ((show aI (f8310 pR) (8 : Int32).toNatClampNeg = aI (f8 pR) (8 : Int32).toNatClampNeg from rf_get h8314 m8303 8 rfl).trans m8306) (by decide) z8316 z8317 (by omega) _ _ _ hW hF (lv_sub hl [0, 1] rfl)
def rw_X12_field_u : List (Nat × Nat) := [(2, 2), (20, 1041)]
def ms_X12_field_u : List (Nat × Nat) := [(12, 0), (12, 1), (822, 0)]
def po_X12_field_u (kp : Nat → Nat) (L : List Nat) (f0 : Nat → va_E) (h0 : Nat) (u1 : Int32) (u2 : Int32) (u3 : Int32) (u4 : Int32) : Option Value → (Nat → va_E) → Prop := fun v f => (∃ r : Int32, v = some (.int r) ∧ (True)) ∧ FM kp L ms_X12_field_u f0 f ∧ (RP (aI (f (oR (f0 h0) 2))) 0 = RP (aI (f0 (oR (f0 h0) 2))) 0) ∧ (RF rw_X12_field_u f0 f h0)
set_option maxHeartbeats 4000000 in
set_option maxRecDepth 100000 in
theorem c_X12_field_u (l : Launch) (G : va_G) (cI cJ cZ cD cR cT : ClassId) (kp : Nat → Nat) (L : List Nat) (f0 : Nat → va_E) (hTH : TH cI cJ cZ cD cR cT kp L f0) (sz : Nat) (h0 : Nat) (u1 : Int32) (u2 : Int32) (u3 : Int32) (u4 : Int32) (rh0 : RK kp L h0 12) : Met l yX12_field (Cond.code yX12_field cX12_field 6 (some .int) :: wTab) ({ frames := 3, cells := 0, slots := 0, locals := 86 }) (va_Pc [.ref h0, .int u1, .int u2, .int u3, .int u4] (PreW G (tys6 cI cJ cZ cD cR cT) (va_pl L f0) sz)) (QT (po_X12_field_u kp L f0 h0 u1 u2 u3 u4) G cI cJ cZ cD cR cT (va_A (va_pl L f0) sz) kp L) 0 0 (va_A (va_pl L f0) sz) := by
  refine metT (by decide) (Nat.le_of_ble_eq_true rfl) hTH ?_
  intro p e s m below meth c A ls E hW hl
  obtain ⟨hx, hb, -, hml, hown, hts, -, -, -⟩ := id E
  have hF : FM kp L ms_X12_field_u f0 f0 := FM.rf
  have hl : lv_has ls 6 [(0, .ref h0), (1, .int u1), (2, .int u2), (3, .int u3), (4, .int u4)] := hl
  obtain ⟨pR, mR⟩ : ∃ x : Nat, oR (f0 h0) 2 = x := ⟨_, rfl⟩
  have rR : RK kp L pR 822 := by rw [← mR]; exact th_ref hTH rh0 (by decide) (by decide) rfl
  refine lv_aload_n hx hb dX12_field_0 rfl (lv_at hl 0 rfl) ?_
  refine lv_iconst (v := 0) hx hb dX12_field_1 (by decide) ?_
  have hW0 := hW.2.2.2
  refine fp_RX12_82 E hW rh0 dX12_field_2 (fun f1 H locs e2 n3 g4 hW => ?_)
  have z5 : RP (aI (f1 pR)) 0 = RP (aI (f0 pR)) 0 := rp_fm (rfl : RP (aI (f0 pR)) 0 = RP (aI (f0 pR)) 0) g4 rR rfl
  have z6 : RF rw_X12_field_u f0 f1 h0 := rf_fm hTH rf_rf g4 rh0 rfl
  have hF := FM.tr hF g4 rfl
  refine lv_iload_n hx hb dX12_field_5 rfl (lv_at hl 2 rfl) ?_
  refine q_i2l hx hb dX12_field_6 rfl (fun x7 h8 => ?_)
  have hb9 : -2147483648 ≤ x7.toInt ∧ x7.toInt ≤ 2147483647 := by have := i32_b u2; omega
  refine lv_lconst (v := 1) hx hb dX12_field_7 (by decide) ?_
  refine lv_ldc2 (v := 1000) hx hb hown (hts _ tw_1618) dX12_field_8 ?_
  have hW0 := hW.2.2.2
  refine t_callS (As := [.long x7, .long 1, .long 1000]) (rest := []) E hW (c_X12_in l G cI cJ cZ cD cR cT kp L f1 hW.2.2.2 _ x7 1 1000) wk_X12_in tw_1554 rfl ⟨Nat.le_of_ble_eq_true rfl, Nat.le_of_ble_eq_true rfl⟩ ⟨rfl, rfl⟩ hl.1 rfl (Nat.le_of_ble_eq_true rfl) dX12_field_11 ⟨Nat.le_of_ble_eq_true rfl, Nat.le_of_ble_eq_true rfl⟩ (fun v10 f11 H locs q12 hW => ?_)
  obtain ⟨⟨x14, rfl, p15⟩, g13⟩ := q12
  have p15 : (x14.toInt = 1 ∧ (1 : Int) ≤ x7.toInt ∧ x7.toInt ≤ (1000 : Int)) ∨ (x14.toInt = 0 ∧ (x7.toInt < (1 : Int) ∨ (1000 : Int) < x7.toInt)) := p15
  have z16 : RP (aI (f11 pR)) 0 = RP (aI (f0 pR)) 0 := rp_fm z5 g13 rR rfl
  have z17 : RF rw_X12_field_u f0 f11 h0 := rf_fm hTH z6 g13 rh0 rfl
  have hF := FM.tr hF g13 rfl
  refine q_if_eq (tgt := 29) hx hb dX12_field_14 (by decide) rfl (fun c18 => ?_) (fun c18 => ?_)
  · have q19 : (x7.toInt < (1 : Int) ∨ (1000 : Int) < x7.toInt) := by omega
    clear p15
    refine lv_aload_n hx hb dX12_field_29 rfl (lv_at hl 0 rfl) ?_
    refine lv_iconst (v := (-1)) hx hb dX12_field_30 (by decide) ?_
    have hW0 := hW.2.2.2
    refine t_callV (As := [.int (-1)]) (rest := []) E hW (c_X12_told_x l G cI cJ cZ cD cR cT kp L f11 hW.2.2.2 _ h0 (-1) rh0) rh0 (by decide) rfl wk_X12_told tw_1557 rfl ⟨Nat.le_of_ble_eq_true rfl, Nat.le_of_ble_eq_true rfl⟩ ⟨rfl, rfl⟩ hl.1 rfl (Nat.le_of_ble_eq_true rfl) dX12_field_31 ⟨Nat.le_of_ble_eq_true rfl, Nat.le_of_ble_eq_true rfl⟩ (fun v20 f21 H locs q22 hW => ?_)
    obtain ⟨⟨x24, rfl, p25⟩, g23⟩ := q22
    have p25 : x24.toInt = (-1 : Int) := p25
    have z26 : RP (aI (f21 pR)) 0 = RP (aI (f0 pR)) 0 := rp_fm z16 g23 rR rfl
    have z27 : RF rw_X12_field_u f0 f21 h0 := rf_fm hTH z17 g23 rh0 rfl
    have hF := FM.tr hF g23 rfl
    exact e_I E hW rfl ⟨⟨_, rfl, trivial⟩, hF, (by rw [mR]; exact z26), z27⟩ dX12_field_34
  · have q28 : (1 : Int) ≤ x7.toInt ∧ x7.toInt ≤ (1000 : Int) := by omega
    clear p15
    refine lv_iload_n hx hb dX12_field_17 rfl (lv_at hl 3 rfl) ?_
    refine q_i2l hx hb dX12_field_18 rfl (fun x29 h30 => ?_)
    have hb31 : -2147483648 ≤ x29.toInt ∧ x29.toInt ≤ 2147483647 := by have := i32_b u3; omega
    refine lv_lconst (v := 0) hx hb dX12_field_19 (by decide) ?_
    refine lv_ldc2 (v := 100000) hx hb hown (hts _ tw_1619) dX12_field_20 ?_
    have hW0 := hW.2.2.2
    refine t_callS (As := [.long x29, .long 0, .long 100000]) (rest := []) E hW (c_X12_in l G cI cJ cZ cD cR cT kp L f11 hW.2.2.2 _ x29 0 100000) wk_X12_in tw_1554 rfl ⟨Nat.le_of_ble_eq_true rfl, Nat.le_of_ble_eq_true rfl⟩ ⟨rfl, rfl⟩ hl.1 rfl (Nat.le_of_ble_eq_true rfl) dX12_field_23 ⟨Nat.le_of_ble_eq_true rfl, Nat.le_of_ble_eq_true rfl⟩ (fun v32 f33 H locs q34 hW => ?_)
    obtain ⟨⟨x36, rfl, p37⟩, g35⟩ := q34
    have p37 : (x36.toInt = 1 ∧ (0 : Int) ≤ x29.toInt ∧ x29.toInt ≤ (100000 : Int)) ∨ (x36.toInt = 0 ∧ (x29.toInt < (0 : Int) ∨ (100000 : Int) < x29.toInt)) := p37
    have z38 : RP (aI (f33 pR)) 0 = RP (aI (f0 pR)) 0 := rp_fm z16 g35 rR rfl
    have z39 : RF rw_X12_field_u f0 f33 h0 := rf_fm hTH z17 g35 rh0 rfl
    have hF := FM.tr hF g35 rfl
    refine q_if_ne (tgt := 35) hx hb dX12_field_26 (by decide) rfl (fun c40 => ?_) (fun c40 => ?_)
    · have q41 : (0 : Int) ≤ x29.toInt ∧ x29.toInt ≤ (100000 : Int) := by omega
      clear p37
      refine lv_aload_n hx hb dX12_field_35 rfl (lv_at hl 0 rfl) ?_
      refine lv_iload_n hx hb dX12_field_36 rfl (lv_at hl 1 rfl) ?_
      have hW0 := hW.2.2.2
      refine t_callV (As := [.int u1]) (rest := []) E hW (c_X12_isEstate l G cI cJ cZ cD cR cT kp L f33 hW.2.2.2 _ h0 u1 rh0) rh0 (by decide) rfl wk_X12_isEstate tw_1620 rfl ⟨Nat.le_of_ble_eq_true rfl, Nat.le_of_ble_eq_true rfl⟩ ⟨rfl, rfl⟩ hl.1 rfl (Nat.le_of_ble_eq_true rfl) dX12_field_37 ⟨Nat.le_of_ble_eq_true rfl, Nat.le_of_ble_eq_true rfl⟩ (fun v42 f43 H locs q44 hW => ?_)
      obtain ⟨⟨x46, rfl, p47⟩, g45⟩ := q44
      have z48 : RP (aI (f43 pR)) 0 = RP (aI (f0 pR)) 0 := rp_fm z38 g45 rR rfl
      have z49 : RF rw_X12_field_u f0 f43 h0 := rf_fm hTH z39 g45 rh0 rfl
      have hF := FM.tr hF g45 rfl
      refine q_if_eq (tgt := 58) hx hb dX12_field_40 (by decide) rfl (fun c50 => ?_) (fun c50 => ?_)
      · clear p47
        refine lv_aload_n hx hb dX12_field_58 rfl (lv_at hl 0 rfl) ?_
        refine lv_bipush (v := (-2)) hx hb dX12_field_59 (by decide) ?_
        have hW0 := hW.2.2.2
        refine t_callV (As := [.int (-2)]) (rest := []) E hW (c_X12_told_x l G cI cJ cZ cD cR cT kp L f43 hW.2.2.2 _ h0 (-2) rh0) rh0 (by decide) rfl wk_X12_told tw_1557 rfl ⟨Nat.le_of_ble_eq_true rfl, Nat.le_of_ble_eq_true rfl⟩ ⟨rfl, rfl⟩ hl.1 rfl (Nat.le_of_ble_eq_true rfl) dX12_field_61 ⟨Nat.le_of_ble_eq_true rfl, Nat.le_of_ble_eq_true rfl⟩ (fun v51 f52 H locs q53 hW => ?_)
        obtain ⟨⟨x55, rfl, p56⟩, g54⟩ := q53
        have p56 : x55.toInt = (-2 : Int) := p56
        have z57 : RP (aI (f52 pR)) 0 = RP (aI (f0 pR)) 0 := rp_fm z48 g54 rR rfl
        have z58 : RF rw_X12_field_u f0 f52 h0 := rf_fm hTH z49 g54 rh0 rfl
        have hF := FM.tr hF g54 rfl
        exact e_I E hW rfl ⟨⟨_, rfl, trivial⟩, hF, (by rw [mR]; exact z57), z58⟩ dX12_field_64
      · have q59 : 0 ≤ u1.toInt ∧ u1.toInt ≤ 7 := by omega
        clear p47
        refine lv_iload hx hb dX12_field_43 (lv_at hl 4 rfl) ?_
        refine lv_iconst (v := (-1)) hx hb dX12_field_45 (by decide) ?_
        refine q_icmp_eq (Y := -1) (tgt := 65) hx hb dX12_field_46 (by decide) rfl rfl (fun c60 => ?_) (fun c60 => ?_)
        · refine lv_iload hx hb dX12_field_65 (lv_at hl 4 rfl) ?_
          refine lv_iconst (v := (-1)) hx hb dX12_field_67 (by decide) ?_
          refine q_icmp_eq (Y := -1) (tgt := 93) hx hb dX12_field_68 (by decide) rfl rfl (fun c61 => ?_) (fun c61 => ?_)
          · refine lv_aload_n hx hb dX12_field_93 rfl (lv_at hl 0 rfl) ?_
            refine fg_RX12_8 E hW rh0 dX12_field_94 (fun a62 m63 r64 => ?_)
            obtain rfl : pR = a62 := (((fm_R g45 rh0 rfl).trans ((fm_R g35 rh0 rfl).trans ((fm_R g13 rh0 rfl).trans ((fm_R g4 rh0 rfl).trans mR))))).symm.trans m63
            refine lv_iconst (v := 2) hx hb dX12_field_97 (by decide) ?_
            refine gl_822 E hW rR (by decide) dX12_field_98 (fun y65 m66 b67 => ?_)
            have b68 := rr_2 (show RowInv _ from b67) m66 (by decide)
            refine lv_bipush (v := 40) hx hb dX12_field_99 (by decide) ?_
            refine q_icmp_ne (Y := 40) (tgt := 111) hx hb dX12_field_101 (by decide) rfl rfl (fun c69 => ?_) (fun c69 => ?_)
            · refine lv_aload_n hx hb dX12_field_111 rfl (lv_at hl 0 rfl) ?_
              refine fg_RX12_8 E hW rh0 dX12_field_112 (fun a70 m71 r72 => ?_)
              obtain rfl : pR = a70 := (m63).symm.trans m71
              refine lv_iconst (v := 2) hx hb dX12_field_115 (by decide) ?_
              refine gl_822 E hW rR (by decide) dX12_field_116 (fun y73 m74 b75 => ?_)
              obtain rfl : y65 = y73 := (m66).symm.trans m74
              have hW0 := hW.2.2.2
              refine t_callS (As := [.int y65]) (rest := []) E hW (c_X12_fieldAt l G cI cJ cZ cD cR cT kp L f43 hW.2.2.2 _ y65 (by omega)) wk_X12_fieldAt tw_1624 rfl ⟨Nat.le_of_ble_eq_true rfl, Nat.le_of_ble_eq_true rfl⟩ ⟨rfl, rfl⟩ hl.1 rfl (Nat.le_of_ble_eq_true rfl) dX12_field_117 ⟨Nat.le_of_ble_eq_true rfl, Nat.le_of_ble_eq_true rfl⟩ (fun v76 f77 H locs q78 hW => ?_)
              obtain ⟨⟨x80, rfl, p81⟩, g79⟩ := q78
              have z82 : RP (aI (f77 pR)) 0 = RP (aI (f0 pR)) 0 := rp_fm z48 g79 rR rfl
              have z83 : RF rw_X12_field_u f0 f77 h0 := rf_fm hTH z49 g79 rh0 rfl
              have hF := FM.tr hF g79 rfl
              refine lv_istore (lv' := [(5, .int x80), (0, .ref h0), (1, .int u1), (2, .int u2), (3, .int u3), (4, .int u4)]) hx hb dX12_field_120 hl (by decide) rfl (fun ls hl => ?_)
              refine lv_aload_n hx hb dX12_field_122 rfl (lv_at hl 1 rfl) ?_
              refine lv_iload hx hb dX12_field_123 (lv_at hl 0 rfl) ?_
              refine lv_iload_n hx hb dX12_field_125 rfl (lv_at hl 2 rfl) ?_
              refine lv_iload_n hx hb dX12_field_126 rfl (lv_at hl 3 rfl) ?_
              refine lv_iload_n hx hb dX12_field_127 rfl (lv_at hl 4 rfl) ?_
              refine lv_iload hx hb dX12_field_128 (lv_at hl 5 rfl) ?_
              have hW0 := hW.2.2.2
              refine t_callV (As := [.int x80, .int u1, .int u2, .int u3, .int u4]) (rest := []) E hW (c_X12_addFour l G cI cJ cZ cD cR cT kp L f77 hW.2.2.2 _ h0 x80 u1 u2 u3 u4 rh0 (by omega) (by omega) (by omega) (by omega) ⟨by omega, by omega, by unfold rbI; omega, by unfold rbI; omega, by unfold rbI; omega, by unfold rbI; omega⟩) rh0 (by decide) rfl wk_X12_addFour tw_1575 rfl ⟨Nat.le_of_ble_eq_true rfl, Nat.le_of_ble_eq_true rfl⟩ ⟨rfl, rfl⟩ hl.1 rfl (Nat.le_of_ble_eq_true rfl) dX12_field_130 ⟨Nat.le_of_ble_eq_true rfl, Nat.le_of_ble_eq_true rfl⟩ (fun v84 f85 H locs q86 hW => ?_)
              obtain ⟨rfl, g87, h88, h89⟩ := q86
              have z91 : RF rw_X12_field_u f0 f85 h0 := rf_call z83 h89 mR ((fm_R g79 rh0 rfl).trans m71) rfl
              have hF := FM.tr hF g87 rfl
              have h93 := h88
              rw [((fm_R g79 rh0 rfl).trans m71)] at h93
              have z92 : RP (aI (f85 pR)) 0 = RP (aI (f0 pR)) 0 := rp_four z82 h93 (by omega)
              have m94 : aI (f85 pR) (2 : Int32).toNatClampNeg = y65 := by
                have z := h88
                rw [((fm_R g79 rh0 rfl).trans m71)] at z
                have z2 := tnc (i := 2) (by first | omega | decide)
                have hk : (2 : Int32).toInt = 2 := rfl
                exact (z _ (by omega)).trans ((congrArg (fun z => aI z (2 : Int32).toNatClampNeg) (fm_A g79 rR (by decide) rfl)).trans m74)
              refine lv_aload_n hx hb dX12_field_133 rfl (lv_at hl 1 rfl) ?_
              refine lv_iload hx hb dX12_field_134 (lv_at hl 0 rfl) ?_
              refine lv_iconst (v := 4) hx hb dX12_field_136 (by decide) ?_
              refine q_iadd (Y := 4) hx hb dX12_field_137 rfl rfl (by omega) (fun x95 h96 => ?_)
              refine lv_iconst (v := 0) hx hb dX12_field_138 (by decide) ?_
              refine lv_iconst (v := 0) hx hb dX12_field_139 (by decide) ?_
              refine lv_iconst (v := 0) hx hb dX12_field_140 (by decide) ?_
              refine lv_iconst (v := 0) hx hb dX12_field_141 (by decide) ?_
              have hk97 : (0 : Int32).toInt = 0 := rfl
              have hk98 : (0 : Int32).toInt = 0 := rfl
              have hk99 : (0 : Int32).toInt = 0 := rfl
              have hk100 : (0 : Int32).toInt = 0 := rfl
              have hW0 := hW.2.2.2
              refine t_callV (As := [.int x95, .int 0, .int 0, .int 0, .int 0]) (rest := []) E hW (c_X12_addFour l G cI cJ cZ cD cR cT kp L f85 hW.2.2.2 _ h0 x95 0 0 0 0 rh0 (by omega) (by decide) (by decide) (by decide) ⟨by omega, by omega, by unfold rbI; omega, by unfold rbI; omega, by unfold rbI; omega, by unfold rbI; omega⟩) rh0 (by decide) rfl wk_X12_addFour tw_1575 rfl ⟨Nat.le_of_ble_eq_true rfl, Nat.le_of_ble_eq_true rfl⟩ ⟨rfl, rfl⟩ hl.1 rfl (Nat.le_of_ble_eq_true rfl) dX12_field_142 ⟨Nat.le_of_ble_eq_true rfl, Nat.le_of_ble_eq_true rfl⟩ (fun v101 f102 H locs q103 hW => ?_)
              obtain ⟨rfl, g104, h105, h106⟩ := q103
              have z108 : RF rw_X12_field_u f0 f102 h0 := rf_call z91 h106 mR ((fm_R g87 rh0 rfl).trans ((fm_R g79 rh0 rfl).trans m71)) rfl
              have hF := FM.tr hF g104 rfl
              have h110 := h105
              rw [((fm_R g87 rh0 rfl).trans ((fm_R g79 rh0 rfl).trans m71))] at h110
              have z109 : RP (aI (f102 pR)) 0 = RP (aI (f0 pR)) 0 := rp_four z92 h110 (by omega)
              have m111 : aI (f102 pR) (2 : Int32).toNatClampNeg = y65 := by
                have z := h105
                rw [((fm_R g87 rh0 rfl).trans ((fm_R g79 rh0 rfl).trans m71))] at z
                have z2 := tnc (i := 2) (by first | omega | decide)
                have hk : (2 : Int32).toInt = 2 := rfl
                exact (z _ (by omega)).trans m94
              refine lv_iload hx hb dX12_field_145 (lv_at hl 5 rfl) ?_
              refine lv_iconst (v := (-1)) hx hb dX12_field_147 (by decide) ?_
              refine q_icmp_eq (Y := -1) (tgt := 165) hx hb dX12_field_148 (by decide) rfl rfl (fun c112 => ?_) (fun c112 => ?_)
              · refine lv_aload_n hx hb dX12_field_165 rfl (lv_at hl 1 rfl) ?_
                refine fg_RX12_8 E hW rh0 dX12_field_166 (fun a113 m114 r115 => ?_)
                obtain rfl : pR = a113 := (((fm_R g104 rh0 rfl).trans ((fm_R g87 rh0 rfl).trans ((fm_R g79 rh0 rfl).trans m71)))).symm.trans m114
                refine lv_iconst (v := 2) hx hb dX12_field_169 (by decide) ?_
                refine lv_dup2_11 hx hb dX12_field_170 rfl rfl ?_
                refine gl_822 E hW rR (by decide) dX12_field_171 (fun y116 m117 b118 => ?_)
                obtain rfl : y65 = y116 := (m111).symm.trans m117
                refine lv_iconst (v := 1) hx hb dX12_field_172 (by decide) ?_
                refine q_iadd (Y := 1) hx hb dX12_field_173 rfl rfl (by omega) (fun x119 h120 => ?_)
                have hk121 : (2 : Int32).toInt = 2 := rfl
                have hW0 := hW.2.2.2
                refine gs_822 E hW rR (by decide) (fun hc => rr_up hc (by omega) (by omega) (by unfold rbI; omega)) dX12_field_174 (fun f122 H locs e123 n124 g125 hW => ?_)
                have m126 : oI (f122 h0) 0 = 0 := ((fm_I g125 rh0 rfl).trans ((fm_I g104 rh0 rfl).trans ((fm_I g87 rh0 rfl).trans ((fm_I g79 rh0 rfl).trans ((fm_I g45 rh0 rfl).trans ((fm_I g35 rh0 rfl).trans ((fm_I g13 rh0 rfl).trans e2)))))))
                have hk128 : (2 : Int32).toInt = 2 := rfl
                have z127 : RP (aI (f122 pR)) 0 = RP (aI (f0 pR)) 0 := rp_st z109 e123 (by omega) (by omega)
                have z129 : RF rw_X12_field_u f0 f122 h0 := rf_st (lo := 2) (hi := 2) z108 mR e123 (by decide) rfl
                have hF := FM.tr hF g125 rfl
                refine lv_aload_n hx hb dX12_field_175 rfl (lv_at hl 1 rfl) ?_
                refine lv_aload_n hx hb dX12_field_176 rfl (lv_at hl 1 rfl) ?_
                refine fg_RX12_8 E hW rh0 dX12_field_177 (fun a130 m131 r132 => ?_)
                obtain rfl : pR = a130 := (((fm_R g125 rh0 rfl).trans m114)).symm.trans m131
                refine lv_iconst (v := 2) hx hb dX12_field_180 (by decide) ?_
                refine gl_822 E hW rR (by decide) dX12_field_181 (fun y133 m134 b135 => ?_)
                obtain rfl : x119 = y133 := ((show aI (f122 pR) (2 : Int32).toNatClampNeg = x119 from by rw [e123]; exact up_s)).symm.trans m134
                refine lv_iconst (v := 1) hx hb dX12_field_182 (by decide) ?_
                refine q_isub (Y := 1) hx hb dX12_field_183 rfl rfl (by omega) (fun x136 h137 => ?_)
                have hW0 := hW.2.2.2
                refine t_callV (As := [.int x136]) (rest := []) E hW (c_X12_told_x l G cI cJ cZ cD cR cT kp L f122 hW.2.2.2 _ h0 x136 rh0) rh0 (by decide) rfl wk_X12_told tw_1557 rfl ⟨Nat.le_of_ble_eq_true rfl, Nat.le_of_ble_eq_true rfl⟩ ⟨rfl, rfl⟩ hl.1 rfl (Nat.le_of_ble_eq_true rfl) dX12_field_184 ⟨Nat.le_of_ble_eq_true rfl, Nat.le_of_ble_eq_true rfl⟩ (fun v138 f139 H locs q140 hW => ?_)
                obtain ⟨⟨x142, rfl, p143⟩, g141⟩ := q140
                have z144 : RP (aI (f139 pR)) 0 = RP (aI (f0 pR)) 0 := rp_fm z127 g141 rR rfl
                have z145 : RF rw_X12_field_u f0 f139 h0 := rf_fm hTH z129 g141 rh0 rfl
                have hF := FM.tr hF g141 rfl
                exact e_I E hW rfl ⟨⟨_, rfl, trivial⟩, hF, (by rw [mR]; exact z144), z145⟩ dX12_field_187
              · exfalso; omega
            · refine lv_aload_n hx hb dX12_field_104 rfl (lv_at hl 0 rfl) ?_
              refine lv_bipush (v := (-5)) hx hb dX12_field_105 (by decide) ?_
              have hW0 := hW.2.2.2
              refine t_callV (As := [.int (-5)]) (rest := []) E hW (c_X12_told_x l G cI cJ cZ cD cR cT kp L f43 hW.2.2.2 _ h0 (-5) rh0) rh0 (by decide) rfl wk_X12_told tw_1557 rfl ⟨Nat.le_of_ble_eq_true rfl, Nat.le_of_ble_eq_true rfl⟩ ⟨rfl, rfl⟩ hl.1 rfl (Nat.le_of_ble_eq_true rfl) dX12_field_107 ⟨Nat.le_of_ble_eq_true rfl, Nat.le_of_ble_eq_true rfl⟩ (fun v146 f147 H locs q148 hW => ?_)
              obtain ⟨⟨x150, rfl, p151⟩, g149⟩ := q148
              have p151 : x150.toInt = (-5 : Int) := p151
              have z152 : RP (aI (f147 pR)) 0 = RP (aI (f0 pR)) 0 := rp_fm z48 g149 rR rfl
              have z153 : RF rw_X12_field_u f0 f147 h0 := rf_fm hTH z49 g149 rh0 rfl
              have hF := FM.tr hF g149 rfl
              exact e_I E hW rfl ⟨⟨_, rfl, trivial⟩, hF, (by rw [mR]; exact z152), z153⟩ dX12_field_110
          · exfalso; omega
        · refine lv_aload_n hx hb dX12_field_49 rfl (lv_at hl 0 rfl) ?_
          refine lv_iload hx hb dX12_field_50 (lv_at hl 4 rfl) ?_
          have hW0 := hW.2.2.2
          refine t_callV (As := [.int u4]) (rest := []) E hW (c_X12_isPerson l G cI cJ cZ cD cR cT kp L f43 hW.2.2.2 _ h0 u4 rh0) rh0 (by decide) rfl wk_X12_isPerson tw_1583 rfl ⟨Nat.le_of_ble_eq_true rfl, Nat.le_of_ble_eq_true rfl⟩ ⟨rfl, rfl⟩ hl.1 rfl (Nat.le_of_ble_eq_true rfl) dX12_field_52 ⟨Nat.le_of_ble_eq_true rfl, Nat.le_of_ble_eq_true rfl⟩ (fun v154 f155 H locs q156 hW => ?_)
          obtain ⟨⟨x158, rfl, p159⟩, g157⟩ := q156
          have z160 : RP (aI (f155 pR)) 0 = RP (aI (f0 pR)) 0 := rp_fm z48 g157 rR rfl
          have z161 : RF rw_X12_field_u f0 f155 h0 := rf_fm hTH z49 g157 rh0 rfl
          have hF := FM.tr hF g157 rfl
          refine q_if_ne (tgt := 65) hx hb dX12_field_55 (by decide) rfl (fun c162 => ?_) (fun c162 => ?_)
          · have q163 : 0 ≤ u4.toInt ∧ u4.toInt ≤ 39 := by omega
            clear p159
            refine lv_iload hx hb dX12_field_65 (lv_at hl 4 rfl) ?_
            refine lv_iconst (v := (-1)) hx hb dX12_field_67 (by decide) ?_
            refine q_icmp_eq (Y := -1) (tgt := 93) hx hb dX12_field_68 (by decide) rfl rfl (fun c164 => ?_) (fun c164 => ?_)
            · exfalso; omega
            · refine lv_aload_n hx hb dX12_field_71 rfl (lv_at hl 0 rfl) ?_
              refine fg_RX12_8 E hW rh0 dX12_field_72 (fun a165 m166 r167 => ?_)
              obtain rfl : pR = a165 := (((fm_R g157 rh0 rfl).trans ((fm_R g45 rh0 rfl).trans ((fm_R g35 rh0 rfl).trans ((fm_R g13 rh0 rfl).trans ((fm_R g4 rh0 rfl).trans mR)))))).symm.trans m166
              refine lv_iload hx hb dX12_field_75 (lv_at hl 4 rfl) ?_
              have hW0 := hW.2.2.2
              refine t_callS (As := [.int u4]) (rest := [.ref pR]) E hW (c_X12_personAt l G cI cJ cZ cD cR cT kp L f155 hW.2.2.2 _ u4 (by omega)) wk_X12_personAt tw_1572 rfl ⟨Nat.le_of_ble_eq_true rfl, Nat.le_of_ble_eq_true rfl⟩ ⟨rfl, rfl⟩ hl.1 rfl (Nat.le_of_ble_eq_true rfl) dX12_field_77 ⟨Nat.le_of_ble_eq_true rfl, Nat.le_of_ble_eq_true rfl⟩ (fun v168 f169 H locs q170 hW => ?_)
              obtain ⟨⟨x172, rfl, p173⟩, g171⟩ := q170
              have z174 : RP (aI (f169 pR)) 0 = RP (aI (f0 pR)) 0 := rp_fm z160 g171 rR rfl
              have z175 : RF rw_X12_field_u f0 f169 h0 := rf_fm hTH z161 g171 rh0 rfl
              have hF := FM.tr hF g171 rfl
              refine lv_iconst (v := 5) hx hb dX12_field_80 (by decide) ?_
              refine q_iadd (Y := 5) hx hb dX12_field_81 rfl rfl (by omega) (fun x176 h177 => ?_)
              refine gl_822 E hW rR ⟨by omega, by omega⟩ dX12_field_82 (fun y178 m179 b180 => ?_)
              refine q_if_eq (tgt := 93) hx hb dX12_field_83 (by decide) rfl (fun c181 => ?_) (fun c181 => ?_)
              · refine lv_aload_n hx hb dX12_field_93 rfl (lv_at hl 0 rfl) ?_
                refine fg_RX12_8 E hW rh0 dX12_field_94 (fun a182 m183 r184 => ?_)
                obtain rfl : pR = a182 := (((fm_R g171 rh0 rfl).trans m166)).symm.trans m183
                refine lv_iconst (v := 2) hx hb dX12_field_97 (by decide) ?_
                refine gl_822 E hW rR (by decide) dX12_field_98 (fun y185 m186 b187 => ?_)
                have b188 := rr_2 (show RowInv _ from b187) m186 (by decide)
                refine lv_bipush (v := 40) hx hb dX12_field_99 (by decide) ?_
                refine q_icmp_ne (Y := 40) (tgt := 111) hx hb dX12_field_101 (by decide) rfl rfl (fun c189 => ?_) (fun c189 => ?_)
                · refine lv_aload_n hx hb dX12_field_111 rfl (lv_at hl 0 rfl) ?_
                  refine fg_RX12_8 E hW rh0 dX12_field_112 (fun a190 m191 r192 => ?_)
                  obtain rfl : pR = a190 := (m183).symm.trans m191
                  refine lv_iconst (v := 2) hx hb dX12_field_115 (by decide) ?_
                  refine gl_822 E hW rR (by decide) dX12_field_116 (fun y193 m194 b195 => ?_)
                  obtain rfl : y185 = y193 := (m186).symm.trans m194
                  have hW0 := hW.2.2.2
                  refine t_callS (As := [.int y185]) (rest := []) E hW (c_X12_fieldAt l G cI cJ cZ cD cR cT kp L f169 hW.2.2.2 _ y185 (by omega)) wk_X12_fieldAt tw_1624 rfl ⟨Nat.le_of_ble_eq_true rfl, Nat.le_of_ble_eq_true rfl⟩ ⟨rfl, rfl⟩ hl.1 rfl (Nat.le_of_ble_eq_true rfl) dX12_field_117 ⟨Nat.le_of_ble_eq_true rfl, Nat.le_of_ble_eq_true rfl⟩ (fun v196 f197 H locs q198 hW => ?_)
                  obtain ⟨⟨x200, rfl, p201⟩, g199⟩ := q198
                  have z202 : RP (aI (f197 pR)) 0 = RP (aI (f0 pR)) 0 := rp_fm z174 g199 rR rfl
                  have z203 : RF rw_X12_field_u f0 f197 h0 := rf_fm hTH z175 g199 rh0 rfl
                  have hF := FM.tr hF g199 rfl
                  refine lv_istore (lv' := [(5, .int x200), (0, .ref h0), (1, .int u1), (2, .int u2), (3, .int u3), (4, .int u4)]) hx hb dX12_field_120 hl (by decide) rfl (fun ls hl => ?_)
                  refine lv_aload_n hx hb dX12_field_122 rfl (lv_at hl 1 rfl) ?_
                  refine lv_iload hx hb dX12_field_123 (lv_at hl 0 rfl) ?_
                  refine lv_iload_n hx hb dX12_field_125 rfl (lv_at hl 2 rfl) ?_
                  refine lv_iload_n hx hb dX12_field_126 rfl (lv_at hl 3 rfl) ?_
                  refine lv_iload_n hx hb dX12_field_127 rfl (lv_at hl 4 rfl) ?_
                  refine lv_iload hx hb dX12_field_128 (lv_at hl 5 rfl) ?_
                  have hW0 := hW.2.2.2
                  refine t_callV (As := [.int x200, .int u1, .int u2, .int u3, .int u4]) (rest := []) E hW (c_X12_addFour l G cI cJ cZ cD cR cT kp L f197 hW.2.2.2 _ h0 x200 u1 u2 u3 u4 rh0 (by omega) (by omega) (by omega) (by omega) ⟨by omega, by omega, by unfold rbI; omega, by unfold rbI; omega, by unfold rbI; omega, by unfold rbI; omega⟩) rh0 (by decide) rfl wk_X12_addFour tw_1575 rfl ⟨Nat.le_of_ble_eq_true rfl, Nat.le_of_ble_eq_true rfl⟩ ⟨rfl, rfl⟩ hl.1 rfl (Nat.le_of_ble_eq_true rfl) dX12_field_130 ⟨Nat.le_of_ble_eq_true rfl, Nat.le_of_ble_eq_true rfl⟩ (fun v204 f205 H locs q206 hW => ?_)
                  obtain ⟨rfl, g207, h208, h209⟩ := q206
                  have m210 : oI (f205 h0) 0 = 0 := ((fm_I g207 rh0 rfl).trans ((fm_I g199 rh0 rfl).trans ((fm_I g171 rh0 rfl).trans ((fm_I g157 rh0 rfl).trans ((fm_I g45 rh0 rfl).trans ((fm_I g35 rh0 rfl).trans ((fm_I g13 rh0 rfl).trans e2)))))))
                  have z212 : RF rw_X12_field_u f0 f205 h0 := rf_call z203 h209 mR ((fm_R g199 rh0 rfl).trans m191) rfl
                  have hF := FM.tr hF g207 rfl
                  have h214 := h208
                  rw [((fm_R g199 rh0 rfl).trans m191)] at h214
                  have z213 : RP (aI (f205 pR)) 0 = RP (aI (f0 pR)) 0 := rp_four z202 h214 (by omega)
                  have m215 : aI (f205 pR) (x176 : Int32).toNatClampNeg = y178 := by
                    have z := h208
                    rw [((fm_R g199 rh0 rfl).trans m191)] at z
                    have z2 := tnc (i := x176) (by first | omega | decide)
                    have hk : (x176 : Int32).toInt = x176.toInt := rfl
                    exact (z _ (by omega)).trans ((congrArg (fun z => aI z (x176 : Int32).toNatClampNeg) (fm_A g199 rR (by decide) rfl)).trans m179)
                  have m216 : aI (f205 pR) (2 : Int32).toNatClampNeg = y185 := by
                    have z := h208
                    rw [((fm_R g199 rh0 rfl).trans m191)] at z
                    have z2 := tnc (i := 2) (by first | omega | decide)
                    have hk : (2 : Int32).toInt = 2 := rfl
                    exact (z _ (by omega)).trans ((congrArg (fun z => aI z (2 : Int32).toNatClampNeg) (fm_A g199 rR (by decide) rfl)).trans m194)
                  refine lv_aload_n hx hb dX12_field_133 rfl (lv_at hl 1 rfl) ?_
                  refine lv_iload hx hb dX12_field_134 (lv_at hl 0 rfl) ?_
                  refine lv_iconst (v := 4) hx hb dX12_field_136 (by decide) ?_
                  refine q_iadd (Y := 4) hx hb dX12_field_137 rfl rfl (by omega) (fun x217 h218 => ?_)
                  refine lv_iconst (v := 0) hx hb dX12_field_138 (by decide) ?_
                  refine lv_iconst (v := 0) hx hb dX12_field_139 (by decide) ?_
                  refine lv_iconst (v := 0) hx hb dX12_field_140 (by decide) ?_
                  refine lv_iconst (v := 0) hx hb dX12_field_141 (by decide) ?_
                  have hk219 : (0 : Int32).toInt = 0 := rfl
                  have hk220 : (0 : Int32).toInt = 0 := rfl
                  have hk221 : (0 : Int32).toInt = 0 := rfl
                  have hk222 : (0 : Int32).toInt = 0 := rfl
                  have hW0 := hW.2.2.2
                  refine t_callV (As := [.int x217, .int 0, .int 0, .int 0, .int 0]) (rest := []) E hW (c_X12_addFour l G cI cJ cZ cD cR cT kp L f205 hW.2.2.2 _ h0 x217 0 0 0 0 rh0 (by omega) (by decide) (by decide) (by decide) ⟨by omega, by omega, by unfold rbI; omega, by unfold rbI; omega, by unfold rbI; omega, by unfold rbI; omega⟩) rh0 (by decide) rfl wk_X12_addFour tw_1575 rfl ⟨Nat.le_of_ble_eq_true rfl, Nat.le_of_ble_eq_true rfl⟩ ⟨rfl, rfl⟩ hl.1 rfl (Nat.le_of_ble_eq_true rfl) dX12_field_142 ⟨Nat.le_of_ble_eq_true rfl, Nat.le_of_ble_eq_true rfl⟩ (fun v223 f224 H locs q225 hW => ?_)
                  obtain ⟨rfl, g226, h227, h228⟩ := q225
                  have z230 : RF rw_X12_field_u f0 f224 h0 := rf_call z212 h228 mR ((fm_R g207 rh0 rfl).trans ((fm_R g199 rh0 rfl).trans m191)) rfl
                  have hF := FM.tr hF g226 rfl
                  have h232 := h227
                  rw [((fm_R g207 rh0 rfl).trans ((fm_R g199 rh0 rfl).trans m191))] at h232
                  have z231 : RP (aI (f224 pR)) 0 = RP (aI (f0 pR)) 0 := rp_four z213 h232 (by omega)
                  have m233 : aI (f224 pR) (2 : Int32).toNatClampNeg = y185 := by
                    have z := h227
                    rw [((fm_R g207 rh0 rfl).trans ((fm_R g199 rh0 rfl).trans m191))] at z
                    have z2 := tnc (i := 2) (by first | omega | decide)
                    have hk : (2 : Int32).toInt = 2 := rfl
                    exact (z _ (by omega)).trans m216
                  have m234 : aI (f224 pR) (x176 : Int32).toNatClampNeg = y178 := by
                    have z := h227
                    rw [((fm_R g207 rh0 rfl).trans ((fm_R g199 rh0 rfl).trans m191))] at z
                    have z2 := tnc (i := x176) (by first | omega | decide)
                    have hk : (x176 : Int32).toInt = x176.toInt := rfl
                    exact (z _ (by omega)).trans m215
                  refine lv_iload hx hb dX12_field_145 (lv_at hl 5 rfl) ?_
                  refine lv_iconst (v := (-1)) hx hb dX12_field_147 (by decide) ?_
                  refine q_icmp_eq (Y := -1) (tgt := 165) hx hb dX12_field_148 (by decide) rfl rfl (fun c255 => ?_) (fun c255 => ?_)
                  · exfalso; omega
                  · refine lv_aload_n hx hb dX12_field_151 rfl (lv_at hl 1 rfl) ?_
                    refine fg_RX12_8 E hW rh0 dX12_field_152 (fun a256 m257 r258 => ?_)
                    obtain rfl : pR = a256 := (((fm_R g226 rh0 rfl).trans ((fm_R g207 rh0 rfl).trans ((fm_R g199 rh0 rfl).trans m191)))).symm.trans m257
                    refine lv_iload hx hb dX12_field_155 (lv_at hl 5 rfl) ?_
                    have hW0 := hW.2.2.2
                    refine t_callS (As := [.int u4]) (rest := [.ref pR]) E hW (c_X12_personAt l G cI cJ cZ cD cR cT kp L f224 hW.2.2.2 _ u4 (by omega)) wk_X12_personAt tw_1572 rfl ⟨Nat.le_of_ble_eq_true rfl, Nat.le_of_ble_eq_true rfl⟩ ⟨rfl, rfl⟩ hl.1 rfl (Nat.le_of_ble_eq_true rfl) dX12_field_157 ⟨Nat.le_of_ble_eq_true rfl, Nat.le_of_ble_eq_true rfl⟩ (fun v259 f260 H locs q261 hW => ?_)
                    obtain ⟨⟨x263, rfl, p264⟩, g262⟩ := q261
                    have z265 : RP (aI (f260 pR)) 0 = RP (aI (f0 pR)) 0 := rp_fm z231 g262 rR rfl
                    have z266 : RF rw_X12_field_u f0 f260 h0 := rf_fm hTH z230 g262 rh0 rfl
                    have hF := FM.tr hF g262 rfl
                    refine lv_bipush (v := 7) hx hb dX12_field_160 (by decide) ?_
                    refine q_iadd (Y := 7) hx hb dX12_field_162 rfl rfl (by omega) (fun x267 h268 => ?_)
                    refine lv_iconst (v := (-1)) hx hb dX12_field_163 (by decide) ?_
                    have hk269 : ((-1) : Int32).toInt = -1 := rfl
                    have hW0 := hW.2.2.2
                    refine gs_822 E hW rR ⟨by omega, by omega⟩ (fun hc => rr_up hc (by omega) (by omega) (by unfold rbI; omega)) dX12_field_164 (fun f270 H locs e271 n272 g273 hW => ?_)
                    have hk275 : ((-1) : Int32).toInt = -1 := rfl
                    have z274 : RP (aI (f270 pR)) 0 = RP (aI (f0 pR)) 0 := rp_st z265 e271 (by omega) (by omega)
                    have z276 : RF rw_X12_field_u f0 f270 h0 := rf_st (lo := 27) (hi := 339) z266 mR e271 (by omega) rfl
                    have hF := FM.tr hF g273 rfl
                    refine lv_aload_n hx hb dX12_field_165 rfl (lv_at hl 1 rfl) ?_
                    refine fg_RX12_8 E hW rh0 dX12_field_166 (fun a277 m278 r279 => ?_)
                    obtain rfl : pR = a277 := (((fm_R g273 rh0 rfl).trans ((fm_R g262 rh0 rfl).trans m257))).symm.trans m278
                    refine lv_iconst (v := 2) hx hb dX12_field_169 (by decide) ?_
                    refine lv_dup2_11 hx hb dX12_field_170 rfl rfl ?_
                    refine gl_822 E hW rR (by decide) dX12_field_171 (fun y280 m281 b282 => ?_)
                    obtain rfl : y185 = y280 := ((show aI (f270 pR) (2 : Int32).toNatClampNeg = y185 from by rw [e271, up_n (tn_ne (by omega) (by decide) (by have hk0 : (2 : Int32).toInt = 2 := rfl; omega))]; exact ((congrArg (fun z => aI z (2 : Int32).toNatClampNeg) (fm_A g262 rR (by decide) rfl)).trans m233))).symm.trans m281
                    refine lv_iconst (v := 1) hx hb dX12_field_172 (by decide) ?_
                    refine q_iadd (Y := 1) hx hb dX12_field_173 rfl rfl (by omega) (fun x283 h284 => ?_)
                    have hk285 : (2 : Int32).toInt = 2 := rfl
                    have hW0 := hW.2.2.2
                    refine gs_822 E hW rR (by decide) (fun hc => rr_up hc (by omega) (by omega) (by unfold rbI; omega)) dX12_field_174 (fun f286 H locs e287 n288 g289 hW => ?_)
                    have hk291 : (2 : Int32).toInt = 2 := rfl
                    have z290 : RP (aI (f286 pR)) 0 = RP (aI (f0 pR)) 0 := rp_st z274 e287 (by omega) (by omega)
                    have z292 : RF rw_X12_field_u f0 f286 h0 := rf_st (lo := 2) (hi := 2) z276 mR e287 (by decide) rfl
                    have hF := FM.tr hF g289 rfl
                    refine lv_aload_n hx hb dX12_field_175 rfl (lv_at hl 1 rfl) ?_
                    refine lv_aload_n hx hb dX12_field_176 rfl (lv_at hl 1 rfl) ?_
                    refine fg_RX12_8 E hW rh0 dX12_field_177 (fun a293 m294 r295 => ?_)
                    obtain rfl : pR = a293 := (((fm_R g289 rh0 rfl).trans m278)).symm.trans m294
                    refine lv_iconst (v := 2) hx hb dX12_field_180 (by decide) ?_
                    refine gl_822 E hW rR (by decide) dX12_field_181 (fun y296 m297 b298 => ?_)
                    obtain rfl : x283 = y296 := ((show aI (f286 pR) (2 : Int32).toNatClampNeg = x283 from by rw [e287]; exact up_s)).symm.trans m297
                    refine lv_iconst (v := 1) hx hb dX12_field_182 (by decide) ?_
                    refine q_isub (Y := 1) hx hb dX12_field_183 rfl rfl (by omega) (fun x299 h300 => ?_)
                    have hW0 := hW.2.2.2
                    refine t_callV (As := [.int x299]) (rest := []) E hW (c_X12_told_x l G cI cJ cZ cD cR cT kp L f286 hW.2.2.2 _ h0 x299 rh0) rh0 (by decide) rfl wk_X12_told tw_1557 rfl ⟨Nat.le_of_ble_eq_true rfl, Nat.le_of_ble_eq_true rfl⟩ ⟨rfl, rfl⟩ hl.1 rfl (Nat.le_of_ble_eq_true rfl) dX12_field_184 ⟨Nat.le_of_ble_eq_true rfl, Nat.le_of_ble_eq_true rfl⟩ (fun v301 f302 H locs q303 hW => ?_)
                    obtain ⟨⟨x305, rfl, p306⟩, g304⟩ := q303
                    have m307 : aI (f302 pR) (x176 : Int32).toNatClampNeg = y178 := ((congrArg (fun z => aI z (x176 : Int32).toNatClampNeg) (fm_A g304 rR (by decide) rfl)).trans (show aI (f286 pR) (x176 : Int32).toNatClampNeg = y178 from by rw [e287, up_n (tn_ne (by decide) (by omega) (by have hk0 : (2 : Int32).toInt = 2 := rfl; omega))]; exact (show aI (f270 pR) (x176 : Int32).toNatClampNeg = y178 from by rw [e271, up_n (tn_ne (by omega) (by omega) (by omega))]; exact ((congrArg (fun z => aI z (x176 : Int32).toNatClampNeg) (fm_A g262 rR (by decide) rfl)).trans m234))))
                    have m308 : aI (f302 pR) (x267 : Int32).toNatClampNeg = (-1) := ((congrArg (fun z => aI z (x267 : Int32).toNatClampNeg) (fm_A g304 rR (by decide) rfl)).trans (show aI (f286 pR) (x267 : Int32).toNatClampNeg = (-1) from by rw [e287, up_n (tn_ne (by decide) (by omega) (by have hk0 : (2 : Int32).toInt = 2 := rfl; omega))]; exact (show aI (f270 pR) (x267 : Int32).toNatClampNeg = (-1) from by rw [e271]; exact up_s)))
                    have z309 : RP (aI (f302 pR)) 0 = RP (aI (f0 pR)) 0 := rp_fm z290 g304 rR rfl
                    have z310 : RF rw_X12_field_u f0 f302 h0 := rf_fm hTH z292 g304 rh0 rfl
                    have hF := FM.tr hF g304 rfl
                    exact e_I E hW rfl ⟨⟨_, rfl, trivial⟩, hF, (by rw [mR]; exact z309), z310⟩ dX12_field_187
                · refine lv_aload_n hx hb dX12_field_104 rfl (lv_at hl 0 rfl) ?_
                  refine lv_bipush (v := (-5)) hx hb dX12_field_105 (by decide) ?_
                  have hW0 := hW.2.2.2
                  refine t_callV (As := [.int (-5)]) (rest := []) E hW (c_X12_told_x l G cI cJ cZ cD cR cT kp L f169 hW.2.2.2 _ h0 (-5) rh0) rh0 (by decide) rfl wk_X12_told tw_1557 rfl ⟨Nat.le_of_ble_eq_true rfl, Nat.le_of_ble_eq_true rfl⟩ ⟨rfl, rfl⟩ hl.1 rfl (Nat.le_of_ble_eq_true rfl) dX12_field_107 ⟨Nat.le_of_ble_eq_true rfl, Nat.le_of_ble_eq_true rfl⟩ (fun v311 f312 H locs q313 hW => ?_)
                  obtain ⟨⟨x315, rfl, p316⟩, g314⟩ := q313
                  have p316 : x315.toInt = (-5 : Int) := p316
                  have z317 : RP (aI (f312 pR)) 0 = RP (aI (f0 pR)) 0 := rp_fm z174 g314 rR rfl
                  have z318 : RF rw_X12_field_u f0 f312 h0 := rf_fm hTH z175 g314 rh0 rfl
                  have hF := FM.tr hF g314 rfl
                  exact e_I E hW rfl ⟨⟨_, rfl, trivial⟩, hF, (by rw [mR]; exact z317), z318⟩ dX12_field_110
              · refine lv_aload_n hx hb dX12_field_86 rfl (lv_at hl 0 rfl) ?_
                refine lv_bipush (v := (-3)) hx hb dX12_field_87 (by decide) ?_
                have hW0 := hW.2.2.2
                refine t_callV (As := [.int (-3)]) (rest := []) E hW (c_X12_told_x l G cI cJ cZ cD cR cT kp L f169 hW.2.2.2 _ h0 (-3) rh0) rh0 (by decide) rfl wk_X12_told tw_1557 rfl ⟨Nat.le_of_ble_eq_true rfl, Nat.le_of_ble_eq_true rfl⟩ ⟨rfl, rfl⟩ hl.1 rfl (Nat.le_of_ble_eq_true rfl) dX12_field_89 ⟨Nat.le_of_ble_eq_true rfl, Nat.le_of_ble_eq_true rfl⟩ (fun v319 f320 H locs q321 hW => ?_)
                obtain ⟨⟨x323, rfl, p324⟩, g322⟩ := q321
                have p324 : x323.toInt = (-3 : Int) := p324
                have z325 : RP (aI (f320 pR)) 0 = RP (aI (f0 pR)) 0 := rp_fm z174 g322 rR rfl
                have z326 : RF rw_X12_field_u f0 f320 h0 := rf_fm hTH z175 g322 rh0 rfl
                have hF := FM.tr hF g322 rfl
                exact e_I E hW rfl ⟨⟨_, rfl, trivial⟩, hF, (by rw [mR]; exact z325), z326⟩ dX12_field_92
          · clear p159
            refine lv_aload_n hx hb dX12_field_58 rfl (lv_at hl 0 rfl) ?_
            refine lv_bipush (v := (-2)) hx hb dX12_field_59 (by decide) ?_
            have hW0 := hW.2.2.2
            refine t_callV (As := [.int (-2)]) (rest := []) E hW (c_X12_told_x l G cI cJ cZ cD cR cT kp L f155 hW.2.2.2 _ h0 (-2) rh0) rh0 (by decide) rfl wk_X12_told tw_1557 rfl ⟨Nat.le_of_ble_eq_true rfl, Nat.le_of_ble_eq_true rfl⟩ ⟨rfl, rfl⟩ hl.1 rfl (Nat.le_of_ble_eq_true rfl) dX12_field_61 ⟨Nat.le_of_ble_eq_true rfl, Nat.le_of_ble_eq_true rfl⟩ (fun v327 f328 H locs q329 hW => ?_)
            obtain ⟨⟨x331, rfl, p332⟩, g330⟩ := q329
            have p332 : x331.toInt = (-2 : Int) := p332
            have z333 : RP (aI (f328 pR)) 0 = RP (aI (f0 pR)) 0 := rp_fm z160 g330 rR rfl
            have z334 : RF rw_X12_field_u f0 f328 h0 := rf_fm hTH z161 g330 rh0 rfl
            have hF := FM.tr hF g330 rfl
            exact e_I E hW rfl ⟨⟨_, rfl, trivial⟩, hF, (by rw [mR]; exact z333), z334⟩ dX12_field_64
    · have q335 : (x29.toInt < (0 : Int) ∨ (100000 : Int) < x29.toInt) := by omega
      clear p37
      refine lv_aload_n hx hb dX12_field_29 rfl (lv_at hl 0 rfl) ?_
      refine lv_iconst (v := (-1)) hx hb dX12_field_30 (by decide) ?_
      have hW0 := hW.2.2.2
      refine t_callV (As := [.int (-1)]) (rest := []) E hW (c_X12_told_x l G cI cJ cZ cD cR cT kp L f33 hW.2.2.2 _ h0 (-1) rh0) rh0 (by decide) rfl wk_X12_told tw_1557 rfl ⟨Nat.le_of_ble_eq_true rfl, Nat.le_of_ble_eq_true rfl⟩ ⟨rfl, rfl⟩ hl.1 rfl (Nat.le_of_ble_eq_true rfl) dX12_field_31 ⟨Nat.le_of_ble_eq_true rfl, Nat.le_of_ble_eq_true rfl⟩ (fun v336 f337 H locs q338 hW => ?_)
      obtain ⟨⟨x340, rfl, p341⟩, g339⟩ := q338
      have p341 : x340.toInt = (-1 : Int) := p341
      have z342 : RP (aI (f337 pR)) 0 = RP (aI (f0 pR)) 0 := rp_fm z38 g339 rR rfl
      have z343 : RF rw_X12_field_u f0 f337 h0 := rf_fm hTH z39 g339 rh0 rfl
      have hF := FM.tr hF g339 rfl
      exact e_I E hW rfl ⟨⟨_, rfl, trivial⟩, hF, (by rw [mR]; exact z342), z343⟩ dX12_field_34
def rw_X12_go_u : List (Nat × Nat) := [(4, 4), (8, 9), (13, 1043)]
def ms_X12_go_u : List (Nat × Nat) := [(12, 0), (12, 1), (12, 33), (12, 34), (12, 35), (12, 36), (12, 37), (12, 38), (822, 0), (849, 0), (850, 0), (851, 0), (852, 0), (859, 0)]
def po_X12_go_u (kp : Nat → Nat) (L : List Nat) (f0 : Nat → va_E) (h0 : Nat) (u1 : Int32) : Option Value → (Nat → va_E) → Prop := fun v f => (∃ r : Int32, v = some (.int r) ∧ (True)) ∧ FM kp L ms_X12_go_u f0 f ∧ (RP (aI (f (oR (f0 h0) 2))) 0 = RP (aI (f0 (oR (f0 h0) 2))) 0) ∧ (RF rw_X12_go_u f0 f h0)
set_option maxHeartbeats 4000000 in
set_option maxRecDepth 100000 in
theorem c_X12_go_u (l : Launch) (G : va_G) (cI cJ cZ cD cR cT : ClassId) (kp : Nat → Nat) (L : List Nat) (f0 : Nat → va_E) (hTH : TH cI cJ cZ cD cR cT kp L f0) (sz : Nat) (h0 : Nat) (u1 : Int32) (rh0 : RK kp L h0 12) (hTX : TX (aI (f0 (oR (f0 h0) 2)))) : Met l yX12_go (Cond.code yX12_go cX12_go 3 (some .int) :: wTab) ({ frames := 8, cells := 0, slots := 0, locals := 213 }) (va_Pc [.ref h0, .int u1] (PreW G (tys6 cI cJ cZ cD cR cT) (va_pl L f0) sz)) (QT (po_X12_go_u kp L f0 h0 u1) G cI cJ cZ cD cR cT (va_A (va_pl L f0) sz) kp L) 0 0 (va_A (va_pl L f0) sz) := by
  refine metT (by decide) (Nat.le_of_ble_eq_true rfl) hTH ?_
  intro p e s m below meth c A ls E hW hl
  obtain ⟨hx, hb, -, hml, hown, hts, -, -, -⟩ := id E
  have hF : FM kp L ms_X12_go_u f0 f0 := FM.rf
  have hl : lv_has ls 3 [(0, .ref h0), (1, .int u1)] := hl
  obtain ⟨pR, mR⟩ : ∃ x : Nat, oR (f0 h0) 2 = x := ⟨_, rfl⟩
  have rR : RK kp L pR 822 := by rw [← mR]; exact th_ref hTH rh0 (by decide) (by decide) rfl
  obtain ⟨p8, mp8⟩ : ∃ x : Int32, aI (f0 pR) (8 : Int32).toNatClampNeg = x := ⟨_, rfl⟩
  have hr8 : (0 : Int) ≤ p8.toInt ∧ p8.toInt ≤ 399 := rr_8 (th_row hTH rR) mp8 rfl
  rw [mR] at hTX
  refine lv_aload_n hx hb dX12_go_0 rfl (lv_at hl 0 rfl) ?_
  refine lv_iconst (v := 0) hx hb dX12_go_1 (by decide) ?_
  have hW0 := hW.2.2.2
  refine fp_RX12_82 E hW rh0 dX12_go_2 (fun f1 H locs e2 n3 g4 hW => ?_)
  have z5 : RP (aI (f1 pR)) 0 = RP (aI (f0 pR)) 0 := rp_fm (rfl : RP (aI (f0 pR)) 0 = RP (aI (f0 pR)) 0) g4 rR rfl
  have z6 : RF rw_X12_go_u f0 f1 h0 := rf_fm hTH rf_rf g4 rh0 rfl
  have hF := FM.tr hF g4 rfl
  refine lv_iload_n hx hb dX12_go_5 rfl (lv_at hl 1 rfl) ?_
  refine q_i2l hx hb dX12_go_6 rfl (fun x7 h8 => ?_)
  have hb9 : -2147483648 ≤ x7.toInt ∧ x7.toInt ≤ 2147483647 := by have := i32_b u1; omega
  refine lv_lconst (v := 1) hx hb dX12_go_7 (by decide) ?_
  refine lv_ldc2 (v := 104) hx hb hown (hts _ tw_1917) dX12_go_8 ?_
  have hW0 := hW.2.2.2
  refine t_callS (As := [.long x7, .long 1, .long 104]) (rest := []) E hW (c_X12_in l G cI cJ cZ cD cR cT kp L f1 hW.2.2.2 _ x7 1 104) wk_X12_in tw_1554 rfl ⟨Nat.le_of_ble_eq_true rfl, Nat.le_of_ble_eq_true rfl⟩ ⟨rfl, rfl⟩ hl.1 rfl (Nat.le_of_ble_eq_true rfl) dX12_go_11 ⟨Nat.le_of_ble_eq_true rfl, Nat.le_of_ble_eq_true rfl⟩ (fun v10 f11 H locs q12 hW => ?_)
  obtain ⟨⟨x14, rfl, p15⟩, g13⟩ := q12
  have p15 : (x14.toInt = 1 ∧ (1 : Int) ≤ x7.toInt ∧ x7.toInt ≤ (104 : Int)) ∨ (x14.toInt = 0 ∧ (x7.toInt < (1 : Int) ∨ (104 : Int) < x7.toInt)) := p15
  have m16 : aI (f11 pR) (8 : Int32).toNatClampNeg = p8 := ((congrArg (fun z => aI z (8 : Int32).toNatClampNeg) (fm_A g13 rR (by decide) rfl)).trans ((congrArg (fun z => aI z (8 : Int32).toNatClampNeg) (fm_A g4 rR (by decide) rfl)).trans mp8))
  have z17 : RP (aI (f11 pR)) 0 = RP (aI (f0 pR)) 0 := rp_fm z5 g13 rR rfl
  have z18 : RF rw_X12_go_u f0 f11 h0 := rf_fm hTH z6 g13 rh0 rfl
  have hF := FM.tr hF g13 rfl
  refine q_if_eq (tgt := 32) hx hb dX12_go_14 (by decide) rfl (fun c19 => ?_) (fun c19 => ?_)
  · have q20 : (x7.toInt < (1 : Int) ∨ (104 : Int) < x7.toInt) := by omega
    clear p15
    refine lv_aload_n hx hb dX12_go_32 rfl (lv_at hl 0 rfl) ?_
    refine lv_iconst (v := (-1)) hx hb dX12_go_33 (by decide) ?_
    have hW0 := hW.2.2.2
    refine t_callV (As := [.int (-1)]) (rest := []) E hW (c_X12_told_x l G cI cJ cZ cD cR cT kp L f11 hW.2.2.2 _ h0 (-1) rh0) rh0 (by decide) rfl wk_X12_told tw_1557 rfl ⟨Nat.le_of_ble_eq_true rfl, Nat.le_of_ble_eq_true rfl⟩ ⟨rfl, rfl⟩ hl.1 rfl (Nat.le_of_ble_eq_true rfl) dX12_go_34 ⟨Nat.le_of_ble_eq_true rfl, Nat.le_of_ble_eq_true rfl⟩ (fun v21 f22 H locs q23 hW => ?_)
    obtain ⟨⟨x25, rfl, p26⟩, g24⟩ := q23
    have p26 : x25.toInt = (-1 : Int) := p26
    have z27 : RP (aI (f22 pR)) 0 = RP (aI (f0 pR)) 0 := rp_fm z17 g24 rR rfl
    have z28 : RF rw_X12_go_u f0 f22 h0 := rf_fm hTH z18 g24 rh0 rfl
    have hF := FM.tr hF g24 rfl
    exact e_I E hW rfl ⟨⟨_, rfl, trivial⟩, hF, (by rw [mR]; exact z27), z28⟩ dX12_go_37
  · have q29 : (1 : Int) ≤ x7.toInt ∧ x7.toInt ≤ (104 : Int) := by omega
    clear p15
    refine lv_aload_n hx hb dX12_go_17 rfl (lv_at hl 0 rfl) ?_
    refine fg_RX12_8 E hW rh0 dX12_go_18 (fun a30 m31 r32 => ?_)
    obtain rfl : pR = a30 := (((fm_R g13 rh0 rfl).trans ((fm_R g4 rh0 rfl).trans mR))).symm.trans m31
    refine lv_bipush (v := 8) hx hb dX12_go_21 (by decide) ?_
    refine gl_822 E hW rR (by decide) dX12_go_23 (fun y33 m34 b35 => ?_)
    obtain rfl : p8 = y33 := (m16).symm.trans m34
    refine lv_iload_n hx hb dX12_go_24 rfl (lv_at hl 1 rfl) ?_
    refine q_iadd hx hb dX12_go_25 rfl rfl (by omega) (fun x36 h37 => ?_)
    refine lv_sipush (v := 399) hx hb dX12_go_26 (by decide) ?_
    refine q_icmp_le (Y := 399) (tgt := 38) hx hb dX12_go_29 (by decide) rfl rfl (fun c38 => ?_) (fun c38 => ?_)
    · refine lv_iconst (v := 0) hx hb dX12_go_38 (by decide) ?_
      refine lv_istore_n (lv' := [(2, .int 0), (0, .ref h0), (1, .int u1)]) hx hb dX12_go_39 rfl hl (by decide) rfl (fun ls hl => ?_)
      have L1022 : ∀ (n : Nat), ∀ (f1011 : Nat → va_E) (y1014 : Int32) (y1016 : Int32) (m1012 : oI (f1011 h0) 0 = 0) (m1013 : oR (f1011 h0) 2 = pR) (b1015 : (0 : Int) ≤ y1014.toInt ∧ y1014.toInt ≤ 104) (m1017 : aI (f1011 pR) (8 : Int32).toNatClampNeg = y1016) (b1018 : (0 : Int) ≤ y1016.toInt ∧ y1016.toInt ≤ 399) (z1019 : RF rw_X12_go_u f0 f1011 h0) (z1020 : RP (aI (f1011 pR)) 0 = RP (aI (f0 pR)) 0) (v1021 : y1016.toInt = p8.toInt + y1014.toInt) (hm : (105 : Int) - y1014.toInt ≤ n) (H : Heap) (locs : List Loc) (ls : Array Slot), WS G cI cJ cZ cD cR cT A kp L f1011 s H locs → FM kp L ms_X12_go_u f0 f1011 → lv_has ls 3 [(2, .int y1014), (0, .ref h0), (1, .int u1)] → W p l e ({ frames := 8, cells := 0, slots := 0, locals := 213 }) s m ([.ref h0, .int u1] : List Value).toArray below meth c H locs 0 0 (MQ below (QT (po_X12_go_u kp L f0 h0 u1) G cI cJ cZ cD cR cT A kp L) ([.ref h0, .int u1] : List Value).toArray s 0 0 A) (F0 m 40 ls []) := by
        intro n
        induction n with
        | zero =>
          intro f1011 y1014 y1016 m1012 m1013 b1015 m1017 b1018 z1019 z1020 v1021 hm H locs ls hW hF hl
          have hz := i32_b y1014
          exfalso; omega
        | succ n ih =>
          intro f1011 y1014 y1016 m1012 m1013 b1015 m1017 b1018 z1019 z1020 v1021 hm H locs ls hW hF hl
          clear c19
          have ih40 := ih
          refine lv_iload_n hx hb dX12_go_40 rfl (lv_at hl 0 rfl) ?_
          refine lv_iload_n hx hb dX12_go_41 rfl (lv_at hl 2 rfl) ?_
          refine q_icmp_ge (tgt := 55) hx hb dX12_go_42 (by decide) rfl rfl (fun c1038 => ?_) (fun c1038 => ?_)
          · refine lv_aload_n hx hb dX12_go_55 rfl (lv_at hl 1 rfl) ?_
            refine lv_aload_n hx hb dX12_go_56 rfl (lv_at hl 1 rfl) ?_
            refine fg_RX12_8 E hW rh0 dX12_go_57 (fun a1039 m1040 r1041 => ?_)
            obtain rfl : pR = a1039 := (m1013).symm.trans m1040
            refine lv_bipush (v := 8) hx hb dX12_go_60 (by decide) ?_
            refine gl_822 E hW rR (by decide) dX12_go_62 (fun y1042 m1043 b1044 => ?_)
            obtain rfl : y1016 = y1042 := (m1017).symm.trans m1043
            have hW0 := hW.2.2.2
            refine t_callV (As := [.int y1016]) (rest := []) E hW (c_X12_told_x l G cI cJ cZ cD cR cT kp L f1011 hW.2.2.2 _ h0 y1016 rh0) rh0 (by decide) rfl wk_X12_told tw_1557 rfl ⟨Nat.le_of_ble_eq_true rfl, Nat.le_of_ble_eq_true rfl⟩ ⟨rfl, rfl⟩ hl.1 rfl (Nat.le_of_ble_eq_true rfl) dX12_go_63 ⟨Nat.le_of_ble_eq_true rfl, Nat.le_of_ble_eq_true rfl⟩ (fun v1045 f1046 H locs q1047 hW => ?_)
            obtain ⟨⟨x1049, rfl, p1050⟩, g1048⟩ := q1047
            have z1051 : RP (aI (f1046 pR)) 0 = RP (aI (f0 pR)) 0 := rp_fm z1020 g1048 rR rfl
            have z1052 : RF rw_X12_go_u f0 f1046 h0 := rf_fm hTH z1019 g1048 rh0 rfl
            have hF := FM.tr hF g1048 rfl
            exact e_I E hW rfl ⟨⟨_, rfl, trivial⟩, hF, (by rw [mR]; exact z1051), z1052⟩ dX12_go_66
          · refine lv_aload_n hx hb dX12_go_45 rfl (lv_at hl 1 rfl) ?_
            have hW0 := hW.2.2.2
            refine t_callV (As := []) (rest := []) E hW (c_X12_goWeek_u l G cI cJ cZ cD cR cT kp L f1011 hW.2.2.2 _ h0 rh0 (by rw [m1013, m1017]; omega) (by rw [m1013]; exact (tx_rf hTX z1019 mR rfl rfl))) rh0 (by decide) rfl wk_X12_goWeek tw_1918 rfl ⟨Nat.le_of_ble_eq_true rfl, Nat.le_of_ble_eq_true rfl⟩ ⟨rfl, rfl⟩ hl.1 rfl (Nat.le_of_ble_eq_true rfl) dX12_go_46 ⟨Nat.le_of_ble_eq_true rfl, Nat.le_of_ble_eq_true rfl⟩ (fun v1053 f1054 H locs q1055 hW => ?_)
            obtain ⟨rfl, g1056, h1057, h1058, h1059⟩ := q1055
            have z1061 : RF rw_X12_go_u f0 f1054 h0 := rf_call z1019 h1059 mR m1013 rfl
            have hF := FM.tr hF g1056 rfl
            have z1062 : RP (aI (f1054 pR)) 0 = RP (aI (f0 pR)) 0 := rp_call z1020 h1058 m1013
            obtain ⟨y1063, m1064⟩ : ∃ x : Int32, aI (f1054 pR) (8 : Int32).toNatClampNeg = x := ⟨_, rfl⟩
            have b1065 : (0 : Int) ≤ y1063.toInt ∧ y1063.toInt ≤ 399 := rr_8 (th_row hW.2.2.2 rR) m1064 rfl
            rw [m1013, m1064, m1017] at h1057
            refine q_iinc hx hb dX12_go_49 hl (k := 0) rfl rfl rfl (by omega) (by decide) (fun i1066 ls h1067 hl => ?_)
            have hl : lv_has ls 3 [(2, .int i1066), (0, .ref h0), (1, .int u1)] := hl
            refine lv_goto (tgt := 40) hx hb dX12_go_52 (by decide) ?_
            exact ih40 f1054 i1066 y1063 ((fm_I g1056 rh0 rfl).trans m1012) ((fm_R g1056 rh0 rfl).trans m1013) (by omega) m1064 (by omega) z1061 z1062 (by omega) (by omega) _ _ _ hW hF (lv_sub hl [0, 1, 2] rfl)
      have hk1068 : (0 : Int32).toInt = 0 := rfl
      exact L1022 105 f11 0 p8 ((fm_I g13 rh0 rfl).trans e2) m31 (by decide) m34 (by omega) z18 z17 (by omega) (by omega) _ _ _ hW hF (lv_sub hl [0, 1, 2] rfl)
    · refine lv_aload_n hx hb dX12_go_32 rfl (lv_at hl 0 rfl) ?_
      refine lv_iconst (v := (-1)) hx hb dX12_go_33 (by decide) ?_
      have hW0 := hW.2.2.2
      refine t_callV (As := [.int (-1)]) (rest := []) E hW (c_X12_told_x l G cI cJ cZ cD cR cT kp L f11 hW.2.2.2 _ h0 (-1) rh0) rh0 (by decide) rfl wk_X12_told tw_1557 rfl ⟨Nat.le_of_ble_eq_true rfl, Nat.le_of_ble_eq_true rfl⟩ ⟨rfl, rfl⟩ hl.1 rfl (Nat.le_of_ble_eq_true rfl) dX12_go_34 ⟨Nat.le_of_ble_eq_true rfl, Nat.le_of_ble_eq_true rfl⟩ (fun v1069 f1070 H locs q1071 hW => ?_)
      obtain ⟨⟨x1073, rfl, p1074⟩, g1072⟩ := q1071
      have p1074 : x1073.toInt = (-1 : Int) := p1074
      have z1075 : RP (aI (f1070 pR)) 0 = RP (aI (f0 pR)) 0 := rp_fm z17 g1072 rR rfl
      have z1076 : RF rw_X12_go_u f0 f1070 h0 := rf_fm hTH z18 g1072 rh0 rfl
      have hF := FM.tr hF g1072 rfl
      exact e_I E hW rfl ⟨⟨_, rfl, trivial⟩, hF, (by rw [mR]; exact z1075), z1076⟩ dX12_go_37
def rw_X12_writ_u : List (Nat × Nat) := [(4, 4), (20, 1043)]
def ms_X12_writ_u : List (Nat × Nat) := [(12, 0), (12, 1), (822, 0), (849, 0), (850, 0)]
def po_X12_writ_u (kp : Nat → Nat) (L : List Nat) (f0 : Nat → va_E) (h0 : Nat) (u1 : Int32) : Option Value → (Nat → va_E) → Prop := fun v f => (∃ r : Int32, v = some (.int r) ∧ (True)) ∧ FM kp L ms_X12_writ_u f0 f ∧ (RP (aI (f (oR (f0 h0) 2))) 0 = RP (aI (f0 (oR (f0 h0) 2))) 0) ∧ (RF rw_X12_writ_u f0 f h0)
set_option maxHeartbeats 4000000 in
set_option maxRecDepth 100000 in
theorem c_X12_writ_u (l : Launch) (G : va_G) (cI cJ cZ cD cR cT : ClassId) (kp : Nat → Nat) (L : List Nat) (f0 : Nat → va_E) (hTH : TH cI cJ cZ cD cR cT kp L f0) (sz : Nat) (h0 : Nat) (u1 : Int32) (rh0 : RK kp L h0 12) (hTX : TX (aI (f0 (oR (f0 h0) 2)))) : Met l yX12_writ (Cond.code yX12_writ cX12_writ 2 (some .int) :: wTab) ({ frames := 5, cells := 0, slots := 0, locals := 128 }) (va_Pc [.ref h0, .int u1] (PreW G (tys6 cI cJ cZ cD cR cT) (va_pl L f0) sz)) (QT (po_X12_writ_u kp L f0 h0 u1) G cI cJ cZ cD cR cT (va_A (va_pl L f0) sz) kp L) 0 0 (va_A (va_pl L f0) sz) := by
  refine metT (by decide) (Nat.le_of_ble_eq_true rfl) hTH ?_
  intro p e s m below meth c A ls E hW hl
  obtain ⟨hx, hb, -, hml, hown, hts, -, -, -⟩ := id E
  have hF : FM kp L ms_X12_writ_u f0 f0 := FM.rf
  have hl : lv_has ls 2 [(0, .ref h0), (1, .int u1)] := hl
  obtain ⟨pR, mR⟩ : ∃ x : Nat, oR (f0 h0) 2 = x := ⟨_, rfl⟩
  have rR : RK kp L pR 822 := by rw [← mR]; exact th_ref hTH rh0 (by decide) (by decide) rfl
  rw [mR] at hTX
  refine lv_aload_n hx hb dX12_writ_0 rfl (lv_at hl 0 rfl) ?_
  refine lv_iconst (v := 0) hx hb dX12_writ_1 (by decide) ?_
  have hW0 := hW.2.2.2
  refine fp_RX12_82 E hW rh0 dX12_writ_2 (fun f1 H locs e2 n3 g4 hW => ?_)
  have z5 : RP (aI (f1 pR)) 0 = RP (aI (f0 pR)) 0 := rp_fm (rfl : RP (aI (f0 pR)) 0 = RP (aI (f0 pR)) 0) g4 rR rfl
  have z6 : RF rw_X12_writ_u f0 f1 h0 := rf_fm hTH rf_rf g4 rh0 rfl
  have hF := FM.tr hF g4 rfl
  refine lv_aload_n hx hb dX12_writ_5 rfl (lv_at hl 0 rfl) ?_
  refine lv_iload_n hx hb dX12_writ_6 rfl (lv_at hl 1 rfl) ?_
  have hW0 := hW.2.2.2
  refine t_callV (As := [.int u1]) (rest := []) E hW (c_X12_isField l G cI cJ cZ cD cR cT kp L f1 hW.2.2.2 _ h0 u1 rh0) rh0 (by decide) rfl wk_X12_isField tw_1639 rfl ⟨Nat.le_of_ble_eq_true rfl, Nat.le_of_ble_eq_true rfl⟩ ⟨rfl, rfl⟩ hl.1 rfl (Nat.le_of_ble_eq_true rfl) dX12_writ_7 ⟨Nat.le_of_ble_eq_true rfl, Nat.le_of_ble_eq_true rfl⟩ (fun v7 f8 H locs q9 hW => ?_)
  obtain ⟨⟨x11, rfl, p12⟩, g10⟩ := q9
  have z13 : RP (aI (f8 pR)) 0 = RP (aI (f0 pR)) 0 := rp_fm z5 g10 rR rfl
  have z14 : RF rw_X12_writ_u f0 f8 h0 := rf_fm hTH z6 g10 rh0 rfl
  have hF := FM.tr hF g10 rfl
  refine q_if_ne (tgt := 20) hx hb dX12_writ_10 (by decide) rfl (fun c15 => ?_) (fun c15 => ?_)
  · have q16 : 0 ≤ u1.toInt ∧ u1.toInt ≤ 39 := by omega
    clear p12
    refine lv_aload_n hx hb dX12_writ_20 rfl (lv_at hl 0 rfl) ?_
    refine lv_iload_n hx hb dX12_writ_21 rfl (lv_at hl 1 rfl) ?_
    have hW0 := hW.2.2.2
    refine t_callV (As := [.int u1]) (rest := []) E hW (c_X12_canWrit l G cI cJ cZ cD cR cT kp L f8 hW.2.2.2 _ h0 u1 rh0 (by omega)) rh0 (by decide) rfl wk_X12_canWrit tw_1930 rfl ⟨Nat.le_of_ble_eq_true rfl, Nat.le_of_ble_eq_true rfl⟩ ⟨rfl, rfl⟩ hl.1 rfl (Nat.le_of_ble_eq_true rfl) dX12_writ_22 ⟨Nat.le_of_ble_eq_true rfl, Nat.le_of_ble_eq_true rfl⟩ (fun v17 f18 H locs q19 hW => ?_)
    obtain ⟨⟨x21, rfl, p22⟩, g20⟩ := q19
    have z23 : RP (aI (f18 pR)) 0 = RP (aI (f0 pR)) 0 := rp_fm z13 g20 rR rfl
    have z24 : RF rw_X12_writ_u f0 f18 h0 := rf_fm hTH z14 g20 rh0 rfl
    have hF := FM.tr hF g20 rfl
    refine q_if_ne (tgt := 35) hx hb dX12_writ_25 (by decide) rfl (fun c25 => ?_) (fun c25 => ?_)
    · refine lv_aload_n hx hb dX12_writ_35 rfl (lv_at hl 0 rfl) ?_
      refine fg_RX12_8 E hW rh0 dX12_writ_36 (fun a26 m27 r28 => ?_)
      obtain rfl : pR = a26 := (((fm_R g20 rh0 rfl).trans ((fm_R g10 rh0 rfl).trans ((fm_R g4 rh0 rfl).trans mR)))).symm.trans m27
      refine lv_iconst (v := 4) hx hb dX12_writ_39 (by decide) ?_
      refine gl_822 E hW rR (by decide) dX12_writ_40 (fun y29 m30 b31 => ?_)
      have b32 := rr_4 (show RowInv _ from b31) m30 (by decide)
      refine lv_bipush (v := 60) hx hb dX12_writ_41 (by decide) ?_
      refine q_icmp_ne (Y := 60) (tgt := 53) hx hb dX12_writ_43 (by decide) rfl rfl (fun c33 => ?_) (fun c33 => ?_)
      · refine lv_aload_n hx hb dX12_writ_53 rfl (lv_at hl 0 rfl) ?_
        have hW0 := hW.2.2.2
        refine t_callV (As := []) (rest := []) E hW (c_X12_forceNow l G cI cJ cZ cD cR cT kp L f18 hW.2.2.2 _ h0 rh0 (by rw [m27]; exact (tx_rf hTX z24 mR rfl rfl))) rh0 (by decide) rfl wk_X12_forceNow tw_1647 rfl ⟨Nat.le_of_ble_eq_true rfl, Nat.le_of_ble_eq_true rfl⟩ ⟨rfl, rfl⟩ hl.1 rfl (Nat.le_of_ble_eq_true rfl) dX12_writ_54 ⟨Nat.le_of_ble_eq_true rfl, Nat.le_of_ble_eq_true rfl⟩ (fun v34 f35 H locs q36 hW => ?_)
        obtain ⟨rfl, g37⟩ := q36
        have z38 : RP (aI (f35 pR)) 0 = RP (aI (f0 pR)) 0 := rp_fm z23 g37 rR rfl
        have z39 : RF rw_X12_writ_u f0 f35 h0 := rf_fm hTH z24 g37 rh0 rfl
        have hF := FM.tr hF g37 rfl
        refine lv_aload_n hx hb dX12_writ_57 rfl (lv_at hl 0 rfl) ?_
        refine lv_iload_n hx hb dX12_writ_58 rfl (lv_at hl 1 rfl) ?_
        have hW0 := hW.2.2.2
        refine t_callV (As := [.int u1]) (rest := []) E hW (c_X12_addWrit_u l G cI cJ cZ cD cR cT kp L f35 hW.2.2.2 _ h0 u1 rh0 (by omega) (by rw [((fm_R g37 rh0 rfl).trans m27), ((congrArg (fun z => aI z (4 : Int32).toNatClampNeg) (fm_A g37 rR (by decide) rfl)).trans m30)]; omega) (by rw [((fm_R g37 rh0 rfl).trans m27)]; exact (tx_rf hTX z39 mR rfl rfl))) rh0 (by decide) rfl wk_X12_addWrit tw_1934 rfl ⟨Nat.le_of_ble_eq_true rfl, Nat.le_of_ble_eq_true rfl⟩ ⟨rfl, rfl⟩ hl.1 rfl (Nat.le_of_ble_eq_true rfl) dX12_writ_59 ⟨Nat.le_of_ble_eq_true rfl, Nat.le_of_ble_eq_true rfl⟩ (fun v40 f41 H locs q42 hW => ?_)
        obtain ⟨rfl, g43, h44, h45⟩ := q42
        have z47 : RF rw_X12_writ_u f0 f41 h0 := rf_call z39 h45 mR ((fm_R g37 rh0 rfl).trans m27) rfl
        have hF := FM.tr hF g43 rfl
        have z48 : RP (aI (f41 pR)) 0 = RP (aI (f0 pR)) 0 := rp_call z38 h44 ((fm_R g37 rh0 rfl).trans m27)
        refine lv_aload_n hx hb dX12_writ_62 rfl (lv_at hl 0 rfl) ?_
        refine lv_aload_n hx hb dX12_writ_63 rfl (lv_at hl 0 rfl) ?_
        refine fg_RX12_8 E hW rh0 dX12_writ_64 (fun a49 m50 r51 => ?_)
        obtain rfl : pR = a49 := (((fm_R g43 rh0 rfl).trans ((fm_R g37 rh0 rfl).trans m27))).symm.trans m50
        refine lv_iconst (v := 4) hx hb dX12_writ_67 (by decide) ?_
        refine gl_822 E hW rR (by decide) dX12_writ_68 (fun y52 m53 b54 => ?_)
        have b55 := rr_4 (show RowInv _ from b54) m53 (by decide)
        have hW0 := hW.2.2.2
        refine t_callV (As := [.int y52]) (rest := []) E hW (c_X12_told_x l G cI cJ cZ cD cR cT kp L f41 hW.2.2.2 _ h0 y52 rh0) rh0 (by decide) rfl wk_X12_told tw_1557 rfl ⟨Nat.le_of_ble_eq_true rfl, Nat.le_of_ble_eq_true rfl⟩ ⟨rfl, rfl⟩ hl.1 rfl (Nat.le_of_ble_eq_true rfl) dX12_writ_69 ⟨Nat.le_of_ble_eq_true rfl, Nat.le_of_ble_eq_true rfl⟩ (fun v56 f57 H locs q58 hW => ?_)
        obtain ⟨⟨x60, rfl, p61⟩, g59⟩ := q58
        have z62 : RP (aI (f57 pR)) 0 = RP (aI (f0 pR)) 0 := rp_fm z48 g59 rR rfl
        have z63 : RF rw_X12_writ_u f0 f57 h0 := rf_fm hTH z47 g59 rh0 rfl
        have hF := FM.tr hF g59 rfl
        exact e_I E hW rfl ⟨⟨_, rfl, trivial⟩, hF, (by rw [mR]; exact z62), z63⟩ dX12_writ_72
      · refine lv_aload_n hx hb dX12_writ_46 rfl (lv_at hl 0 rfl) ?_
        refine lv_bipush (v := (-5)) hx hb dX12_writ_47 (by decide) ?_
        have hW0 := hW.2.2.2
        refine t_callV (As := [.int (-5)]) (rest := []) E hW (c_X12_told_x l G cI cJ cZ cD cR cT kp L f18 hW.2.2.2 _ h0 (-5) rh0) rh0 (by decide) rfl wk_X12_told tw_1557 rfl ⟨Nat.le_of_ble_eq_true rfl, Nat.le_of_ble_eq_true rfl⟩ ⟨rfl, rfl⟩ hl.1 rfl (Nat.le_of_ble_eq_true rfl) dX12_writ_49 ⟨Nat.le_of_ble_eq_true rfl, Nat.le_of_ble_eq_true rfl⟩ (fun v64 f65 H locs q66 hW => ?_)
        obtain ⟨⟨x68, rfl, p69⟩, g67⟩ := q66
        have p69 : x68.toInt = (-5 : Int) := p69
        have z70 : RP (aI (f65 pR)) 0 = RP (aI (f0 pR)) 0 := rp_fm z23 g67 rR rfl
        have z71 : RF rw_X12_writ_u f0 f65 h0 := rf_fm hTH z24 g67 rh0 rfl
        have hF := FM.tr hF g67 rfl
        exact e_I E hW rfl ⟨⟨_, rfl, trivial⟩, hF, (by rw [mR]; exact z70), z71⟩ dX12_writ_52
    · refine lv_aload_n hx hb dX12_writ_28 rfl (lv_at hl 0 rfl) ?_
      refine lv_bipush (v := (-3)) hx hb dX12_writ_29 (by decide) ?_
      have hW0 := hW.2.2.2
      refine t_callV (As := [.int (-3)]) (rest := []) E hW (c_X12_told_x l G cI cJ cZ cD cR cT kp L f18 hW.2.2.2 _ h0 (-3) rh0) rh0 (by decide) rfl wk_X12_told tw_1557 rfl ⟨Nat.le_of_ble_eq_true rfl, Nat.le_of_ble_eq_true rfl⟩ ⟨rfl, rfl⟩ hl.1 rfl (Nat.le_of_ble_eq_true rfl) dX12_writ_31 ⟨Nat.le_of_ble_eq_true rfl, Nat.le_of_ble_eq_true rfl⟩ (fun v72 f73 H locs q74 hW => ?_)
      obtain ⟨⟨x76, rfl, p77⟩, g75⟩ := q74
      have p77 : x76.toInt = (-3 : Int) := p77
      have z78 : RP (aI (f73 pR)) 0 = RP (aI (f0 pR)) 0 := rp_fm z23 g75 rR rfl
      have z79 : RF rw_X12_writ_u f0 f73 h0 := rf_fm hTH z24 g75 rh0 rfl
      have hF := FM.tr hF g75 rfl
      exact e_I E hW rfl ⟨⟨_, rfl, trivial⟩, hF, (by rw [mR]; exact z78), z79⟩ dX12_writ_34
  · clear p12
    refine lv_aload_n hx hb dX12_writ_13 rfl (lv_at hl 0 rfl) ?_
    refine lv_bipush (v := (-2)) hx hb dX12_writ_14 (by decide) ?_
    have hW0 := hW.2.2.2
    refine t_callV (As := [.int (-2)]) (rest := []) E hW (c_X12_told_x l G cI cJ cZ cD cR cT kp L f8 hW.2.2.2 _ h0 (-2) rh0) rh0 (by decide) rfl wk_X12_told tw_1557 rfl ⟨Nat.le_of_ble_eq_true rfl, Nat.le_of_ble_eq_true rfl⟩ ⟨rfl, rfl⟩ hl.1 rfl (Nat.le_of_ble_eq_true rfl) dX12_writ_16 ⟨Nat.le_of_ble_eq_true rfl, Nat.le_of_ble_eq_true rfl⟩ (fun v80 f81 H locs q82 hW => ?_)
    obtain ⟨⟨x84, rfl, p85⟩, g83⟩ := q82
    have p85 : x84.toInt = (-2 : Int) := p85
    have z86 : RP (aI (f81 pR)) 0 = RP (aI (f0 pR)) 0 := rp_fm z13 g83 rR rfl
    have z87 : RF rw_X12_writ_u f0 f81 h0 := rf_fm hTH z14 g83 rh0 rfl
    have hF := FM.tr hF g83 rfl
    exact e_I E hW rfl ⟨⟨_, rfl, trivial⟩, hF, (by rw [mR]; exact z86), z87⟩ dX12_writ_19
def rw_X12_addFour_u : List (Nat × Nat) := [(20, 1041)]
def ms_X12_addFour_u : List (Nat × Nat) := [(822, 0)]
def po_X12_addFour_u (kp : Nat → Nat) (L : List Nat) (f0 : Nat → va_E) (h0 : Nat) (u1 : Int32) (u2 : Int32) (u3 : Int32) (u4 : Int32) (u5 : Int32) : Option Value → (Nat → va_E) → Prop := fun v f => v = none ∧ FM kp L ms_X12_addFour_u f0 f ∧ (∀ j : Nat, (((j : Int) < u1.toInt ∨ u1.toInt + 3 < (j : Int))) → aI (f (oR (f0 h0) 2)) j = aI (f0 (oR (f0 h0) 2)) j) ∧ (Q4 (aI (f0 (oR (f0 h0) 2))) (aI (f (oR (f0 h0) 2))) u1.toInt u2 u3 u4 u5) ∧ (RF rw_X12_addFour_u f0 f h0)
set_option maxHeartbeats 4000000 in
set_option maxRecDepth 100000 in
theorem c_X12_addFour_u (l : Launch) (G : va_G) (cI cJ cZ cD cR cT : ClassId) (kp : Nat → Nat) (L : List Nat) (f0 : Nat → va_E) (hTH : TH cI cJ cZ cD cR cT kp L f0) (sz : Nat) (h0 : Nat) (u1 : Int32) (u2 : Int32) (u3 : Int32) (u4 : Int32) (u5 : Int32) (rh0 : RK kp L h0 12) (pu1 : (20 : Int) ≤ u1.toInt ∧ u1.toInt ≤ 1038) (pu2 : (0 : Int) ≤ u2.toInt ∧ u2.toInt ≤ 39) (pu3 : (-1 : Int) ≤ u3.toInt ∧ u3.toInt ≤ 1000000) (pu4 : (0 : Int) ≤ u4.toInt ∧ u4.toInt ≤ 100000) (h4 : 4 ≤ u1.toInt ∧ u1.toInt + 3 < 17982 ∧ rbI u1.toInt u2.toInt ∧ rbI (u1.toInt + 1) u3.toInt ∧ rbI (u1.toInt + 2) u4.toInt ∧ rbI (u1.toInt + 3) u5.toInt) : Met l yX12_addFour (Cond.code yX12_addFour cX12_addFour 6 none :: wTab) ({ frames := 1, cells := 0, slots := 0, locals := 40 }) (va_Pc [.ref h0, .int u1, .int u2, .int u3, .int u4, .int u5] (PreW G (tys6 cI cJ cZ cD cR cT) (va_pl L f0) sz)) (QT (po_X12_addFour_u kp L f0 h0 u1 u2 u3 u4 u5) G cI cJ cZ cD cR cT (va_A (va_pl L f0) sz) kp L) 0 0 (va_A (va_pl L f0) sz) := by
  refine metT (by decide) (Nat.le_of_ble_eq_true rfl) hTH ?_
  intro p e s m below meth c A ls E hW hl
  obtain ⟨hx, hb, -, hml, hown, hts, -, -, -⟩ := id E
  have hF : FM kp L ms_X12_addFour_u f0 f0 := FM.rf
  have hl : lv_has ls 6 [(0, .ref h0), (1, .int u1), (2, .int u2), (3, .int u3), (4, .int u4), (5, .int u5)] := hl
  obtain ⟨pR, mR⟩ : ∃ x : Nat, oR (f0 h0) 2 = x := ⟨_, rfl⟩
  have rR : RK kp L pR 822 := by rw [← mR]; exact th_ref hTH rh0 (by decide) (by decide) rfl
  refine lv_aload_n hx hb dX12_addFour_0 rfl (lv_at hl 0 rfl) ?_
  refine fg_RX12_8 E hW rh0 dX12_addFour_1 (fun a1 m2 r3 => ?_)
  obtain rfl : pR = a1 := (mR).symm.trans m2
  refine lv_iload_n hx hb dX12_addFour_4 rfl (lv_at hl 1 rfl) ?_
  refine lv_iload_n hx hb dX12_addFour_5 rfl (lv_at hl 2 rfl) ?_
  refine gs_822 E hW rR ⟨by omega, by omega⟩ (fun hc => rr_up hc (by omega) (by omega) h4.2.2.1) dX12_addFour_6 (fun f4 H locs e5 n6 g7 hW => ?_)
  have z8 : RF rw_X12_addFour_u f0 f4 h0 := rf_st (lo := 20) (hi := 1038) rf_rf mR e5 (by omega) rfl
  have hF := FM.tr hF g7 rfl
  refine lv_aload_n hx hb dX12_addFour_7 rfl (lv_at hl 0 rfl) ?_
  refine fg_RX12_8 E hW rh0 dX12_addFour_8 (fun a9 m10 r11 => ?_)
  obtain rfl : pR = a9 := (((fm_R g7 rh0 rfl).trans m2)).symm.trans m10
  refine lv_iload_n hx hb dX12_addFour_11 rfl (lv_at hl 1 rfl) ?_
  refine lv_iconst (v := 1) hx hb dX12_addFour_12 (by decide) ?_
  refine q_iadd (Y := 1) hx hb dX12_addFour_13 rfl rfl (by omega) (fun x12 h13 => ?_)
  refine lv_iload_n hx hb dX12_addFour_14 rfl (lv_at hl 3 rfl) ?_
  refine gs_822 E hW rR ⟨by omega, by omega⟩ (fun hc => rr_up hc (by omega) (by omega) (by have e : x12.toInt = u1.toInt + 1 := (by omega); rw [e]; exact h4.2.2.2.1)) dX12_addFour_15 (fun f14 H locs e15 n16 g17 hW => ?_)
  have z18 : RF rw_X12_addFour_u f0 f14 h0 := rf_st (lo := 21) (hi := 1039) z8 mR e15 (by omega) rfl
  have hF := FM.tr hF g17 rfl
  refine lv_aload_n hx hb dX12_addFour_16 rfl (lv_at hl 0 rfl) ?_
  refine fg_RX12_8 E hW rh0 dX12_addFour_17 (fun a19 m20 r21 => ?_)
  obtain rfl : pR = a19 := (((fm_R g17 rh0 rfl).trans m10)).symm.trans m20
  refine lv_iload_n hx hb dX12_addFour_20 rfl (lv_at hl 1 rfl) ?_
  refine lv_iconst (v := 2) hx hb dX12_addFour_21 (by decide) ?_
  refine q_iadd (Y := 2) hx hb dX12_addFour_22 rfl rfl (by omega) (fun x22 h23 => ?_)
  refine lv_iload hx hb dX12_addFour_23 (lv_at hl 4 rfl) ?_
  refine gs_822 E hW rR ⟨by omega, by omega⟩ (fun hc => rr_up hc (by omega) (by omega) (by have e : x22.toInt = u1.toInt + 2 := (by omega); rw [e]; exact h4.2.2.2.2.1)) dX12_addFour_25 (fun f24 H locs e25 n26 g27 hW => ?_)
  have z28 : RF rw_X12_addFour_u f0 f24 h0 := rf_st (lo := 22) (hi := 1040) z18 mR e25 (by omega) rfl
  have hF := FM.tr hF g27 rfl
  refine lv_aload_n hx hb dX12_addFour_26 rfl (lv_at hl 0 rfl) ?_
  refine fg_RX12_8 E hW rh0 dX12_addFour_27 (fun a29 m30 r31 => ?_)
  obtain rfl : pR = a29 := (((fm_R g27 rh0 rfl).trans m20)).symm.trans m30
  refine lv_iload_n hx hb dX12_addFour_30 rfl (lv_at hl 1 rfl) ?_
  refine lv_iconst (v := 3) hx hb dX12_addFour_31 (by decide) ?_
  refine q_iadd (Y := 3) hx hb dX12_addFour_32 rfl rfl (by omega) (fun x32 h33 => ?_)
  refine lv_iload hx hb dX12_addFour_33 (lv_at hl 5 rfl) ?_
  refine gs_822 E hW rR ⟨by omega, by omega⟩ (fun hc => rr_up hc (by omega) (by omega) (by have e : x32.toInt = u1.toInt + 3 := (by omega); rw [e]; exact h4.2.2.2.2.2)) dX12_addFour_35 (fun f34 H locs e35 n36 g37 hW => ?_)
  have z38 : RF rw_X12_addFour_u f0 f34 h0 := rf_st (lo := 23) (hi := 1041) z28 mR e35 (by omega) rfl
  have hF := FM.tr hF g37 rfl
  exact e_V E hW rfl ⟨rfl, hF, (fun j hj => by rw [mR]; rw [e35, up_n (fun z => by have z2 := tnc (i := x32) (by omega); omega)]; rw [e25, up_n (fun z => by have z2 := tnc (i := x22) (by omega); omega)]; rw [e15, up_n (fun z => by have z2 := tnc (i := x12) (by omega); omega)]; rw [e5, up_n (fun z => by have z2 := tnc (i := u1) (by omega); omega)]), (by rw [mR]; exact q4_mk (e35.trans (congrArg (fun z => upd z (x32 : Int32).toNatClampNeg u5) (e25.trans (congrArg (fun z => upd z (x22 : Int32).toNatClampNeg u4) (e15.trans (congrArg (fun z => upd z (x12 : Int32).toNatClampNeg u3) (e5.trans (congrArg (fun z => upd z (u1 : Int32).toNatClampNeg u2) (rfl : aI (f0 pR) = aI (f0 pR)))))))))) (by omega) (by omega) (by omega) (by omega) (by omega)), z38⟩ dX12_addFour_36
def rw_X12_person_u : List (Nat × Nat) := [(0, 0), (20, 1041)]
def ms_X12_person_u : List (Nat × Nat) := [(12, 0), (12, 1), (822, 0)]
def po_X12_person_u (kp : Nat → Nat) (L : List Nat) (f0 : Nat → va_E) (h0 : Nat) (u1 : Int32) (u2 : Int32) (u3 : Int32) : Option Value → (Nat → va_E) → Prop := fun v f => (∃ r : Int32, v = some (.int r) ∧ ((r.toInt, RP (aI (f (oR (f0 h0) 2))) 0) = sPerson (RP (aI (f0 (oR (f0 h0) 2))) 0) u1.toInt u2.toInt u3.toInt)) ∧ FM kp L ms_X12_person_u f0 f ∧ (RF rw_X12_person_u f0 f h0)
set_option maxHeartbeats 4000000 in
set_option maxRecDepth 100000 in
theorem c_X12_person_u (l : Launch) (G : va_G) (cI cJ cZ cD cR cT : ClassId) (kp : Nat → Nat) (L : List Nat) (f0 : Nat → va_E) (hTH : TH cI cJ cZ cD cR cT kp L f0) (sz : Nat) (h0 : Nat) (u1 : Int32) (u2 : Int32) (u3 : Int32) (rh0 : RK kp L h0 12) : Met l yX12_person (Cond.code yX12_person cX12_person 5 (some .int) :: wTab) ({ frames := 2, cells := 0, slots := 0, locals := 65 }) (va_Pc [.ref h0, .int u1, .int u2, .int u3] (PreW G (tys6 cI cJ cZ cD cR cT) (va_pl L f0) sz)) (QT (po_X12_person_u kp L f0 h0 u1 u2 u3) G cI cJ cZ cD cR cT (va_A (va_pl L f0) sz) kp L) 0 0 (va_A (va_pl L f0) sz) := by
  refine metT (by decide) (Nat.le_of_ble_eq_true rfl) hTH ?_
  intro p e s m below meth c A ls E hW hl
  obtain ⟨hx, hb, -, hml, hown, hts, -, -, -⟩ := id E
  have hF : FM kp L ms_X12_person_u f0 f0 := FM.rf
  have hl : lv_has ls 5 [(0, .ref h0), (1, .int u1), (2, .int u2), (3, .int u3)] := hl
  obtain ⟨pR, mR⟩ : ∃ x : Nat, oR (f0 h0) 2 = x := ⟨_, rfl⟩
  have rR : RK kp L pR 822 := by rw [← mR]; exact th_ref hTH rh0 (by decide) (by decide) rfl
  obtain ⟨p0, mp0⟩ : ∃ x : Int32, aI (f0 pR) (0 : Int32).toNatClampNeg = x := ⟨_, rfl⟩
  have hr0 : (0 : Int) ≤ p0.toInt ∧ p0.toInt ≤ 40 := rr_0 (th_row hTH rR) mp0 rfl
  refine lv_aload_n hx hb dX12_person_0 rfl (lv_at hl 0 rfl) ?_
  refine lv_iconst (v := 0) hx hb dX12_person_1 (by decide) ?_
  refine fp_RX12_82 E hW rh0 dX12_person_2 (fun f1 H locs e2 n3 g4 hW => ?_)
  have z5 : RF rw_X12_person_u f0 f1 h0 := rf_fm hTH rf_rf g4 rh0 rfl
  have hF := FM.tr hF g4 rfl
  refine lv_iload_n hx hb dX12_person_5 rfl (lv_at hl 1 rfl) ?_
  refine q_i2l hx hb dX12_person_6 rfl (fun x6 h7 => ?_)
  have hb8 : -2147483648 ≤ x6.toInt ∧ x6.toInt ≤ 2147483647 := by have := i32_b u1; omega
  refine lv_lconst (v := 0) hx hb dX12_person_7 (by decide) ?_
  refine lv_ldc2 (v := 19) hx hb hown (hts _ tw_1569) dX12_person_8 ?_
  refine t_callS (As := [.long x6, .long 0, .long 19]) (rest := []) E hW (c_X12_in l G cI cJ cZ cD cR cT kp L f1 hW.2.2.2 _ x6 0 19) wk_X12_in tw_1554 rfl ⟨Nat.le_of_ble_eq_true rfl, Nat.le_of_ble_eq_true rfl⟩ ⟨rfl, rfl⟩ hl.1 rfl (Nat.le_of_ble_eq_true rfl) dX12_person_11 ⟨Nat.le_of_ble_eq_true rfl, Nat.le_of_ble_eq_true rfl⟩ (fun v9 f10 H locs q11 hW => ?_)
  obtain ⟨⟨x13, rfl, p14⟩, g12⟩ := q11
  have p14 : (x13.toInt = 1 ∧ (0 : Int) ≤ x6.toInt ∧ x6.toInt ≤ (19 : Int)) ∨ (x13.toInt = 0 ∧ (x6.toInt < (0 : Int) ∨ (19 : Int) < x6.toInt)) := p14
  have m15 : aI (f10 pR) (0 : Int32).toNatClampNeg = p0 := ((congrArg (fun z => aI z (0 : Int32).toNatClampNeg) (fm_A g12 rR (by decide) rfl)).trans ((congrArg (fun z => aI z (0 : Int32).toNatClampNeg) (fm_A g4 rR (by decide) rfl)).trans mp0))
  have z16 : RF rw_X12_person_u f0 f10 h0 := rf_fm hTH z5 g12 rh0 rfl
  have hF := FM.tr hF g12 rfl
  refine q_if_eq (tgt := 41) hx hb dX12_person_14 (by decide) rfl (fun c17 => ?_) (fun c17 => ?_)
  · have q18 : (x6.toInt < (0 : Int) ∨ (19 : Int) < x6.toInt) := by omega
    clear p14
    refine lv_aload_n hx hb dX12_person_41 rfl (lv_at hl 0 rfl) ?_
    refine lv_iconst (v := (-1)) hx hb dX12_person_42 (by decide) ?_
    refine t_callV (As := [.int (-1)]) (rest := []) E hW (c_X12_told_x l G cI cJ cZ cD cR cT kp L f10 hW.2.2.2 _ h0 (-1) rh0) rh0 (by decide) rfl wk_X12_told tw_1557 rfl ⟨Nat.le_of_ble_eq_true rfl, Nat.le_of_ble_eq_true rfl⟩ ⟨rfl, rfl⟩ hl.1 rfl (Nat.le_of_ble_eq_true rfl) dX12_person_43 ⟨Nat.le_of_ble_eq_true rfl, Nat.le_of_ble_eq_true rfl⟩ (fun v19 f20 H locs q21 hW => ?_)
    obtain ⟨⟨x23, rfl, p24⟩, g22⟩ := q21
    have p24 : x23.toInt = (-1 : Int) := p24
    have m25 : aI (f20 pR) = aI (f0 pR) := ((congrArg aI (fm_A g22 rR (by decide) rfl)).trans ((congrArg aI (fm_A g12 rR (by decide) rfl)).trans ((congrArg aI (fm_A g4 rR (by decide) rfl)).trans (rfl : aI (f0 pR) = aI (f0 pR)))))
    have z26 : RF rw_X12_person_u f0 f20 h0 := rf_fm hTH z16 g22 rh0 rfl
    have hF := FM.tr hF g22 rfl
    exact e_I E hW rfl ⟨⟨_, rfl, (by rw [mR]; have e : (RP (aI (f0 pR)) 0).1 = p0.toInt := congrArg Int32.toInt mp0; first | exact sPerson_1 (by omega) (by omega) (by rw [m25]) | exact sPerson_2 e (by omega) (by omega) (by omega) (by rw [m25]) | exact sPerson_3 e (by omega) (by omega) (by omega) (by rw [m25]))⟩, hF, z26⟩ dX12_person_46
  · have q27 : (0 : Int) ≤ x6.toInt ∧ x6.toInt ≤ (19 : Int) := by omega
    clear p14
    refine lv_iload_n hx hb dX12_person_17 rfl (lv_at hl 2 rfl) ?_
    refine q_i2l hx hb dX12_person_18 rfl (fun x28 h29 => ?_)
    have hb30 : -2147483648 ≤ x28.toInt ∧ x28.toInt ≤ 2147483647 := by have := i32_b u2; omega
    refine lv_lconst (v := 0) hx hb dX12_person_19 (by decide) ?_
    refine lv_ldc2 (v := 1000000) hx hb hown (hts _ tw_1570) dX12_person_20 ?_
    refine t_callS (As := [.long x28, .long 0, .long 1000000]) (rest := []) E hW (c_X12_in l G cI cJ cZ cD cR cT kp L f10 hW.2.2.2 _ x28 0 1000000) wk_X12_in tw_1554 rfl ⟨Nat.le_of_ble_eq_true rfl, Nat.le_of_ble_eq_true rfl⟩ ⟨rfl, rfl⟩ hl.1 rfl (Nat.le_of_ble_eq_true rfl) dX12_person_23 ⟨Nat.le_of_ble_eq_true rfl, Nat.le_of_ble_eq_true rfl⟩ (fun v31 f32 H locs q33 hW => ?_)
    obtain ⟨⟨x35, rfl, p36⟩, g34⟩ := q33
    have p36 : (x35.toInt = 1 ∧ (0 : Int) ≤ x28.toInt ∧ x28.toInt ≤ (1000000 : Int)) ∨ (x35.toInt = 0 ∧ (x28.toInt < (0 : Int) ∨ (1000000 : Int) < x28.toInt)) := p36
    have m37 : aI (f32 pR) = aI (f0 pR) := ((congrArg aI (fm_A g34 rR (by decide) rfl)).trans ((congrArg aI (fm_A g12 rR (by decide) rfl)).trans ((congrArg aI (fm_A g4 rR (by decide) rfl)).trans (rfl : aI (f0 pR) = aI (f0 pR)))))
    have z38 : RF rw_X12_person_u f0 f32 h0 := rf_fm hTH z16 g34 rh0 rfl
    have hF := FM.tr hF g34 rfl
    refine q_if_eq (tgt := 41) hx hb dX12_person_26 (by decide) rfl (fun c39 => ?_) (fun c39 => ?_)
    · have q40 : (x28.toInt < (0 : Int) ∨ (1000000 : Int) < x28.toInt) := by omega
      clear p36
      refine lv_aload_n hx hb dX12_person_41 rfl (lv_at hl 0 rfl) ?_
      refine lv_iconst (v := (-1)) hx hb dX12_person_42 (by decide) ?_
      refine t_callV (As := [.int (-1)]) (rest := []) E hW (c_X12_told_x l G cI cJ cZ cD cR cT kp L f32 hW.2.2.2 _ h0 (-1) rh0) rh0 (by decide) rfl wk_X12_told tw_1557 rfl ⟨Nat.le_of_ble_eq_true rfl, Nat.le_of_ble_eq_true rfl⟩ ⟨rfl, rfl⟩ hl.1 rfl (Nat.le_of_ble_eq_true rfl) dX12_person_43 ⟨Nat.le_of_ble_eq_true rfl, Nat.le_of_ble_eq_true rfl⟩ (fun v41 f42 H locs q43 hW => ?_)
      obtain ⟨⟨x45, rfl, p46⟩, g44⟩ := q43
      have p46 : x45.toInt = (-1 : Int) := p46
      have m47 : aI (f42 pR) (0 : Int32).toNatClampNeg = p0 := ((congrArg (fun z => aI z (0 : Int32).toNatClampNeg) (fm_A g44 rR (by decide) rfl)).trans ((congrArg (fun z => aI z (0 : Int32).toNatClampNeg) (fm_A g34 rR (by decide) rfl)).trans m15))
      have z48 : RF rw_X12_person_u f0 f42 h0 := rf_fm hTH z38 g44 rh0 rfl
      have hF := FM.tr hF g44 rfl
      exact e_I E hW rfl ⟨⟨_, rfl, (by rw [mR]; have e : (RP (aI (f0 pR)) 0).1 = p0.toInt := congrArg Int32.toInt mp0; first | exact sPerson_1 (by omega) (by omega) (by rw [((congrArg aI (fm_A g44 rR (by decide) rfl)).trans m37)]) | exact sPerson_2 e (by omega) (by omega) (by omega) (by rw [((congrArg aI (fm_A g44 rR (by decide) rfl)).trans m37)]) | exact sPerson_3 e (by omega) (by omega) (by omega) (by rw [((congrArg aI (fm_A g44 rR (by decide) rfl)).trans m37)]))⟩, hF, z48⟩ dX12_person_46
    · have q49 : (0 : Int) ≤ x28.toInt ∧ x28.toInt ≤ (1000000 : Int) := by omega
      clear p36
      refine lv_iload_n hx hb dX12_person_29 rfl (lv_at hl 3 rfl) ?_
      refine q_i2l hx hb dX12_person_30 rfl (fun x50 h51 => ?_)
      have hb52 : -2147483648 ≤ x50.toInt ∧ x50.toInt ≤ 2147483647 := by have := i32_b u3; omega
      refine lv_lconst (v := 0) hx hb dX12_person_31 (by decide) ?_
      refine lv_ldc2 (v := 100) hx hb hown (hts _ tw_1571) dX12_person_32 ?_
      refine t_callS (As := [.long x50, .long 0, .long 100]) (rest := []) E hW (c_X12_in l G cI cJ cZ cD cR cT kp L f32 hW.2.2.2 _ x50 0 100) wk_X12_in tw_1554 rfl ⟨Nat.le_of_ble_eq_true rfl, Nat.le_of_ble_eq_true rfl⟩ ⟨rfl, rfl⟩ hl.1 rfl (Nat.le_of_ble_eq_true rfl) dX12_person_35 ⟨Nat.le_of_ble_eq_true rfl, Nat.le_of_ble_eq_true rfl⟩ (fun v53 f54 H locs q55 hW => ?_)
      obtain ⟨⟨x57, rfl, p58⟩, g56⟩ := q55
      have p58 : (x57.toInt = 1 ∧ (0 : Int) ≤ x50.toInt ∧ x50.toInt ≤ (100 : Int)) ∨ (x57.toInt = 0 ∧ (x50.toInt < (0 : Int) ∨ (100 : Int) < x50.toInt)) := p58
      have m59 : aI (f54 pR) (0 : Int32).toNatClampNeg = p0 := ((congrArg (fun z => aI z (0 : Int32).toNatClampNeg) (fm_A g56 rR (by decide) rfl)).trans ((congrArg (fun z => aI z (0 : Int32).toNatClampNeg) (fm_A g34 rR (by decide) rfl)).trans m15))
      have z60 : RF rw_X12_person_u f0 f54 h0 := rf_fm hTH z38 g56 rh0 rfl
      have hF := FM.tr hF g56 rfl
      refine q_if_ne (tgt := 47) hx hb dX12_person_38 (by decide) rfl (fun c61 => ?_) (fun c61 => ?_)
      · have q62 : (0 : Int) ≤ x50.toInt ∧ x50.toInt ≤ (100 : Int) := by omega
        clear p58
        refine lv_aload_n hx hb dX12_person_47 rfl (lv_at hl 0 rfl) ?_
        refine fg_RX12_8 E hW rh0 dX12_person_48 (fun a63 m64 r65 => ?_)
        obtain rfl : pR = a63 := (((fm_R g56 rh0 rfl).trans ((fm_R g34 rh0 rfl).trans ((fm_R g12 rh0 rfl).trans ((fm_R g4 rh0 rfl).trans mR))))).symm.trans m64
        refine lv_iconst (v := 0) hx hb dX12_person_51 (by decide) ?_
        refine gl_822 E hW rR (by decide) dX12_person_52 (fun y66 m67 b68 => ?_)
        obtain rfl : p0 = y66 := (m59).symm.trans m67
        refine lv_bipush (v := 40) hx hb dX12_person_53 (by decide) ?_
        refine q_icmp_ne (Y := 40) (tgt := 65) hx hb dX12_person_55 (by decide) rfl rfl (fun c69 => ?_) (fun c69 => ?_)
        · refine lv_aload_n hx hb dX12_person_65 rfl (lv_at hl 0 rfl) ?_
          refine fg_RX12_8 E hW rh0 dX12_person_66 (fun a70 m71 r72 => ?_)
          obtain rfl : pR = a70 := (m64).symm.trans m71
          refine lv_iconst (v := 0) hx hb dX12_person_69 (by decide) ?_
          refine gl_822 E hW rR (by decide) dX12_person_70 (fun y73 m74 b75 => ?_)
          obtain rfl : p0 = y73 := (m67).symm.trans m74
          refine t_callS (As := [.int p0]) (rest := []) E hW (c_X12_personAt l G cI cJ cZ cD cR cT kp L f54 hW.2.2.2 _ p0 (by omega)) wk_X12_personAt tw_1572 rfl ⟨Nat.le_of_ble_eq_true rfl, Nat.le_of_ble_eq_true rfl⟩ ⟨rfl, rfl⟩ hl.1 rfl (Nat.le_of_ble_eq_true rfl) dX12_person_71 ⟨Nat.le_of_ble_eq_true rfl, Nat.le_of_ble_eq_true rfl⟩ (fun v76 f77 H locs q78 hW => ?_)
          obtain ⟨⟨x80, rfl, p81⟩, g79⟩ := q78
          have z82 : RF rw_X12_person_u f0 f77 h0 := rf_fm hTH z60 g79 rh0 rfl
          have hF := FM.tr hF g79 rfl
          refine lv_istore (lv' := [(4, .int x80), (0, .ref h0), (1, .int u1), (2, .int u2), (3, .int u3)]) hx hb dX12_person_74 hl (by decide) rfl (fun ls hl => ?_)
          refine lv_aload_n hx hb dX12_person_76 rfl (lv_at hl 1 rfl) ?_
          refine lv_iload hx hb dX12_person_77 (lv_at hl 0 rfl) ?_
          refine lv_iload_n hx hb dX12_person_79 rfl (lv_at hl 2 rfl) ?_
          refine lv_iload_n hx hb dX12_person_80 rfl (lv_at hl 3 rfl) ?_
          refine lv_iload_n hx hb dX12_person_81 rfl (lv_at hl 4 rfl) ?_
          refine lv_iconst (v := (-1)) hx hb dX12_person_82 (by decide) ?_
          have hk83 : ((-1) : Int32).toInt = -1 := rfl
          refine t_callV (As := [.int x80, .int u1, .int u2, .int u3, .int (-1)]) (rest := []) E hW (c_X12_addFour_u l G cI cJ cZ cD cR cT kp L f77 hW.2.2.2 _ h0 x80 u1 u2 u3 (-1) rh0 (by omega) (by omega) (by omega) (by omega) ⟨by omega, by omega, by unfold rbI; omega, by unfold rbI; omega, by unfold rbI; omega, by unfold rbI; omega⟩) rh0 (by decide) rfl wk_X12_addFour tw_1575 rfl ⟨Nat.le_of_ble_eq_true rfl, Nat.le_of_ble_eq_true rfl⟩ ⟨rfl, rfl⟩ hl.1 rfl (Nat.le_of_ble_eq_true rfl) dX12_person_83 ⟨Nat.le_of_ble_eq_true rfl, Nat.le_of_ble_eq_true rfl⟩ (fun v84 f85 H locs q86 hW => ?_)
          obtain ⟨rfl, g87, h88, h89, h90⟩ := q86
          have z91 : RF rw_X12_person_u f0 f85 h0 := rf_call z82 h90 mR ((fm_R g79 rh0 rfl).trans m71) rfl
          have hF := FM.tr hF g87 rfl
          have m92 : aI (f85 pR) (0 : Int32).toNatClampNeg = p0 := by
            have z := h88
            rw [((fm_R g79 rh0 rfl).trans m71)] at z
            have z2 := tnc (i := 0) (by first | omega | decide)
            have hk : (0 : Int32).toInt = 0 := rfl
            exact (z _ (by omega)).trans ((congrArg (fun z => aI z (0 : Int32).toNatClampNeg) (fm_A g79 rR (by decide) rfl)).trans m74)
          have z93 : Q4 (aI (f0 pR)) (aI (f85 pR)) x80.toInt u1 u2 u3 (-1) := by have q := h89; rw [((fm_R g79 rh0 rfl).trans m71), ((congrArg aI (fm_A g79 rR (by decide) rfl)).trans ((congrArg aI (fm_A g56 rR (by decide) rfl)).trans m37))] at q; exact q
          refine lv_aload_n hx hb dX12_person_86 rfl (lv_at hl 1 rfl) ?_
          refine lv_iload hx hb dX12_person_87 (lv_at hl 0 rfl) ?_
          refine lv_iconst (v := 4) hx hb dX12_person_89 (by decide) ?_
          refine q_iadd (Y := 4) hx hb dX12_person_90 rfl rfl (by omega) (fun x94 h95 => ?_)
          refine lv_iconst (v := 0) hx hb dX12_person_91 (by decide) ?_
          refine lv_iconst (v := 0) hx hb dX12_person_92 (by decide) ?_
          refine lv_iconst (v := 0) hx hb dX12_person_93 (by decide) ?_
          refine lv_iconst (v := (-1)) hx hb dX12_person_94 (by decide) ?_
          have hk96 : (0 : Int32).toInt = 0 := rfl
          have hk97 : (0 : Int32).toInt = 0 := rfl
          have hk98 : (0 : Int32).toInt = 0 := rfl
          have hk99 : ((-1) : Int32).toInt = -1 := rfl
          refine t_callV (As := [.int x94, .int 0, .int 0, .int 0, .int (-1)]) (rest := []) E hW (c_X12_addFour_u l G cI cJ cZ cD cR cT kp L f85 hW.2.2.2 _ h0 x94 0 0 0 (-1) rh0 (by omega) (by decide) (by decide) (by decide) ⟨by omega, by omega, by unfold rbI; omega, by unfold rbI; omega, by unfold rbI; omega, by unfold rbI; omega⟩) rh0 (by decide) rfl wk_X12_addFour tw_1575 rfl ⟨Nat.le_of_ble_eq_true rfl, Nat.le_of_ble_eq_true rfl⟩ ⟨rfl, rfl⟩ hl.1 rfl (Nat.le_of_ble_eq_true rfl) dX12_person_95 ⟨Nat.le_of_ble_eq_true rfl, Nat.le_of_ble_eq_true rfl⟩ (fun v100 f101 H locs q102 hW => ?_)
          obtain ⟨rfl, g103, h104, h105, h106⟩ := q102
          have z107 : RF rw_X12_person_u f0 f101 h0 := rf_call z91 h106 mR ((fm_R g87 rh0 rfl).trans ((fm_R g79 rh0 rfl).trans m71)) rfl
          have hF := FM.tr hF g103 rfl
          have m108 : aI (f101 pR) (0 : Int32).toNatClampNeg = p0 := by
            have z := h104
            rw [((fm_R g87 rh0 rfl).trans ((fm_R g79 rh0 rfl).trans m71))] at z
            have z2 := tnc (i := 0) (by first | omega | decide)
            have hk : (0 : Int32).toInt = 0 := rfl
            exact (z _ (by omega)).trans m92
          have z109 : Q4 (aI (f85 pR)) (aI (f101 pR)) x94.toInt 0 0 0 (-1) := by have q := h105; rw [((fm_R g87 rh0 rfl).trans ((fm_R g79 rh0 rfl).trans m71)), (rfl : aI (f85 pR) = aI (f85 pR))] at q; exact q
          refine lv_aload_n hx hb dX12_person_98 rfl (lv_at hl 1 rfl) ?_
          refine fg_RX12_8 E hW rh0 dX12_person_99 (fun a110 m111 r112 => ?_)
          obtain rfl : pR = a110 := (((fm_R g103 rh0 rfl).trans ((fm_R g87 rh0 rfl).trans ((fm_R g79 rh0 rfl).trans m71)))).symm.trans m111
          refine lv_iconst (v := 0) hx hb dX12_person_102 (by decide) ?_
          refine lv_dup2_11 hx hb dX12_person_103 rfl rfl ?_
          refine gl_822 E hW rR (by decide) dX12_person_104 (fun y113 m114 b115 => ?_)
          obtain rfl : p0 = y113 := (m108).symm.trans m114
          refine lv_iconst (v := 1) hx hb dX12_person_105 (by decide) ?_
          refine q_iadd (Y := 1) hx hb dX12_person_106 rfl rfl (by omega) (fun x116 h117 => ?_)
          have hk118 : (0 : Int32).toInt = 0 := rfl
          refine gs_822 E hW rR (by decide) (fun hc => rr_up hc (by omega) (by omega) (by unfold rbI; omega)) dX12_person_107 (fun f119 H locs e120 n121 g122 hW => ?_)
          have m123 : oI (f119 h0) 0 = 0 := ((fm_I g122 rh0 rfl).trans ((fm_I g103 rh0 rfl).trans ((fm_I g87 rh0 rfl).trans ((fm_I g79 rh0 rfl).trans ((fm_I g56 rh0 rfl).trans ((fm_I g34 rh0 rfl).trans ((fm_I g12 rh0 rfl).trans e2)))))))
          have z124 : RF rw_X12_person_u f0 f119 h0 := rf_st (lo := 0) (hi := 0) z107 mR e120 (by decide) rfl
          have hF := FM.tr hF g122 rfl
          refine lv_aload_n hx hb dX12_person_108 rfl (lv_at hl 1 rfl) ?_
          refine lv_aload_n hx hb dX12_person_109 rfl (lv_at hl 1 rfl) ?_
          refine fg_RX12_8 E hW rh0 dX12_person_110 (fun a125 m126 r127 => ?_)
          obtain rfl : pR = a125 := (((fm_R g122 rh0 rfl).trans m111)).symm.trans m126
          refine lv_iconst (v := 0) hx hb dX12_person_113 (by decide) ?_
          refine gl_822 E hW rR (by decide) dX12_person_114 (fun y128 m129 b130 => ?_)
          obtain rfl : x116 = y128 := ((show aI (f119 pR) (0 : Int32).toNatClampNeg = x116 from by rw [e120]; exact up_s)).symm.trans m129
          refine lv_iconst (v := 1) hx hb dX12_person_115 (by decide) ?_
          refine q_isub (Y := 1) hx hb dX12_person_116 rfl rfl (by omega) (fun x131 h132 => ?_)
          refine t_callV (As := [.int x131]) (rest := []) E hW (c_X12_told_x l G cI cJ cZ cD cR cT kp L f119 hW.2.2.2 _ h0 x131 rh0) rh0 (by decide) rfl wk_X12_told tw_1557 rfl ⟨Nat.le_of_ble_eq_true rfl, Nat.le_of_ble_eq_true rfl⟩ ⟨rfl, rfl⟩ hl.1 rfl (Nat.le_of_ble_eq_true rfl) dX12_person_117 ⟨Nat.le_of_ble_eq_true rfl, Nat.le_of_ble_eq_true rfl⟩ (fun v133 f134 H locs q135 hW => ?_)
          obtain ⟨⟨x137, rfl, p138⟩, g136⟩ := q135
          have z139 : RF rw_X12_person_u f0 f134 h0 := rf_fm hTH z124 g136 rh0 rfl
          have hF := FM.tr hF g136 rfl
          exact e_I E hW rfl ⟨⟨_, rfl, (by rw [mR]; have e : (RP (aI (f0 pR)) 0).1 = p0.toInt := congrArg Int32.toInt mp0; first | exact sPerson_1 (by omega) (by omega) (by rw [((congrArg aI (fm_A g136 rR (by decide) rfl)).trans (e120.trans (congrArg (fun z => upd z (0 : Int32).toNatClampNeg x116) (rfl : aI (f101 pR) = aI (f101 pR)))))]; exact rp_add2 (by omega) mp0 (by omega) (by omega) (by omega) z93 z109 rfl rfl) | exact sPerson_2 e (by omega) (by omega) (by omega) (by rw [((congrArg aI (fm_A g136 rR (by decide) rfl)).trans (e120.trans (congrArg (fun z => upd z (0 : Int32).toNatClampNeg x116) (rfl : aI (f101 pR) = aI (f101 pR)))))]; exact rp_add2 (by omega) mp0 (by omega) (by omega) (by omega) z93 z109 rfl rfl) | exact sPerson_3 e (by omega) (by omega) (by omega) (by rw [((congrArg aI (fm_A g136 rR (by decide) rfl)).trans (e120.trans (congrArg (fun z => upd z (0 : Int32).toNatClampNeg x116) (rfl : aI (f101 pR) = aI (f101 pR)))))]; exact rp_add2 (by omega) mp0 (by omega) (by omega) (by omega) z93 z109 rfl rfl))⟩, hF, z139⟩ dX12_person_120
        · refine lv_aload_n hx hb dX12_person_58 rfl (lv_at hl 0 rfl) ?_
          refine lv_bipush (v := (-5)) hx hb dX12_person_59 (by decide) ?_
          refine t_callV (As := [.int (-5)]) (rest := []) E hW (c_X12_told_x l G cI cJ cZ cD cR cT kp L f54 hW.2.2.2 _ h0 (-5) rh0) rh0 (by decide) rfl wk_X12_told tw_1557 rfl ⟨Nat.le_of_ble_eq_true rfl, Nat.le_of_ble_eq_true rfl⟩ ⟨rfl, rfl⟩ hl.1 rfl (Nat.le_of_ble_eq_true rfl) dX12_person_61 ⟨Nat.le_of_ble_eq_true rfl, Nat.le_of_ble_eq_true rfl⟩ (fun v140 f141 H locs q142 hW => ?_)
          obtain ⟨⟨x144, rfl, p145⟩, g143⟩ := q142
          have p145 : x144.toInt = (-5 : Int) := p145
          have z146 : RF rw_X12_person_u f0 f141 h0 := rf_fm hTH z60 g143 rh0 rfl
          have hF := FM.tr hF g143 rfl
          exact e_I E hW rfl ⟨⟨_, rfl, (by rw [mR]; have e : (RP (aI (f0 pR)) 0).1 = p0.toInt := congrArg Int32.toInt mp0; first | exact sPerson_1 (by omega) (by omega) (by rw [((congrArg aI (fm_A g143 rR (by decide) rfl)).trans ((congrArg aI (fm_A g56 rR (by decide) rfl)).trans m37))]) | exact sPerson_2 e (by omega) (by omega) (by omega) (by rw [((congrArg aI (fm_A g143 rR (by decide) rfl)).trans ((congrArg aI (fm_A g56 rR (by decide) rfl)).trans m37))]) | exact sPerson_3 e (by omega) (by omega) (by omega) (by rw [((congrArg aI (fm_A g143 rR (by decide) rfl)).trans ((congrArg aI (fm_A g56 rR (by decide) rfl)).trans m37))]))⟩, hF, z146⟩ dX12_person_64
      · have q147 : (x50.toInt < (0 : Int) ∨ (100 : Int) < x50.toInt) := by omega
        clear p58
        refine lv_aload_n hx hb dX12_person_41 rfl (lv_at hl 0 rfl) ?_
        refine lv_iconst (v := (-1)) hx hb dX12_person_42 (by decide) ?_
        refine t_callV (As := [.int (-1)]) (rest := []) E hW (c_X12_told_x l G cI cJ cZ cD cR cT kp L f54 hW.2.2.2 _ h0 (-1) rh0) rh0 (by decide) rfl wk_X12_told tw_1557 rfl ⟨Nat.le_of_ble_eq_true rfl, Nat.le_of_ble_eq_true rfl⟩ ⟨rfl, rfl⟩ hl.1 rfl (Nat.le_of_ble_eq_true rfl) dX12_person_43 ⟨Nat.le_of_ble_eq_true rfl, Nat.le_of_ble_eq_true rfl⟩ (fun v148 f149 H locs q150 hW => ?_)
        obtain ⟨⟨x152, rfl, p153⟩, g151⟩ := q150
        have p153 : x152.toInt = (-1 : Int) := p153
        have z154 : RF rw_X12_person_u f0 f149 h0 := rf_fm hTH z60 g151 rh0 rfl
        have hF := FM.tr hF g151 rfl
        exact e_I E hW rfl ⟨⟨_, rfl, (by rw [mR]; have e : (RP (aI (f0 pR)) 0).1 = p0.toInt := congrArg Int32.toInt mp0; first | exact sPerson_1 (by omega) (by omega) (by rw [((congrArg aI (fm_A g151 rR (by decide) rfl)).trans ((congrArg aI (fm_A g56 rR (by decide) rfl)).trans m37))]) | exact sPerson_2 e (by omega) (by omega) (by omega) (by rw [((congrArg aI (fm_A g151 rR (by decide) rfl)).trans ((congrArg aI (fm_A g56 rR (by decide) rfl)).trans m37))]) | exact sPerson_3 e (by omega) (by omega) (by omega) (by rw [((congrArg aI (fm_A g151 rR (by decide) rfl)).trans ((congrArg aI (fm_A g56 rR (by decide) rfl)).trans m37))]))⟩, hF, z154⟩ dX12_person_46
def ms_X12_isPerson_x : List (Nat × Nat) := []
def po_X12_isPerson_x (kp : Nat → Nat) (L : List Nat) (f0 : Nat → va_E) (h0 : Nat) (u1 : Int32) : Option Value → (Nat → va_E) → Prop := fun v f => (∃ r : Int32, v = some (.int r) ∧ ((r.toInt = 1 ∧ 0 ≤ u1.toInt ∧ u1.toInt < (aI (f0 (oR (f0 h0) 2)) (0 : Int32).toNatClampNeg).toInt) ∨ (r.toInt = 0 ∧ (u1.toInt < 0 ∨ (aI (f0 (oR (f0 h0) 2)) (0 : Int32).toNatClampNeg).toInt ≤ u1.toInt)))) ∧ FM kp L ms_X12_isPerson_x f0 f
set_option maxHeartbeats 4000000 in
set_option maxRecDepth 100000 in
theorem c_X12_isPerson_x (l : Launch) (G : va_G) (cI cJ cZ cD cR cT : ClassId) (kp : Nat → Nat) (L : List Nat) (f0 : Nat → va_E) (hTH : TH cI cJ cZ cD cR cT kp L f0) (sz : Nat) (h0 : Nat) (u1 : Int32) (rh0 : RK kp L h0 12) : Met l yX12_isPerson (Cond.code yX12_isPerson cX12_isPerson 2 (some .boolean) :: wTab) ({ frames := 2, cells := 0, slots := 0, locals := 65 }) (va_Pc [.ref h0, .int u1] (PreW G (tys6 cI cJ cZ cD cR cT) (va_pl L f0) sz)) (QT (po_X12_isPerson_x kp L f0 h0 u1) G cI cJ cZ cD cR cT (va_A (va_pl L f0) sz) kp L) 0 0 (va_A (va_pl L f0) sz) := by
  refine metT (by decide) (Nat.le_of_ble_eq_true rfl) hTH ?_
  intro p e s m below meth c A ls E hW hl
  obtain ⟨hx, hb, -, hml, hown, hts, -, -, -⟩ := id E
  have hF : FM kp L ms_X12_isPerson_x f0 f0 := FM.rf
  have hl : lv_has ls 2 [(0, .ref h0), (1, .int u1)] := hl
  obtain ⟨pR, mR⟩ : ∃ x : Nat, oR (f0 h0) 2 = x := ⟨_, rfl⟩
  have rR : RK kp L pR 822 := by rw [← mR]; exact th_ref hTH rh0 (by decide) (by decide) rfl
  obtain ⟨p0, mp0⟩ : ∃ x : Int32, aI (f0 pR) (0 : Int32).toNatClampNeg = x := ⟨_, rfl⟩
  have hr0 : (0 : Int) ≤ p0.toInt ∧ p0.toInt ≤ 40 := rr_0 (th_row hTH rR) mp0 rfl
  refine lv_iload_n hx hb dX12_isPerson_0 rfl (lv_at hl 1 rfl) ?_
  refine q_i2l hx hb dX12_isPerson_1 rfl (fun x1 h2 => ?_)
  have hb3 : -2147483648 ≤ x1.toInt ∧ x1.toInt ≤ 2147483647 := by have := i32_b u1; omega
  refine lv_lconst (v := 0) hx hb dX12_isPerson_2 (by decide) ?_
  refine lv_aload_n hx hb dX12_isPerson_3 rfl (lv_at hl 0 rfl) ?_
  refine fg_RX12_8 E hW rh0 dX12_isPerson_4 (fun a4 m5 r6 => ?_)
  obtain rfl : pR = a4 := (mR).symm.trans m5
  refine lv_iconst (v := 0) hx hb dX12_isPerson_7 (by decide) ?_
  refine gl_822 E hW rR (by decide) dX12_isPerson_8 (fun y7 m8 b9 => ?_)
  obtain rfl : p0 = y7 := (mp0).symm.trans m8
  refine q_i2l hx hb dX12_isPerson_9 rfl (fun x10 h11 => ?_)
  refine lv_lconst (v := 1) hx hb dX12_isPerson_10 (by decide) ?_
  refine q_lsub (Y := 1) hx hb dX12_isPerson_11 rfl rfl (by omega) (fun x12 h13 => ?_)
  refine t_callS (As := [.long x1, .long 0, .long x12]) (rest := []) E hW (c_X12_in l G cI cJ cZ cD cR cT kp L f0 hW.2.2.2 _ x1 0 x12) wk_X12_in tw_1554 rfl ⟨Nat.le_of_ble_eq_true rfl, Nat.le_of_ble_eq_true rfl⟩ ⟨rfl, rfl⟩ hl.1 rfl (Nat.le_of_ble_eq_true rfl) dX12_isPerson_12 ⟨Nat.le_of_ble_eq_true rfl, Nat.le_of_ble_eq_true rfl⟩ (fun v14 f15 H locs q16 hW => ?_)
  obtain ⟨⟨x18, rfl, p19⟩, g17⟩ := q16
  have p19 : (x18.toInt = 1 ∧ (0 : Int) ≤ x1.toInt ∧ x1.toInt ≤ x12.toInt) ∨ (x18.toInt = 0 ∧ (x1.toInt < (0 : Int) ∨ x12.toInt < x1.toInt)) := p19
  have hF := FM.tr hF g17 rfl
  exact e_Z E hW rfl (by omega) ⟨⟨_, rfl, (by rw [mR, mp0]; omega)⟩, hF⟩ dX12_isPerson_15
def rw_X12_heed_u : List (Nat × Nat) := [(23, 335)]
def ms_X12_heed_u : List (Nat × Nat) := [(12, 0), (12, 1), (822, 0)]
def po_X12_heed_u (kp : Nat → Nat) (L : List Nat) (f0 : Nat → va_E) (h0 : Nat) (u1 : Int32) (u2 : Int32) : Option Value → (Nat → va_E) → Prop := fun v f => (∃ r : Int32, v = some (.int r) ∧ ((r.toInt, RP (aI (f (oR (f0 h0) 2))) 0) = sHeed (RP (aI (f0 (oR (f0 h0) 2))) 0) u1.toInt u2.toInt)) ∧ FM kp L ms_X12_heed_u f0 f ∧ (RF rw_X12_heed_u f0 f h0)
set_option maxHeartbeats 4000000 in
set_option maxRecDepth 100000 in
theorem c_X12_heed_u (l : Launch) (G : va_G) (cI cJ cZ cD cR cT : ClassId) (kp : Nat → Nat) (L : List Nat) (f0 : Nat → va_E) (hTH : TH cI cJ cZ cD cR cT kp L f0) (sz : Nat) (h0 : Nat) (u1 : Int32) (u2 : Int32) (rh0 : RK kp L h0 12) : Met l yX12_heed (Cond.code yX12_heed cX12_heed 3 (some .int) :: wTab) ({ frames := 3, cells := 0, slots := 0, locals := 86 }) (va_Pc [.ref h0, .int u1, .int u2] (PreW G (tys6 cI cJ cZ cD cR cT) (va_pl L f0) sz)) (QT (po_X12_heed_u kp L f0 h0 u1 u2) G cI cJ cZ cD cR cT (va_A (va_pl L f0) sz) kp L) 0 0 (va_A (va_pl L f0) sz) := by
  refine metT (by decide) (Nat.le_of_ble_eq_true rfl) hTH ?_
  intro p e s m below meth c A ls E hW hl
  obtain ⟨hx, hb, -, hml, hown, hts, -, -, -⟩ := id E
  have hF : FM kp L ms_X12_heed_u f0 f0 := FM.rf
  have hl : lv_has ls 3 [(0, .ref h0), (1, .int u1), (2, .int u2)] := hl
  obtain ⟨pR, mR⟩ : ∃ x : Nat, oR (f0 h0) 2 = x := ⟨_, rfl⟩
  have rR : RK kp L pR 822 := by rw [← mR]; exact th_ref hTH rh0 (by decide) (by decide) rfl
  obtain ⟨p0, mp0⟩ : ∃ x : Int32, aI (f0 pR) (0 : Int32).toNatClampNeg = x := ⟨_, rfl⟩
  have hr0 : (0 : Int) ≤ p0.toInt ∧ p0.toInt ≤ 40 := rr_0 (th_row hTH rR) mp0 rfl
  refine lv_aload_n hx hb dX12_heed_0 rfl (lv_at hl 0 rfl) ?_
  refine lv_iconst (v := 0) hx hb dX12_heed_1 (by decide) ?_
  refine fp_RX12_82 E hW rh0 dX12_heed_2 (fun f1 H locs e2 n3 g4 hW => ?_)
  have z5 : RF rw_X12_heed_u f0 f1 h0 := rf_fm hTH rf_rf g4 rh0 rfl
  have hF := FM.tr hF g4 rfl
  refine lv_aload_n hx hb dX12_heed_5 rfl (lv_at hl 0 rfl) ?_
  refine lv_iload_n hx hb dX12_heed_6 rfl (lv_at hl 1 rfl) ?_
  refine t_callV (As := [.int u1]) (rest := []) E hW (c_X12_isPerson_x l G cI cJ cZ cD cR cT kp L f1 hW.2.2.2 _ h0 u1 rh0) rh0 (by decide) rfl wk_X12_isPerson tw_1583 rfl ⟨Nat.le_of_ble_eq_true rfl, Nat.le_of_ble_eq_true rfl⟩ ⟨rfl, rfl⟩ hl.1 rfl (Nat.le_of_ble_eq_true rfl) dX12_heed_7 ⟨Nat.le_of_ble_eq_true rfl, Nat.le_of_ble_eq_true rfl⟩ (fun v6 f7 H locs q8 hW => ?_)
  obtain ⟨⟨x10, rfl, p11⟩, g9⟩ := q8
  rw [((fm_R g4 rh0 rfl).trans mR), ((congrArg (fun z => aI z (0 : Int32).toNatClampNeg) (fm_A g4 rR (by decide) rfl)).trans mp0)] at p11
  have m12 : aI (f7 pR) (0 : Int32).toNatClampNeg = p0 := ((congrArg (fun z => aI z (0 : Int32).toNatClampNeg) (fm_A g9 rR (by decide) rfl)).trans ((congrArg (fun z => aI z (0 : Int32).toNatClampNeg) (fm_A g4 rR (by decide) rfl)).trans mp0))
  have z13 : RF rw_X12_heed_u f0 f7 h0 := rf_fm hTH z5 g9 rh0 rfl
  have hF := FM.tr hF g9 rfl
  refine q_if_eq (tgt := 26) hx hb dX12_heed_10 (by decide) rfl (fun c14 => ?_) (fun c14 => ?_)
  · refine lv_aload_n hx hb dX12_heed_26 rfl (lv_at hl 0 rfl) ?_
    refine lv_bipush (v := (-2)) hx hb dX12_heed_27 (by decide) ?_
    refine t_callV (As := [.int (-2)]) (rest := []) E hW (c_X12_told_x l G cI cJ cZ cD cR cT kp L f7 hW.2.2.2 _ h0 (-2) rh0) rh0 (by decide) rfl wk_X12_told tw_1557 rfl ⟨Nat.le_of_ble_eq_true rfl, Nat.le_of_ble_eq_true rfl⟩ ⟨rfl, rfl⟩ hl.1 rfl (Nat.le_of_ble_eq_true rfl) dX12_heed_29 ⟨Nat.le_of_ble_eq_true rfl, Nat.le_of_ble_eq_true rfl⟩ (fun v15 f16 H locs q17 hW => ?_)
    obtain ⟨⟨x19, rfl, p20⟩, g18⟩ := q17
    have p20 : x19.toInt = (-2 : Int) := p20
    have m21 : aI (f16 pR) = aI (f0 pR) := ((congrArg aI (fm_A g18 rR (by decide) rfl)).trans ((congrArg aI (fm_A g9 rR (by decide) rfl)).trans ((congrArg aI (fm_A g4 rR (by decide) rfl)).trans (rfl : aI (f0 pR) = aI (f0 pR)))))
    have z22 : RF rw_X12_heed_u f0 f16 h0 := rf_fm hTH z13 g18 rh0 rfl
    have hF := FM.tr hF g18 rfl
    exact e_I E hW rfl ⟨⟨_, rfl, (by rw [mR]; have e : (RP (aI (f0 pR)) 0).1 = p0.toInt := congrArg Int32.toInt mp0; first | exact sHeed_1 e (by omega) (by omega) (by rw [m21]) | exact sHeed_2 e (by omega) (by omega) (by omega) (by rw [m21]) | exact sHeed_3 e (by omega) (by omega) (by omega) (by rw [m21]))⟩, hF, z22⟩ dX12_heed_32
  · have q23 : 0 ≤ u1.toInt ∧ u1.toInt ≤ 39 := by omega
    refine lv_iload_n hx hb dX12_heed_13 rfl (lv_at hl 2 rfl) ?_
    refine lv_iconst (v := (-1)) hx hb dX12_heed_14 (by decide) ?_
    refine q_icmp_eq (Y := -1) (tgt := 33) hx hb dX12_heed_15 (by decide) rfl rfl (fun c24 => ?_) (fun c24 => ?_)
    · refine lv_iload_n hx hb dX12_heed_33 rfl (lv_at hl 1 rfl) ?_
      refine lv_iload_n hx hb dX12_heed_34 rfl (lv_at hl 2 rfl) ?_
      refine q_icmp_ne (tgt := 45) hx hb dX12_heed_35 (by decide) rfl rfl (fun c25 => ?_) (fun c25 => ?_)
      · refine lv_aload_n hx hb dX12_heed_45 rfl (lv_at hl 0 rfl) ?_
        refine fg_RX12_8 E hW rh0 dX12_heed_46 (fun a26 m27 r28 => ?_)
        obtain rfl : pR = a26 := (((fm_R g9 rh0 rfl).trans ((fm_R g4 rh0 rfl).trans mR))).symm.trans m27
        refine lv_iload_n hx hb dX12_heed_49 rfl (lv_at hl 1 rfl) ?_
        refine t_callS (As := [.int u1]) (rest := [.ref pR]) E hW (c_X12_personAt l G cI cJ cZ cD cR cT kp L f7 hW.2.2.2 _ u1 (by omega)) wk_X12_personAt tw_1572 rfl ⟨Nat.le_of_ble_eq_true rfl, Nat.le_of_ble_eq_true rfl⟩ ⟨rfl, rfl⟩ hl.1 rfl (Nat.le_of_ble_eq_true rfl) dX12_heed_50 ⟨Nat.le_of_ble_eq_true rfl, Nat.le_of_ble_eq_true rfl⟩ (fun v29 f30 H locs q31 hW => ?_)
        obtain ⟨⟨x33, rfl, p34⟩, g32⟩ := q31
        have m35 : aI (f30 pR) = aI (f0 pR) := ((congrArg aI (fm_A g32 rR (by decide) rfl)).trans ((congrArg aI (fm_A g9 rR (by decide) rfl)).trans ((congrArg aI (fm_A g4 rR (by decide) rfl)).trans (rfl : aI (f0 pR) = aI (f0 pR)))))
        have z36 : RF rw_X12_heed_u f0 f30 h0 := rf_fm hTH z13 g32 rh0 rfl
        have hF := FM.tr hF g32 rfl
        refine lv_iconst (v := 3) hx hb dX12_heed_53 (by decide) ?_
        refine q_iadd (Y := 3) hx hb dX12_heed_54 rfl rfl (by omega) (fun x37 h38 => ?_)
        refine lv_iload_n hx hb dX12_heed_55 rfl (lv_at hl 2 rfl) ?_
        refine gs_822 E hW rR ⟨by omega, by omega⟩ (fun hc => rr_up hc (by omega) (by omega) (by unfold rbI; omega)) dX12_heed_56 (fun f39 H locs e40 n41 g42 hW => ?_)
        have z43 : RF rw_X12_heed_u f0 f39 h0 := rf_st (lo := 23) (hi := 335) z36 mR e40 (by omega) rfl
        have hF := FM.tr hF g42 rfl
        refine lv_aload_n hx hb dX12_heed_57 rfl (lv_at hl 0 rfl) ?_
        refine lv_iconst (v := 0) hx hb dX12_heed_58 (by decide) ?_
        refine t_callV (As := [.int 0]) (rest := []) E hW (c_X12_told_x l G cI cJ cZ cD cR cT kp L f39 hW.2.2.2 _ h0 0 rh0) rh0 (by decide) rfl wk_X12_told tw_1557 rfl ⟨Nat.le_of_ble_eq_true rfl, Nat.le_of_ble_eq_true rfl⟩ ⟨rfl, rfl⟩ hl.1 rfl (Nat.le_of_ble_eq_true rfl) dX12_heed_59 ⟨Nat.le_of_ble_eq_true rfl, Nat.le_of_ble_eq_true rfl⟩ (fun v44 f45 H locs q46 hW => ?_)
        obtain ⟨⟨x48, rfl, p49⟩, g47⟩ := q46
        have p49 : x48.toInt = (0 : Int) := p49
        have m50 : aI (f45 pR) (0 : Int32).toNatClampNeg = p0 := ((congrArg (fun z => aI z (0 : Int32).toNatClampNeg) (fm_A g47 rR (by decide) rfl)).trans (show aI (f39 pR) (0 : Int32).toNatClampNeg = p0 from by rw [e40, up_n (tn_ne (by omega) (by decide) (by have hk0 : (0 : Int32).toInt = 0 := rfl; omega))]; exact ((congrArg (fun z => aI z (0 : Int32).toNatClampNeg) (fm_A g32 rR (by decide) rfl)).trans m12)))
        have z51 : RF rw_X12_heed_u f0 f45 h0 := rf_fm hTH z43 g47 rh0 rfl
        have hF := FM.tr hF g47 rfl
        exact e_I E hW rfl ⟨⟨_, rfl, (by rw [mR]; have e : (RP (aI (f0 pR)) 0).1 = p0.toInt := congrArg Int32.toInt mp0; first | exact sHeed_1 e (by omega) (by omega) (by rw [((congrArg aI (fm_A g47 rR (by decide) rfl)).trans (e40.trans (congrArg (fun z => upd z (x37 : Int32).toNatClampNeg u2) m35)))]; exact rp_heed (by omega) (by omega)) | exact sHeed_2 e (by omega) (by omega) (by omega) (by rw [((congrArg aI (fm_A g47 rR (by decide) rfl)).trans (e40.trans (congrArg (fun z => upd z (x37 : Int32).toNatClampNeg u2) m35)))]; exact rp_heed (by omega) (by omega)) | exact sHeed_3 e (by omega) (by omega) (by omega) (by rw [((congrArg aI (fm_A g47 rR (by decide) rfl)).trans (e40.trans (congrArg (fun z => upd z (x37 : Int32).toNatClampNeg u2) m35)))]; exact rp_heed (by omega) (by omega)))⟩, hF, z51⟩ dX12_heed_62
      · exfalso; omega
    · refine lv_aload_n hx hb dX12_heed_18 rfl (lv_at hl 0 rfl) ?_
      refine lv_iload_n hx hb dX12_heed_19 rfl (lv_at hl 2 rfl) ?_
      refine t_callV (As := [.int u2]) (rest := []) E hW (c_X12_isPerson_x l G cI cJ cZ cD cR cT kp L f7 hW.2.2.2 _ h0 u2 rh0) rh0 (by decide) rfl wk_X12_isPerson tw_1583 rfl ⟨Nat.le_of_ble_eq_true rfl, Nat.le_of_ble_eq_true rfl⟩ ⟨rfl, rfl⟩ hl.1 rfl (Nat.le_of_ble_eq_true rfl) dX12_heed_20 ⟨Nat.le_of_ble_eq_true rfl, Nat.le_of_ble_eq_true rfl⟩ (fun v52 f53 H locs q54 hW => ?_)
      obtain ⟨⟨x56, rfl, p57⟩, g55⟩ := q54
      rw [((fm_R g9 rh0 rfl).trans ((fm_R g4 rh0 rfl).trans mR)), m12] at p57
      have m58 : aI (f53 pR) = aI (f0 pR) := ((congrArg aI (fm_A g55 rR (by decide) rfl)).trans ((congrArg aI (fm_A g9 rR (by decide) rfl)).trans ((congrArg aI (fm_A g4 rR (by decide) rfl)).trans (rfl : aI (f0 pR) = aI (f0 pR)))))
      have z59 : RF rw_X12_heed_u f0 f53 h0 := rf_fm hTH z13 g55 rh0 rfl
      have hF := FM.tr hF g55 rfl
      refine q_if_ne (tgt := 33) hx hb dX12_heed_23 (by decide) rfl (fun c60 => ?_) (fun c60 => ?_)
      · have q61 : 0 ≤ u2.toInt ∧ u2.toInt ≤ 39 := by omega
        refine lv_iload_n hx hb dX12_heed_33 rfl (lv_at hl 1 rfl) ?_
        refine lv_iload_n hx hb dX12_heed_34 rfl (lv_at hl 2 rfl) ?_
        refine q_icmp_ne (tgt := 45) hx hb dX12_heed_35 (by decide) rfl rfl (fun c62 => ?_) (fun c62 => ?_)
        · refine lv_aload_n hx hb dX12_heed_45 rfl (lv_at hl 0 rfl) ?_
          refine fg_RX12_8 E hW rh0 dX12_heed_46 (fun a63 m64 r65 => ?_)
          obtain rfl : pR = a63 := (((fm_R g55 rh0 rfl).trans ((fm_R g9 rh0 rfl).trans ((fm_R g4 rh0 rfl).trans mR)))).symm.trans m64
          refine lv_iload_n hx hb dX12_heed_49 rfl (lv_at hl 1 rfl) ?_
          refine t_callS (As := [.int u1]) (rest := [.ref pR]) E hW (c_X12_personAt l G cI cJ cZ cD cR cT kp L f53 hW.2.2.2 _ u1 (by omega)) wk_X12_personAt tw_1572 rfl ⟨Nat.le_of_ble_eq_true rfl, Nat.le_of_ble_eq_true rfl⟩ ⟨rfl, rfl⟩ hl.1 rfl (Nat.le_of_ble_eq_true rfl) dX12_heed_50 ⟨Nat.le_of_ble_eq_true rfl, Nat.le_of_ble_eq_true rfl⟩ (fun v66 f67 H locs q68 hW => ?_)
          obtain ⟨⟨x70, rfl, p71⟩, g69⟩ := q68
          have m72 : aI (f67 pR) (0 : Int32).toNatClampNeg = p0 := ((congrArg (fun z => aI z (0 : Int32).toNatClampNeg) (fm_A g69 rR (by decide) rfl)).trans ((congrArg (fun z => aI z (0 : Int32).toNatClampNeg) (fm_A g55 rR (by decide) rfl)).trans m12))
          have z73 : RF rw_X12_heed_u f0 f67 h0 := rf_fm hTH z59 g69 rh0 rfl
          have hF := FM.tr hF g69 rfl
          refine lv_iconst (v := 3) hx hb dX12_heed_53 (by decide) ?_
          refine q_iadd (Y := 3) hx hb dX12_heed_54 rfl rfl (by omega) (fun x74 h75 => ?_)
          refine lv_iload_n hx hb dX12_heed_55 rfl (lv_at hl 2 rfl) ?_
          refine gs_822 E hW rR ⟨by omega, by omega⟩ (fun hc => rr_up hc (by omega) (by omega) (by unfold rbI; omega)) dX12_heed_56 (fun f76 H locs e77 n78 g79 hW => ?_)
          have z80 : RF rw_X12_heed_u f0 f76 h0 := rf_st (lo := 23) (hi := 335) z73 mR e77 (by omega) rfl
          have hF := FM.tr hF g79 rfl
          refine lv_aload_n hx hb dX12_heed_57 rfl (lv_at hl 0 rfl) ?_
          refine lv_iconst (v := 0) hx hb dX12_heed_58 (by decide) ?_
          refine t_callV (As := [.int 0]) (rest := []) E hW (c_X12_told_x l G cI cJ cZ cD cR cT kp L f76 hW.2.2.2 _ h0 0 rh0) rh0 (by decide) rfl wk_X12_told tw_1557 rfl ⟨Nat.le_of_ble_eq_true rfl, Nat.le_of_ble_eq_true rfl⟩ ⟨rfl, rfl⟩ hl.1 rfl (Nat.le_of_ble_eq_true rfl) dX12_heed_59 ⟨Nat.le_of_ble_eq_true rfl, Nat.le_of_ble_eq_true rfl⟩ (fun v81 f82 H locs q83 hW => ?_)
          obtain ⟨⟨x85, rfl, p86⟩, g84⟩ := q83
          have p86 : x85.toInt = (0 : Int) := p86
          have m87 : aI (f82 pR) (0 : Int32).toNatClampNeg = p0 := ((congrArg (fun z => aI z (0 : Int32).toNatClampNeg) (fm_A g84 rR (by decide) rfl)).trans (show aI (f76 pR) (0 : Int32).toNatClampNeg = p0 from by rw [e77, up_n (tn_ne (by omega) (by decide) (by have hk0 : (0 : Int32).toInt = 0 := rfl; omega))]; exact m72))
          have z88 : RF rw_X12_heed_u f0 f82 h0 := rf_fm hTH z80 g84 rh0 rfl
          have hF := FM.tr hF g84 rfl
          exact e_I E hW rfl ⟨⟨_, rfl, (by rw [mR]; have e : (RP (aI (f0 pR)) 0).1 = p0.toInt := congrArg Int32.toInt mp0; first | exact sHeed_1 e (by omega) (by omega) (by rw [((congrArg aI (fm_A g84 rR (by decide) rfl)).trans (e77.trans (congrArg (fun z => upd z (x74 : Int32).toNatClampNeg u2) ((congrArg aI (fm_A g69 rR (by decide) rfl)).trans m58))))]; exact rp_heed (by omega) (by omega)) | exact sHeed_2 e (by omega) (by omega) (by omega) (by rw [((congrArg aI (fm_A g84 rR (by decide) rfl)).trans (e77.trans (congrArg (fun z => upd z (x74 : Int32).toNatClampNeg u2) ((congrArg aI (fm_A g69 rR (by decide) rfl)).trans m58))))]; exact rp_heed (by omega) (by omega)) | exact sHeed_3 e (by omega) (by omega) (by omega) (by rw [((congrArg aI (fm_A g84 rR (by decide) rfl)).trans (e77.trans (congrArg (fun z => upd z (x74 : Int32).toNatClampNeg u2) ((congrArg aI (fm_A g69 rR (by decide) rfl)).trans m58))))]; exact rp_heed (by omega) (by omega)))⟩, hF, z88⟩ dX12_heed_62
        · refine lv_aload_n hx hb dX12_heed_38 rfl (lv_at hl 0 rfl) ?_
          refine lv_bipush (v := (-3)) hx hb dX12_heed_39 (by decide) ?_
          refine t_callV (As := [.int (-3)]) (rest := []) E hW (c_X12_told_x l G cI cJ cZ cD cR cT kp L f53 hW.2.2.2 _ h0 (-3) rh0) rh0 (by decide) rfl wk_X12_told tw_1557 rfl ⟨Nat.le_of_ble_eq_true rfl, Nat.le_of_ble_eq_true rfl⟩ ⟨rfl, rfl⟩ hl.1 rfl (Nat.le_of_ble_eq_true rfl) dX12_heed_41 ⟨Nat.le_of_ble_eq_true rfl, Nat.le_of_ble_eq_true rfl⟩ (fun v89 f90 H locs q91 hW => ?_)
          obtain ⟨⟨x93, rfl, p94⟩, g92⟩ := q91
          have p94 : x93.toInt = (-3 : Int) := p94
          have m95 : aI (f90 pR) (0 : Int32).toNatClampNeg = p0 := ((congrArg (fun z => aI z (0 : Int32).toNatClampNeg) (fm_A g92 rR (by decide) rfl)).trans ((congrArg (fun z => aI z (0 : Int32).toNatClampNeg) (fm_A g55 rR (by decide) rfl)).trans m12))
          have z96 : RF rw_X12_heed_u f0 f90 h0 := rf_fm hTH z59 g92 rh0 rfl
          have hF := FM.tr hF g92 rfl
          exact e_I E hW rfl ⟨⟨_, rfl, (by rw [mR]; have e : (RP (aI (f0 pR)) 0).1 = p0.toInt := congrArg Int32.toInt mp0; first | exact sHeed_1 e (by omega) (by omega) (by rw [((congrArg aI (fm_A g92 rR (by decide) rfl)).trans m58)]) | exact sHeed_2 e (by omega) (by omega) (by omega) (by rw [((congrArg aI (fm_A g92 rR (by decide) rfl)).trans m58)]) | exact sHeed_3 e (by omega) (by omega) (by omega) (by rw [((congrArg aI (fm_A g92 rR (by decide) rfl)).trans m58)]))⟩, hF, z96⟩ dX12_heed_44
      · refine lv_aload_n hx hb dX12_heed_26 rfl (lv_at hl 0 rfl) ?_
        refine lv_bipush (v := (-2)) hx hb dX12_heed_27 (by decide) ?_
        refine t_callV (As := [.int (-2)]) (rest := []) E hW (c_X12_told_x l G cI cJ cZ cD cR cT kp L f53 hW.2.2.2 _ h0 (-2) rh0) rh0 (by decide) rfl wk_X12_told tw_1557 rfl ⟨Nat.le_of_ble_eq_true rfl, Nat.le_of_ble_eq_true rfl⟩ ⟨rfl, rfl⟩ hl.1 rfl (Nat.le_of_ble_eq_true rfl) dX12_heed_29 ⟨Nat.le_of_ble_eq_true rfl, Nat.le_of_ble_eq_true rfl⟩ (fun v97 f98 H locs q99 hW => ?_)
        obtain ⟨⟨x101, rfl, p102⟩, g100⟩ := q99
        have p102 : x101.toInt = (-2 : Int) := p102
        have m103 : aI (f98 pR) (0 : Int32).toNatClampNeg = p0 := ((congrArg (fun z => aI z (0 : Int32).toNatClampNeg) (fm_A g100 rR (by decide) rfl)).trans ((congrArg (fun z => aI z (0 : Int32).toNatClampNeg) (fm_A g55 rR (by decide) rfl)).trans m12))
        have z104 : RF rw_X12_heed_u f0 f98 h0 := rf_fm hTH z59 g100 rh0 rfl
        have hF := FM.tr hF g100 rfl
        exact e_I E hW rfl ⟨⟨_, rfl, (by rw [mR]; have e : (RP (aI (f0 pR)) 0).1 = p0.toInt := congrArg Int32.toInt mp0; first | exact sHeed_1 e (by omega) (by omega) (by rw [((congrArg aI (fm_A g100 rR (by decide) rfl)).trans m58)]) | exact sHeed_2 e (by omega) (by omega) (by omega) (by rw [((congrArg aI (fm_A g100 rR (by decide) rfl)).trans m58)]) | exact sHeed_3 e (by omega) (by omega) (by omega) (by rw [((congrArg aI (fm_A g100 rR (by decide) rfl)).trans m58)]))⟩, hF, z104⟩ dX12_heed_32
def rw_X12_goes_u : List (Nat × Nat) := [(25, 337)]
def ms_X12_goes_u : List (Nat × Nat) := [(12, 0), (12, 1), (822, 0)]
def po_X12_goes_u (kp : Nat → Nat) (L : List Nat) (f0 : Nat → va_E) (h0 : Nat) (u1 : Int32) (u2 : Int32) : Option Value → (Nat → va_E) → Prop := fun v f => (∃ r : Int32, v = some (.int r) ∧ ((r.toInt, RP (aI (f (oR (f0 h0) 2))) 0) = sGoes (RP (aI (f0 (oR (f0 h0) 2))) 0) u1.toInt u2.toInt)) ∧ FM kp L ms_X12_goes_u f0 f ∧ (RF rw_X12_goes_u f0 f h0)
set_option maxHeartbeats 4000000 in
set_option maxRecDepth 100000 in
theorem c_X12_goes_u (l : Launch) (G : va_G) (cI cJ cZ cD cR cT : ClassId) (kp : Nat → Nat) (L : List Nat) (f0 : Nat → va_E) (hTH : TH cI cJ cZ cD cR cT kp L f0) (sz : Nat) (h0 : Nat) (u1 : Int32) (u2 : Int32) (rh0 : RK kp L h0 12) : Met l yX12_goes (Cond.code yX12_goes cX12_goes 3 (some .int) :: wTab) ({ frames := 3, cells := 0, slots := 0, locals := 86 }) (va_Pc [.ref h0, .int u1, .int u2] (PreW G (tys6 cI cJ cZ cD cR cT) (va_pl L f0) sz)) (QT (po_X12_goes_u kp L f0 h0 u1 u2) G cI cJ cZ cD cR cT (va_A (va_pl L f0) sz) kp L) 0 0 (va_A (va_pl L f0) sz) := by
  refine metT (by decide) (Nat.le_of_ble_eq_true rfl) hTH ?_
  intro p e s m below meth c A ls E hW hl
  obtain ⟨hx, hb, -, hml, hown, hts, -, -, -⟩ := id E
  have hF : FM kp L ms_X12_goes_u f0 f0 := FM.rf
  have hl : lv_has ls 3 [(0, .ref h0), (1, .int u1), (2, .int u2)] := hl
  obtain ⟨pR, mR⟩ : ∃ x : Nat, oR (f0 h0) 2 = x := ⟨_, rfl⟩
  have rR : RK kp L pR 822 := by rw [← mR]; exact th_ref hTH rh0 (by decide) (by decide) rfl
  obtain ⟨p0, mp0⟩ : ∃ x : Int32, aI (f0 pR) (0 : Int32).toNatClampNeg = x := ⟨_, rfl⟩
  have hr0 : (0 : Int) ≤ p0.toInt ∧ p0.toInt ≤ 40 := rr_0 (th_row hTH rR) mp0 rfl
  refine lv_aload_n hx hb dX12_goes_0 rfl (lv_at hl 0 rfl) ?_
  refine lv_iconst (v := 0) hx hb dX12_goes_1 (by decide) ?_
  refine fp_RX12_82 E hW rh0 dX12_goes_2 (fun f1 H locs e2 n3 g4 hW => ?_)
  have z5 : RF rw_X12_goes_u f0 f1 h0 := rf_fm hTH rf_rf g4 rh0 rfl
  have hF := FM.tr hF g4 rfl
  refine lv_iload_n hx hb dX12_goes_5 rfl (lv_at hl 2 rfl) ?_
  refine q_i2l hx hb dX12_goes_6 rfl (fun x6 h7 => ?_)
  have hb8 : -2147483648 ≤ x6.toInt ∧ x6.toInt ≤ 2147483647 := by have := i32_b u2; omega
  refine lv_lconst (v := 0) hx hb dX12_goes_7 (by decide) ?_
  refine lv_ldc2 (v := 4) hx hb hown (hts _ tw_1591) dX12_goes_8 ?_
  refine t_callS (As := [.long x6, .long 0, .long 4]) (rest := []) E hW (c_X12_in l G cI cJ cZ cD cR cT kp L f1 hW.2.2.2 _ x6 0 4) wk_X12_in tw_1554 rfl ⟨Nat.le_of_ble_eq_true rfl, Nat.le_of_ble_eq_true rfl⟩ ⟨rfl, rfl⟩ hl.1 rfl (Nat.le_of_ble_eq_true rfl) dX12_goes_11 ⟨Nat.le_of_ble_eq_true rfl, Nat.le_of_ble_eq_true rfl⟩ (fun v9 f10 H locs q11 hW => ?_)
  obtain ⟨⟨x13, rfl, p14⟩, g12⟩ := q11
  have p14 : (x13.toInt = 1 ∧ (0 : Int) ≤ x6.toInt ∧ x6.toInt ≤ (4 : Int)) ∨ (x13.toInt = 0 ∧ (x6.toInt < (0 : Int) ∨ (4 : Int) < x6.toInt)) := p14
  have m15 : aI (f10 pR) (0 : Int32).toNatClampNeg = p0 := ((congrArg (fun z => aI z (0 : Int32).toNatClampNeg) (fm_A g12 rR (by decide) rfl)).trans ((congrArg (fun z => aI z (0 : Int32).toNatClampNeg) (fm_A g4 rR (by decide) rfl)).trans mp0))
  have z16 : RF rw_X12_goes_u f0 f10 h0 := rf_fm hTH z5 g12 rh0 rfl
  have hF := FM.tr hF g12 rfl
  refine q_if_ne (tgt := 23) hx hb dX12_goes_14 (by decide) rfl (fun c17 => ?_) (fun c17 => ?_)
  · have q18 : (0 : Int) ≤ x6.toInt ∧ x6.toInt ≤ (4 : Int) := by omega
    clear p14
    refine lv_aload_n hx hb dX12_goes_23 rfl (lv_at hl 0 rfl) ?_
    refine lv_iload_n hx hb dX12_goes_24 rfl (lv_at hl 1 rfl) ?_
    refine t_callV (As := [.int u1]) (rest := []) E hW (c_X12_isPerson_x l G cI cJ cZ cD cR cT kp L f10 hW.2.2.2 _ h0 u1 rh0) rh0 (by decide) rfl wk_X12_isPerson tw_1583 rfl ⟨Nat.le_of_ble_eq_true rfl, Nat.le_of_ble_eq_true rfl⟩ ⟨rfl, rfl⟩ hl.1 rfl (Nat.le_of_ble_eq_true rfl) dX12_goes_25 ⟨Nat.le_of_ble_eq_true rfl, Nat.le_of_ble_eq_true rfl⟩ (fun v19 f20 H locs q21 hW => ?_)
    obtain ⟨⟨x23, rfl, p24⟩, g22⟩ := q21
    rw [((fm_R g12 rh0 rfl).trans ((fm_R g4 rh0 rfl).trans mR)), m15] at p24
    have m25 : aI (f20 pR) = aI (f0 pR) := ((congrArg aI (fm_A g22 rR (by decide) rfl)).trans ((congrArg aI (fm_A g12 rR (by decide) rfl)).trans ((congrArg aI (fm_A g4 rR (by decide) rfl)).trans (rfl : aI (f0 pR) = aI (f0 pR)))))
    have z26 : RF rw_X12_goes_u f0 f20 h0 := rf_fm hTH z16 g22 rh0 rfl
    have hF := FM.tr hF g22 rfl
    refine q_if_ne (tgt := 38) hx hb dX12_goes_28 (by decide) rfl (fun c27 => ?_) (fun c27 => ?_)
    · have q28 : 0 ≤ u1.toInt ∧ u1.toInt ≤ 39 := by omega
      refine lv_aload_n hx hb dX12_goes_38 rfl (lv_at hl 0 rfl) ?_
      refine fg_RX12_8 E hW rh0 dX12_goes_39 (fun a29 m30 r31 => ?_)
      obtain rfl : pR = a29 := (((fm_R g22 rh0 rfl).trans ((fm_R g12 rh0 rfl).trans ((fm_R g4 rh0 rfl).trans mR)))).symm.trans m30
      refine lv_iload_n hx hb dX12_goes_42 rfl (lv_at hl 1 rfl) ?_
      refine t_callS (As := [.int u1]) (rest := [.ref pR]) E hW (c_X12_personAt l G cI cJ cZ cD cR cT kp L f20 hW.2.2.2 _ u1 (by omega)) wk_X12_personAt tw_1572 rfl ⟨Nat.le_of_ble_eq_true rfl, Nat.le_of_ble_eq_true rfl⟩ ⟨rfl, rfl⟩ hl.1 rfl (Nat.le_of_ble_eq_true rfl) dX12_goes_43 ⟨Nat.le_of_ble_eq_true rfl, Nat.le_of_ble_eq_true rfl⟩ (fun v32 f33 H locs q34 hW => ?_)
      obtain ⟨⟨x36, rfl, p37⟩, g35⟩ := q34
      have m38 : aI (f33 pR) (0 : Int32).toNatClampNeg = p0 := ((congrArg (fun z => aI z (0 : Int32).toNatClampNeg) (fm_A g35 rR (by decide) rfl)).trans ((congrArg (fun z => aI z (0 : Int32).toNatClampNeg) (fm_A g22 rR (by decide) rfl)).trans m15))
      have z39 : RF rw_X12_goes_u f0 f33 h0 := rf_fm hTH z26 g35 rh0 rfl
      have hF := FM.tr hF g35 rfl
      refine lv_iconst (v := 5) hx hb dX12_goes_46 (by decide) ?_
      refine q_iadd (Y := 5) hx hb dX12_goes_47 rfl rfl (by omega) (fun x40 h41 => ?_)
      refine gl_822 E hW rR ⟨by omega, by omega⟩ dX12_goes_48 (fun y42 m43 b44 => ?_)
      have z45 : aI (f0 pR) (x40 : Int32).toNatClampNeg = y42 := (congrFun ((congrArg aI (fm_A g35 rR (by decide) rfl)).trans m25) _).symm.trans m43
      refine lv_iconst (v := 4) hx hb dX12_goes_49 (by decide) ?_
      refine q_icmp_ne (Y := 4) (tgt := 60) hx hb dX12_goes_50 (by decide) rfl rfl (fun c46 => ?_) (fun c46 => ?_)
      · refine lv_aload_n hx hb dX12_goes_60 rfl (lv_at hl 0 rfl) ?_
        refine fg_RX12_8 E hW rh0 dX12_goes_61 (fun a47 m48 r49 => ?_)
        obtain rfl : pR = a47 := (((fm_R g35 rh0 rfl).trans m30)).symm.trans m48
        refine lv_iload_n hx hb dX12_goes_64 rfl (lv_at hl 1 rfl) ?_
        refine t_callS (As := [.int u1]) (rest := [.ref pR]) E hW (c_X12_personAt l G cI cJ cZ cD cR cT kp L f33 hW.2.2.2 _ u1 (by omega)) wk_X12_personAt tw_1572 rfl ⟨Nat.le_of_ble_eq_true rfl, Nat.le_of_ble_eq_true rfl⟩ ⟨rfl, rfl⟩ hl.1 rfl (Nat.le_of_ble_eq_true rfl) dX12_goes_65 ⟨Nat.le_of_ble_eq_true rfl, Nat.le_of_ble_eq_true rfl⟩ (fun v50 f51 H locs q52 hW => ?_)
        obtain ⟨⟨x54, rfl, p55⟩, g53⟩ := q52
        have z56 : RF rw_X12_goes_u f0 f51 h0 := rf_fm hTH z39 g53 rh0 rfl
        have hF := FM.tr hF g53 rfl
        refine lv_iconst (v := 5) hx hb dX12_goes_68 (by decide) ?_
        refine q_iadd (Y := 5) hx hb dX12_goes_69 rfl rfl (by omega) (fun x57 h58 => ?_)
        refine lv_iload_n hx hb dX12_goes_70 rfl (lv_at hl 2 rfl) ?_
        refine gs_822 E hW rR ⟨by omega, by omega⟩ (fun hc => rr_up hc (by omega) (by omega) (by unfold rbI; omega)) dX12_goes_71 (fun f59 H locs e60 n61 g62 hW => ?_)
        have z63 : RF rw_X12_goes_u f0 f59 h0 := rf_st (lo := 25) (hi := 337) z56 mR e60 (by omega) rfl
        have hF := FM.tr hF g62 rfl
        refine lv_aload_n hx hb dX12_goes_72 rfl (lv_at hl 0 rfl) ?_
        refine lv_iconst (v := 0) hx hb dX12_goes_73 (by decide) ?_
        refine t_callV (As := [.int 0]) (rest := []) E hW (c_X12_told_x l G cI cJ cZ cD cR cT kp L f59 hW.2.2.2 _ h0 0 rh0) rh0 (by decide) rfl wk_X12_told tw_1557 rfl ⟨Nat.le_of_ble_eq_true rfl, Nat.le_of_ble_eq_true rfl⟩ ⟨rfl, rfl⟩ hl.1 rfl (Nat.le_of_ble_eq_true rfl) dX12_goes_74 ⟨Nat.le_of_ble_eq_true rfl, Nat.le_of_ble_eq_true rfl⟩ (fun v64 f65 H locs q66 hW => ?_)
        obtain ⟨⟨x68, rfl, p69⟩, g67⟩ := q66
        have p69 : x68.toInt = (0 : Int) := p69
        have m70 : aI (f65 pR) (0 : Int32).toNatClampNeg = p0 := ((congrArg (fun z => aI z (0 : Int32).toNatClampNeg) (fm_A g67 rR (by decide) rfl)).trans (show aI (f59 pR) (0 : Int32).toNatClampNeg = p0 from by rw [e60, up_n (tn_ne (by omega) (by decide) (by have hk0 : (0 : Int32).toInt = 0 := rfl; omega))]; exact ((congrArg (fun z => aI z (0 : Int32).toNatClampNeg) (fm_A g53 rR (by decide) rfl)).trans m38)))
        have m71 : aI (f65 pR) = upd (aI (f0 pR)) (x57 : Int32).toNatClampNeg u2 := ((congrArg aI (fm_A g67 rR (by decide) rfl)).trans (e60.trans (congrArg (fun z => upd z (x57 : Int32).toNatClampNeg u2) ((congrArg aI (fm_A g53 rR (by decide) rfl)).trans ((congrArg aI (fm_A g35 rR (by decide) rfl)).trans m25)))))
        have z72 : RF rw_X12_goes_u f0 f65 h0 := rf_fm hTH z63 g67 rh0 rfl
        have hF := FM.tr hF g67 rfl
        exact e_I E hW rfl ⟨⟨_, rfl, (by rw [mR]; have e : (RP (aI (f0 pR)) 0).1 = p0.toInt := congrArg Int32.toInt mp0; first | exact sGoes_1 (by omega) (by omega) (by rw [m71]; exact rp_goes (by omega) (by omega)) | exact sGoes_2 e (by omega) (by omega) (by omega) (by rw [m71]; exact rp_goes (by omega) (by omega)) | exact sGoes_3 e (by omega) (by omega) ((rp_deadAt (by omega) (by omega) z45).trans (decide_eq_true (by omega))) (by omega) (by rw [m71]; exact rp_goes (by omega) (by omega)) | exact sGoes_4 e (by omega) (by omega) ((rp_deadAt (by omega) (by omega) z45).trans (decide_eq_false (by omega))) (by omega) (by rw [m71]; exact rp_goes (by omega) (by omega)))⟩, hF, z72⟩ dX12_goes_77
      · refine lv_aload_n hx hb dX12_goes_53 rfl (lv_at hl 0 rfl) ?_
        refine lv_bipush (v := (-3)) hx hb dX12_goes_54 (by decide) ?_
        refine t_callV (As := [.int (-3)]) (rest := []) E hW (c_X12_told_x l G cI cJ cZ cD cR cT kp L f33 hW.2.2.2 _ h0 (-3) rh0) rh0 (by decide) rfl wk_X12_told tw_1557 rfl ⟨Nat.le_of_ble_eq_true rfl, Nat.le_of_ble_eq_true rfl⟩ ⟨rfl, rfl⟩ hl.1 rfl (Nat.le_of_ble_eq_true rfl) dX12_goes_56 ⟨Nat.le_of_ble_eq_true rfl, Nat.le_of_ble_eq_true rfl⟩ (fun v73 f74 H locs q75 hW => ?_)
        obtain ⟨⟨x77, rfl, p78⟩, g76⟩ := q75
        have p78 : x77.toInt = (-3 : Int) := p78
        have z79 : RF rw_X12_goes_u f0 f74 h0 := rf_fm hTH z39 g76 rh0 rfl
        have hF := FM.tr hF g76 rfl
        exact e_I E hW rfl ⟨⟨_, rfl, (by rw [mR]; have e : (RP (aI (f0 pR)) 0).1 = p0.toInt := congrArg Int32.toInt mp0; first | exact sGoes_1 (by omega) (by omega) (by rw [((congrArg aI (fm_A g76 rR (by decide) rfl)).trans ((congrArg aI (fm_A g35 rR (by decide) rfl)).trans m25))]) | exact sGoes_2 e (by omega) (by omega) (by omega) (by rw [((congrArg aI (fm_A g76 rR (by decide) rfl)).trans ((congrArg aI (fm_A g35 rR (by decide) rfl)).trans m25))]) | exact sGoes_3 e (by omega) (by omega) ((rp_deadAt (by omega) (by omega) z45).trans (decide_eq_true (by omega))) (by omega) (by rw [((congrArg aI (fm_A g76 rR (by decide) rfl)).trans ((congrArg aI (fm_A g35 rR (by decide) rfl)).trans m25))]) | exact sGoes_4 e (by omega) (by omega) ((rp_deadAt (by omega) (by omega) z45).trans (decide_eq_false (by omega))) (by omega) (by rw [((congrArg aI (fm_A g76 rR (by decide) rfl)).trans ((congrArg aI (fm_A g35 rR (by decide) rfl)).trans m25))]))⟩, hF, z79⟩ dX12_goes_59
    · refine lv_aload_n hx hb dX12_goes_31 rfl (lv_at hl 0 rfl) ?_
      refine lv_bipush (v := (-2)) hx hb dX12_goes_32 (by decide) ?_
      refine t_callV (As := [.int (-2)]) (rest := []) E hW (c_X12_told_x l G cI cJ cZ cD cR cT kp L f20 hW.2.2.2 _ h0 (-2) rh0) rh0 (by decide) rfl wk_X12_told tw_1557 rfl ⟨Nat.le_of_ble_eq_true rfl, Nat.le_of_ble_eq_true rfl⟩ ⟨rfl, rfl⟩ hl.1 rfl (Nat.le_of_ble_eq_true rfl) dX12_goes_34 ⟨Nat.le_of_ble_eq_true rfl, Nat.le_of_ble_eq_true rfl⟩ (fun v80 f81 H locs q82 hW => ?_)
      obtain ⟨⟨x84, rfl, p85⟩, g83⟩ := q82
      have p85 : x84.toInt = (-2 : Int) := p85
      have m86 : aI (f81 pR) (0 : Int32).toNatClampNeg = p0 := ((congrArg (fun z => aI z (0 : Int32).toNatClampNeg) (fm_A g83 rR (by decide) rfl)).trans ((congrArg (fun z => aI z (0 : Int32).toNatClampNeg) (fm_A g22 rR (by decide) rfl)).trans m15))
      have z87 : RF rw_X12_goes_u f0 f81 h0 := rf_fm hTH z26 g83 rh0 rfl
      have hF := FM.tr hF g83 rfl
      exact e_I E hW rfl ⟨⟨_, rfl, (by rw [mR]; have e : (RP (aI (f0 pR)) 0).1 = p0.toInt := congrArg Int32.toInt mp0; first | exact sGoes_1 (by omega) (by omega) (by rw [((congrArg aI (fm_A g83 rR (by decide) rfl)).trans m25)]) | exact sGoes_2 e (by omega) (by omega) (by omega) (by rw [((congrArg aI (fm_A g83 rR (by decide) rfl)).trans m25)]) | exact sGoes_3 e (by omega) (by omega) (nofun) (by omega) (by rw [((congrArg aI (fm_A g83 rR (by decide) rfl)).trans m25)]) | exact sGoes_4 e (by omega) (by omega) (nofun) (by omega) (by rw [((congrArg aI (fm_A g83 rR (by decide) rfl)).trans m25)]))⟩, hF, z87⟩ dX12_goes_37
  · have q88 : (x6.toInt < (0 : Int) ∨ (4 : Int) < x6.toInt) := by omega
    clear p14
    refine lv_aload_n hx hb dX12_goes_17 rfl (lv_at hl 0 rfl) ?_
    refine lv_iconst (v := (-1)) hx hb dX12_goes_18 (by decide) ?_
    refine t_callV (As := [.int (-1)]) (rest := []) E hW (c_X12_told_x l G cI cJ cZ cD cR cT kp L f10 hW.2.2.2 _ h0 (-1) rh0) rh0 (by decide) rfl wk_X12_told tw_1557 rfl ⟨Nat.le_of_ble_eq_true rfl, Nat.le_of_ble_eq_true rfl⟩ ⟨rfl, rfl⟩ hl.1 rfl (Nat.le_of_ble_eq_true rfl) dX12_goes_19 ⟨Nat.le_of_ble_eq_true rfl, Nat.le_of_ble_eq_true rfl⟩ (fun v89 f90 H locs q91 hW => ?_)
    obtain ⟨⟨x93, rfl, p94⟩, g92⟩ := q91
    have p94 : x93.toInt = (-1 : Int) := p94
    have m95 : aI (f90 pR) = aI (f0 pR) := ((congrArg aI (fm_A g92 rR (by decide) rfl)).trans ((congrArg aI (fm_A g12 rR (by decide) rfl)).trans ((congrArg aI (fm_A g4 rR (by decide) rfl)).trans (rfl : aI (f0 pR) = aI (f0 pR)))))
    have z96 : RF rw_X12_goes_u f0 f90 h0 := rf_fm hTH z16 g92 rh0 rfl
    have hF := FM.tr hF g92 rfl
    exact e_I E hW rfl ⟨⟨_, rfl, (by rw [mR]; have e : (RP (aI (f0 pR)) 0).1 = p0.toInt := congrArg Int32.toInt mp0; first | exact sGoes_1 (by omega) (by omega) (by rw [m95]) | exact sGoes_2 e (by omega) (by omega) (by omega) (by rw [m95]) | exact sGoes_3 e (by omega) (by omega) (nofun) (by omega) (by rw [m95]) | exact sGoes_4 e (by omega) (by omega) (nofun) (by omega) (by rw [m95]))⟩, hF, z96⟩ dX12_goes_22
def rw_X12_offer_u : List (Nat × Nat) := [(6, 6), (1164, 1181)]
def ms_X12_offer_u : List (Nat × Nat) := [(12, 0), (12, 1), (822, 0)]
def po_X12_offer_u (kp : Nat → Nat) (L : List Nat) (f0 : Nat → va_E) (h0 : Nat) (u1 : Int32) (u2 : Int32) : Option Value → (Nat → va_E) → Prop := fun v f => (∃ r : Int32, v = some (.int r) ∧ ((r.toInt, RG (aI (f (oR (f0 h0) 2))) 0) = sOffer (RG (aI (f0 (oR (f0 h0) 2))) 0) u1.toInt u2.toInt)) ∧ FM kp L ms_X12_offer_u f0 f ∧ (RF rw_X12_offer_u f0 f h0)
set_option maxHeartbeats 4000000 in
set_option maxRecDepth 100000 in
theorem c_X12_offer_u (l : Launch) (G : va_G) (cI cJ cZ cD cR cT : ClassId) (kp : Nat → Nat) (L : List Nat) (f0 : Nat → va_E) (hTH : TH cI cJ cZ cD cR cT kp L f0) (sz : Nat) (h0 : Nat) (u1 : Int32) (u2 : Int32) (rh0 : RK kp L h0 12) : Met l yX12_offer (Cond.code yX12_offer cX12_offer 3 (some .int) :: wTab) ({ frames := 2, cells := 0, slots := 0, locals := 65 }) (va_Pc [.ref h0, .int u1, .int u2] (PreW G (tys6 cI cJ cZ cD cR cT) (va_pl L f0) sz)) (QT (po_X12_offer_u kp L f0 h0 u1 u2) G cI cJ cZ cD cR cT (va_A (va_pl L f0) sz) kp L) 0 0 (va_A (va_pl L f0) sz) := by
  refine metT (by decide) (Nat.le_of_ble_eq_true rfl) hTH ?_
  intro p e s m below meth c A ls E hW hl
  obtain ⟨hx, hb, -, hml, hown, hts, -, -, -⟩ := id E
  have hF : FM kp L ms_X12_offer_u f0 f0 := FM.rf
  have hl : lv_has ls 3 [(0, .ref h0), (1, .int u1), (2, .int u2)] := hl
  obtain ⟨pR, mR⟩ : ∃ x : Nat, oR (f0 h0) 2 = x := ⟨_, rfl⟩
  have rR : RK kp L pR 822 := by rw [← mR]; exact th_ref hTH rh0 (by decide) (by decide) rfl
  obtain ⟨p6, mp6⟩ : ∃ x : Int32, aI (f0 pR) (6 : Int32).toNatClampNeg = x := ⟨_, rfl⟩
  have hr6 : (0 : Int) ≤ p6.toInt ∧ p6.toInt ≤ 9 := rr_6 (th_row hTH rR) mp6 rfl
  refine lv_aload_n hx hb dX12_offer_0 rfl (lv_at hl 0 rfl) ?_
  refine lv_iconst (v := 0) hx hb dX12_offer_1 (by decide) ?_
  refine fp_RX12_82 E hW rh0 dX12_offer_2 (fun f1 H locs e2 n3 g4 hW => ?_)
  have z5 : RF rw_X12_offer_u f0 f1 h0 := rf_fm hTH rf_rf g4 rh0 rfl
  have hF := FM.tr hF g4 rfl
  refine lv_iload_n hx hb dX12_offer_5 rfl (lv_at hl 1 rfl) ?_
  refine q_i2l hx hb dX12_offer_6 rfl (fun x6 h7 => ?_)
  have hb8 : -2147483648 ≤ x6.toInt ∧ x6.toInt ≤ 2147483647 := by have := i32_b u1; omega
  refine lv_ldc2 (v := (-1000)) hx hb hown (hts _ tw_2009) dX12_offer_7 ?_
  refine lv_ldc2 (v := 1000) hx hb hown (hts _ tw_1618) dX12_offer_10 ?_
  refine t_callS (As := [.long x6, .long (-1000), .long 1000]) (rest := []) E hW (c_X12_in l G cI cJ cZ cD cR cT kp L f1 hW.2.2.2 _ x6 (-1000) 1000) wk_X12_in tw_1554 rfl ⟨Nat.le_of_ble_eq_true rfl, Nat.le_of_ble_eq_true rfl⟩ ⟨rfl, rfl⟩ hl.1 rfl (Nat.le_of_ble_eq_true rfl) dX12_offer_13 ⟨Nat.le_of_ble_eq_true rfl, Nat.le_of_ble_eq_true rfl⟩ (fun v9 f10 H locs q11 hW => ?_)
  obtain ⟨⟨x13, rfl, p14⟩, g12⟩ := q11
  have p14 : (x13.toInt = 1 ∧ (-1000 : Int) ≤ x6.toInt ∧ x6.toInt ≤ (1000 : Int)) ∨ (x13.toInt = 0 ∧ (x6.toInt < (-1000 : Int) ∨ (1000 : Int) < x6.toInt)) := p14
  have m15 : aI (f10 pR) (6 : Int32).toNatClampNeg = p6 := ((congrArg (fun z => aI z (6 : Int32).toNatClampNeg) (fm_A g12 rR (by decide) rfl)).trans ((congrArg (fun z => aI z (6 : Int32).toNatClampNeg) (fm_A g4 rR (by decide) rfl)).trans mp6))
  have z16 : RF rw_X12_offer_u f0 f10 h0 := rf_fm hTH z5 g12 rh0 rfl
  have hF := FM.tr hF g12 rfl
  refine q_if_eq (tgt := 33) hx hb dX12_offer_16 (by decide) rfl (fun c17 => ?_) (fun c17 => ?_)
  · have q18 : (x6.toInt < (-1000 : Int) ∨ (1000 : Int) < x6.toInt) := by omega
    clear p14
    refine lv_aload_n hx hb dX12_offer_33 rfl (lv_at hl 0 rfl) ?_
    refine lv_iconst (v := (-1)) hx hb dX12_offer_34 (by decide) ?_
    refine t_callV (As := [.int (-1)]) (rest := []) E hW (c_X12_told_x l G cI cJ cZ cD cR cT kp L f10 hW.2.2.2 _ h0 (-1) rh0) rh0 (by decide) rfl wk_X12_told tw_1557 rfl ⟨Nat.le_of_ble_eq_true rfl, Nat.le_of_ble_eq_true rfl⟩ ⟨rfl, rfl⟩ hl.1 rfl (Nat.le_of_ble_eq_true rfl) dX12_offer_35 ⟨Nat.le_of_ble_eq_true rfl, Nat.le_of_ble_eq_true rfl⟩ (fun v19 f20 H locs q21 hW => ?_)
    obtain ⟨⟨x23, rfl, p24⟩, g22⟩ := q21
    have p24 : x23.toInt = (-1 : Int) := p24
    have m25 : aI (f20 pR) = aI (f0 pR) := ((congrArg aI (fm_A g22 rR (by decide) rfl)).trans ((congrArg aI (fm_A g12 rR (by decide) rfl)).trans ((congrArg aI (fm_A g4 rR (by decide) rfl)).trans (rfl : aI (f0 pR) = aI (f0 pR)))))
    have z26 : RF rw_X12_offer_u f0 f20 h0 := rf_fm hTH z16 g22 rh0 rfl
    have hF := FM.tr hF g22 rfl
    exact e_I E hW rfl ⟨⟨_, rfl, (by rw [mR]; have e : (RG (aI (f0 pR)) 0).1 = p6.toInt := congrArg Int32.toInt mp6; first | exact sOffer_1 (by omega) (by omega) (by rw [m25]) | exact sOffer_2 e (by omega) (by omega) (by omega) (by rw [m25]) | exact sOffer_3 e (by omega) (by omega) (by omega) (by rw [m25]))⟩, hF, z26⟩ dX12_offer_38
  · have q27 : (-1000 : Int) ≤ x6.toInt ∧ x6.toInt ≤ (1000 : Int) := by omega
    clear p14
    refine lv_iload_n hx hb dX12_offer_19 rfl (lv_at hl 2 rfl) ?_
    refine q_i2l hx hb dX12_offer_20 rfl (fun x28 h29 => ?_)
    have hb30 : -2147483648 ≤ x28.toInt ∧ x28.toInt ≤ 2147483647 := by have := i32_b u2; omega
    refine lv_ldc2 (v := (-1000)) hx hb hown (hts _ tw_2009) dX12_offer_21 ?_
    refine lv_ldc2 (v := 1000) hx hb hown (hts _ tw_1618) dX12_offer_24 ?_
    refine t_callS (As := [.long x28, .long (-1000), .long 1000]) (rest := []) E hW (c_X12_in l G cI cJ cZ cD cR cT kp L f10 hW.2.2.2 _ x28 (-1000) 1000) wk_X12_in tw_1554 rfl ⟨Nat.le_of_ble_eq_true rfl, Nat.le_of_ble_eq_true rfl⟩ ⟨rfl, rfl⟩ hl.1 rfl (Nat.le_of_ble_eq_true rfl) dX12_offer_27 ⟨Nat.le_of_ble_eq_true rfl, Nat.le_of_ble_eq_true rfl⟩ (fun v31 f32 H locs q33 hW => ?_)
    obtain ⟨⟨x35, rfl, p36⟩, g34⟩ := q33
    have p36 : (x35.toInt = 1 ∧ (-1000 : Int) ≤ x28.toInt ∧ x28.toInt ≤ (1000 : Int)) ∨ (x35.toInt = 0 ∧ (x28.toInt < (-1000 : Int) ∨ (1000 : Int) < x28.toInt)) := p36
    have m37 : aI (f32 pR) = aI (f0 pR) := ((congrArg aI (fm_A g34 rR (by decide) rfl)).trans ((congrArg aI (fm_A g12 rR (by decide) rfl)).trans ((congrArg aI (fm_A g4 rR (by decide) rfl)).trans (rfl : aI (f0 pR) = aI (f0 pR)))))
    have z38 : RF rw_X12_offer_u f0 f32 h0 := rf_fm hTH z16 g34 rh0 rfl
    have hF := FM.tr hF g34 rfl
    refine q_if_ne (tgt := 39) hx hb dX12_offer_30 (by decide) rfl (fun c39 => ?_) (fun c39 => ?_)
    · have q40 : (-1000 : Int) ≤ x28.toInt ∧ x28.toInt ≤ (1000 : Int) := by omega
      clear p36
      refine lv_aload_n hx hb dX12_offer_39 rfl (lv_at hl 0 rfl) ?_
      refine fg_RX12_8 E hW rh0 dX12_offer_40 (fun a41 m42 r43 => ?_)
      obtain rfl : pR = a41 := (((fm_R g34 rh0 rfl).trans ((fm_R g12 rh0 rfl).trans ((fm_R g4 rh0 rfl).trans mR)))).symm.trans m42
      refine lv_bipush (v := 6) hx hb dX12_offer_43 (by decide) ?_
      refine gl_822 E hW rR (by decide) dX12_offer_45 (fun y44 m45 b46 => ?_)
      obtain rfl : p6 = y44 := (((congrArg (fun z => aI z (6 : Int32).toNatClampNeg) (fm_A g34 rR (by decide) rfl)).trans m15)).symm.trans m45
      refine lv_bipush (v := 9) hx hb dX12_offer_46 (by decide) ?_
      refine q_icmp_ne (Y := 9) (tgt := 58) hx hb dX12_offer_48 (by decide) rfl rfl (fun c47 => ?_) (fun c47 => ?_)
      · refine lv_aload_n hx hb dX12_offer_58 rfl (lv_at hl 0 rfl) ?_
        refine fg_RX12_8 E hW rh0 dX12_offer_59 (fun a48 m49 r50 => ?_)
        obtain rfl : pR = a48 := (m42).symm.trans m49
        refine lv_sipush (v := 1164) hx hb dX12_offer_62 (by decide) ?_
        refine lv_iconst (v := 2) hx hb dX12_offer_65 (by decide) ?_
        refine lv_aload_n hx hb dX12_offer_66 rfl (lv_at hl 0 rfl) ?_
        refine fg_RX12_8 E hW rh0 dX12_offer_67 (fun a51 m52 r53 => ?_)
        obtain rfl : pR = a51 := (m49).symm.trans m52
        refine lv_bipush (v := 6) hx hb dX12_offer_70 (by decide) ?_
        refine gl_822 E hW rR (by decide) dX12_offer_72 (fun y54 m55 b56 => ?_)
        obtain rfl : p6 = y54 := (m45).symm.trans m55
        refine q_imul (X := 2) hx hb dX12_offer_73 rfl rfl (by omega) (fun x57 h58 => ?_)
        refine q_iadd (X := 1164) hx hb dX12_offer_74 rfl rfl (by omega) (fun x59 h60 => ?_)
        refine lv_iload_n hx hb dX12_offer_75 rfl (lv_at hl 1 rfl) ?_
        refine gs_822 E hW rR ⟨by omega, by omega⟩ (fun hc => rr_up hc (by omega) (by omega) (by unfold rbI; omega)) dX12_offer_76 (fun f61 H locs e62 n63 g64 hW => ?_)
        have z65 : RF rw_X12_offer_u f0 f61 h0 := rf_st (lo := 1164) (hi := 1180) z38 mR e62 (by omega) rfl
        have hF := FM.tr hF g64 rfl
        refine lv_aload_n hx hb dX12_offer_77 rfl (lv_at hl 0 rfl) ?_
        refine fg_RX12_8 E hW rh0 dX12_offer_78 (fun a66 m67 r68 => ?_)
        obtain rfl : pR = a66 := (((fm_R g64 rh0 rfl).trans m52)).symm.trans m67
        refine lv_sipush (v := 1164) hx hb dX12_offer_81 (by decide) ?_
        refine lv_iconst (v := 2) hx hb dX12_offer_84 (by decide) ?_
        refine lv_aload_n hx hb dX12_offer_85 rfl (lv_at hl 0 rfl) ?_
        refine fg_RX12_8 E hW rh0 dX12_offer_86 (fun a69 m70 r71 => ?_)
        obtain rfl : pR = a69 := (m67).symm.trans m70
        refine lv_bipush (v := 6) hx hb dX12_offer_89 (by decide) ?_
        refine gl_822 E hW rR (by decide) dX12_offer_91 (fun y72 m73 b74 => ?_)
        obtain rfl : p6 = y72 := ((show aI (f61 pR) (6 : Int32).toNatClampNeg = p6 from by rw [e62, up_n (tn_ne (by omega) (by decide) (by have hk0 : (6 : Int32).toInt = 6 := rfl; omega))]; exact m55)).symm.trans m73
        refine q_imul (X := 2) hx hb dX12_offer_92 rfl rfl (by omega) (fun x75 h76 => ?_)
        refine q_iadd (X := 1164) hx hb dX12_offer_93 rfl rfl (by omega) (fun x77 h78 => ?_)
        refine lv_iconst (v := 1) hx hb dX12_offer_94 (by decide) ?_
        refine q_iadd (Y := 1) hx hb dX12_offer_95 rfl rfl (by omega) (fun x79 h80 => ?_)
        refine lv_iload_n hx hb dX12_offer_96 rfl (lv_at hl 2 rfl) ?_
        refine gs_822 E hW rR ⟨by omega, by omega⟩ (fun hc => rr_up hc (by omega) (by omega) (by unfold rbI; omega)) dX12_offer_97 (fun f81 H locs e82 n83 g84 hW => ?_)
        have z85 : RF rw_X12_offer_u f0 f81 h0 := rf_st (lo := 1165) (hi := 1181) z65 mR e82 (by omega) rfl
        have hF := FM.tr hF g84 rfl
        refine lv_aload_n hx hb dX12_offer_98 rfl (lv_at hl 0 rfl) ?_
        refine fg_RX12_8 E hW rh0 dX12_offer_99 (fun a86 m87 r88 => ?_)
        obtain rfl : pR = a86 := (((fm_R g84 rh0 rfl).trans m70)).symm.trans m87
        refine lv_bipush (v := 6) hx hb dX12_offer_102 (by decide) ?_
        refine lv_dup2_11 hx hb dX12_offer_104 rfl rfl ?_
        refine gl_822 E hW rR (by decide) dX12_offer_105 (fun y89 m90 b91 => ?_)
        obtain rfl : p6 = y89 := ((show aI (f81 pR) (6 : Int32).toNatClampNeg = p6 from by rw [e82, up_n (tn_ne (by omega) (by decide) (by have hk0 : (6 : Int32).toInt = 6 := rfl; omega))]; exact m73)).symm.trans m90
        refine lv_iconst (v := 1) hx hb dX12_offer_106 (by decide) ?_
        refine q_iadd (Y := 1) hx hb dX12_offer_107 rfl rfl (by omega) (fun x92 h93 => ?_)
        have hk94 : (6 : Int32).toInt = 6 := rfl
        refine gs_822 E hW rR (by decide) (fun hc => rr_up hc (by omega) (by omega) (by unfold rbI; omega)) dX12_offer_108 (fun f95 H locs e96 n97 g98 hW => ?_)
        have z99 : RF rw_X12_offer_u f0 f95 h0 := rf_st (lo := 6) (hi := 6) z85 mR e96 (by decide) rfl
        have hF := FM.tr hF g98 rfl
        refine lv_aload_n hx hb dX12_offer_109 rfl (lv_at hl 0 rfl) ?_
        refine lv_aload_n hx hb dX12_offer_110 rfl (lv_at hl 0 rfl) ?_
        refine fg_RX12_8 E hW rh0 dX12_offer_111 (fun a100 m101 r102 => ?_)
        obtain rfl : pR = a100 := (((fm_R g98 rh0 rfl).trans m87)).symm.trans m101
        refine lv_bipush (v := 6) hx hb dX12_offer_114 (by decide) ?_
        refine gl_822 E hW rR (by decide) dX12_offer_116 (fun y103 m104 b105 => ?_)
        obtain rfl : x92 = y103 := ((show aI (f95 pR) (6 : Int32).toNatClampNeg = x92 from by rw [e96]; exact up_s)).symm.trans m104
        refine t_callV (As := [.int x92]) (rest := []) E hW (c_X12_told_x l G cI cJ cZ cD cR cT kp L f95 hW.2.2.2 _ h0 x92 rh0) rh0 (by decide) rfl wk_X12_told tw_1557 rfl ⟨Nat.le_of_ble_eq_true rfl, Nat.le_of_ble_eq_true rfl⟩ ⟨rfl, rfl⟩ hl.1 rfl (Nat.le_of_ble_eq_true rfl) dX12_offer_117 ⟨Nat.le_of_ble_eq_true rfl, Nat.le_of_ble_eq_true rfl⟩ (fun v106 f107 H locs q108 hW => ?_)
        obtain ⟨⟨x110, rfl, p111⟩, g109⟩ := q108
        have m112 : aI (f107 pR) (x59 : Int32).toNatClampNeg = u1 := ((congrArg (fun z => aI z (x59 : Int32).toNatClampNeg) (fm_A g109 rR (by decide) rfl)).trans (show aI (f95 pR) (x59 : Int32).toNatClampNeg = u1 from by rw [e96, up_n (tn_ne (by decide) (by omega) (by have hk0 : (6 : Int32).toInt = 6 := rfl; omega))]; exact (show aI (f81 pR) (x59 : Int32).toNatClampNeg = u1 from by rw [e82, up_n (tn_ne (by omega) (by omega) (by omega))]; exact (show aI (f61 pR) (x59 : Int32).toNatClampNeg = u1 from by rw [e62]; exact up_s))))
        have m113 : aI (f107 pR) (x79 : Int32).toNatClampNeg = u2 := ((congrArg (fun z => aI z (x79 : Int32).toNatClampNeg) (fm_A g109 rR (by decide) rfl)).trans (show aI (f95 pR) (x79 : Int32).toNatClampNeg = u2 from by rw [e96, up_n (tn_ne (by decide) (by omega) (by have hk0 : (6 : Int32).toInt = 6 := rfl; omega))]; exact (show aI (f81 pR) (x79 : Int32).toNatClampNeg = u2 from by rw [e82]; exact up_s)))
        have m114 : aI (f107 pR) = upd (upd (upd (aI (f0 pR)) (x59 : Int32).toNatClampNeg u1) (x79 : Int32).toNatClampNeg u2) (6 : Int32).toNatClampNeg x92 := ((congrArg aI (fm_A g109 rR (by decide) rfl)).trans (e96.trans (congrArg (fun z => upd z (6 : Int32).toNatClampNeg x92) (e82.trans (congrArg (fun z => upd z (x79 : Int32).toNatClampNeg u2) (e62.trans (congrArg (fun z => upd z (x59 : Int32).toNatClampNeg u1) m37)))))))
        have z115 : RF rw_X12_offer_u f0 f107 h0 := rf_fm hTH z99 g109 rh0 rfl
        have hF := FM.tr hF g109 rfl
        exact e_I E hW rfl ⟨⟨_, rfl, (by rw [mR]; have e : (RG (aI (f0 pR)) 0).1 = p6.toInt := congrArg Int32.toInt mp6; first | exact sOffer_1 (by omega) (by omega) (by rw [m114]; exact rl_offer (by omega) mp6 (by omega) (by omega) (by omega)) | exact sOffer_2 e (by omega) (by omega) (by omega) (by rw [m114]; exact rl_offer (by omega) mp6 (by omega) (by omega) (by omega)) | exact sOffer_3 e (by omega) (by omega) (by omega) (by rw [m114]; exact rl_offer (by omega) mp6 (by omega) (by omega) (by omega)))⟩, hF, z115⟩ dX12_offer_120
      · refine lv_aload_n hx hb dX12_offer_51 rfl (lv_at hl 0 rfl) ?_
        refine lv_bipush (v := (-5)) hx hb dX12_offer_52 (by decide) ?_
        refine t_callV (As := [.int (-5)]) (rest := []) E hW (c_X12_told_x l G cI cJ cZ cD cR cT kp L f32 hW.2.2.2 _ h0 (-5) rh0) rh0 (by decide) rfl wk_X12_told tw_1557 rfl ⟨Nat.le_of_ble_eq_true rfl, Nat.le_of_ble_eq_true rfl⟩ ⟨rfl, rfl⟩ hl.1 rfl (Nat.le_of_ble_eq_true rfl) dX12_offer_54 ⟨Nat.le_of_ble_eq_true rfl, Nat.le_of_ble_eq_true rfl⟩ (fun v116 f117 H locs q118 hW => ?_)
        obtain ⟨⟨x120, rfl, p121⟩, g119⟩ := q118
        have p121 : x120.toInt = (-5 : Int) := p121
        have z122 : RF rw_X12_offer_u f0 f117 h0 := rf_fm hTH z38 g119 rh0 rfl
        have hF := FM.tr hF g119 rfl
        exact e_I E hW rfl ⟨⟨_, rfl, (by rw [mR]; have e : (RG (aI (f0 pR)) 0).1 = p6.toInt := congrArg Int32.toInt mp6; first | exact sOffer_1 (by omega) (by omega) (by rw [((congrArg aI (fm_A g119 rR (by decide) rfl)).trans m37)]) | exact sOffer_2 e (by omega) (by omega) (by omega) (by rw [((congrArg aI (fm_A g119 rR (by decide) rfl)).trans m37)]) | exact sOffer_3 e (by omega) (by omega) (by omega) (by rw [((congrArg aI (fm_A g119 rR (by decide) rfl)).trans m37)]))⟩, hF, z122⟩ dX12_offer_57
    · have q123 : (x28.toInt < (-1000 : Int) ∨ (1000 : Int) < x28.toInt) := by omega
      clear p36
      refine lv_aload_n hx hb dX12_offer_33 rfl (lv_at hl 0 rfl) ?_
      refine lv_iconst (v := (-1)) hx hb dX12_offer_34 (by decide) ?_
      refine t_callV (As := [.int (-1)]) (rest := []) E hW (c_X12_told_x l G cI cJ cZ cD cR cT kp L f32 hW.2.2.2 _ h0 (-1) rh0) rh0 (by decide) rfl wk_X12_told tw_1557 rfl ⟨Nat.le_of_ble_eq_true rfl, Nat.le_of_ble_eq_true rfl⟩ ⟨rfl, rfl⟩ hl.1 rfl (Nat.le_of_ble_eq_true rfl) dX12_offer_35 ⟨Nat.le_of_ble_eq_true rfl, Nat.le_of_ble_eq_true rfl⟩ (fun v124 f125 H locs q126 hW => ?_)
      obtain ⟨⟨x128, rfl, p129⟩, g127⟩ := q126
      have p129 : x128.toInt = (-1 : Int) := p129
      have m130 : aI (f125 pR) (6 : Int32).toNatClampNeg = p6 := ((congrArg (fun z => aI z (6 : Int32).toNatClampNeg) (fm_A g127 rR (by decide) rfl)).trans ((congrArg (fun z => aI z (6 : Int32).toNatClampNeg) (fm_A g34 rR (by decide) rfl)).trans m15))
      have z131 : RF rw_X12_offer_u f0 f125 h0 := rf_fm hTH z38 g127 rh0 rfl
      have hF := FM.tr hF g127 rfl
      exact e_I E hW rfl ⟨⟨_, rfl, (by rw [mR]; have e : (RG (aI (f0 pR)) 0).1 = p6.toInt := congrArg Int32.toInt mp6; first | exact sOffer_1 (by omega) (by omega) (by rw [((congrArg aI (fm_A g127 rR (by decide) rfl)).trans m37)]) | exact sOffer_2 e (by omega) (by omega) (by omega) (by rw [((congrArg aI (fm_A g127 rR (by decide) rfl)).trans m37)]) | exact sOffer_3 e (by omega) (by omega) (by omega) (by rw [((congrArg aI (fm_A g127 rR (by decide) rfl)).trans m37)]))⟩, hF, z131⟩ dX12_offer_38
def rw_X12_brave_u : List (Nat × Nat) := [(10, 10)]
def ms_X12_brave_u : List (Nat × Nat) := [(12, 0), (12, 1), (822, 0)]
def po_X12_brave_u (kp : Nat → Nat) (L : List Nat) (f0 : Nat → va_E) (h0 : Nat) (u1 : Int32) : Option Value → (Nat → va_E) → Prop := fun v f => (∃ r : Int32, v = some (.int r) ∧ ((r.toInt, RG (aI (f (oR (f0 h0) 2))) 0) = sBrave (RG (aI (f0 (oR (f0 h0) 2))) 0) u1.toInt)) ∧ FM kp L ms_X12_brave_u f0 f ∧ (RF rw_X12_brave_u f0 f h0)
set_option maxHeartbeats 4000000 in
set_option maxRecDepth 100000 in
theorem c_X12_brave_u (l : Launch) (G : va_G) (cI cJ cZ cD cR cT : ClassId) (kp : Nat → Nat) (L : List Nat) (f0 : Nat → va_E) (hTH : TH cI cJ cZ cD cR cT kp L f0) (sz : Nat) (h0 : Nat) (u1 : Int32) (rh0 : RK kp L h0 12) : Met l yX12_brave (Cond.code yX12_brave cX12_brave 3 (some .int) :: wTab) ({ frames := 2, cells := 0, slots := 0, locals := 65 }) (va_Pc [.ref h0, .int u1] (PreW G (tys6 cI cJ cZ cD cR cT) (va_pl L f0) sz)) (QT (po_X12_brave_u kp L f0 h0 u1) G cI cJ cZ cD cR cT (va_A (va_pl L f0) sz) kp L) 0 0 (va_A (va_pl L f0) sz) := by
  refine metT (by decide) (Nat.le_of_ble_eq_true rfl) hTH ?_
  intro p e s m below meth c A ls E hW hl
  obtain ⟨hx, hb, -, hml, hown, hts, -, -, -⟩ := id E
  have hF : FM kp L ms_X12_brave_u f0 f0 := FM.rf
  have hl : lv_has ls 3 [(0, .ref h0), (1, .int u1)] := hl
  obtain ⟨pR, mR⟩ : ∃ x : Nat, oR (f0 h0) 2 = x := ⟨_, rfl⟩
  have rR : RK kp L pR 822 := by rw [← mR]; exact th_ref hTH rh0 (by decide) (by decide) rfl
  obtain ⟨p10, mp10⟩ : ∃ x : Int32, aI (f0 pR) (10 : Int32).toNatClampNeg = x := ⟨_, rfl⟩
  refine lv_aload_n hx hb dX12_brave_0 rfl (lv_at hl 0 rfl) ?_
  refine lv_iconst (v := 0) hx hb dX12_brave_1 (by decide) ?_
  refine fp_RX12_82 E hW rh0 dX12_brave_2 (fun f1 H locs e2 n3 g4 hW => ?_)
  have z5 : RF rw_X12_brave_u f0 f1 h0 := rf_fm hTH rf_rf g4 rh0 rfl
  have hF := FM.tr hF g4 rfl
  refine lv_iload_n hx hb dX12_brave_5 rfl (lv_at hl 1 rfl) ?_
  refine q_i2l hx hb dX12_brave_6 rfl (fun x6 h7 => ?_)
  have hb8 : -2147483648 ≤ x6.toInt ∧ x6.toInt ≤ 2147483647 := by have := i32_b u1; omega
  refine lv_lconst (v := 0) hx hb dX12_brave_7 (by decide) ?_
  refine lv_ldc2 (v := 101) hx hb hown (hts _ tw_1982) dX12_brave_8 ?_
  refine t_callS (As := [.long x6, .long 0, .long 101]) (rest := []) E hW (c_X12_in l G cI cJ cZ cD cR cT kp L f1 hW.2.2.2 _ x6 0 101) wk_X12_in tw_1554 rfl ⟨Nat.le_of_ble_eq_true rfl, Nat.le_of_ble_eq_true rfl⟩ ⟨rfl, rfl⟩ hl.1 rfl (Nat.le_of_ble_eq_true rfl) dX12_brave_11 ⟨Nat.le_of_ble_eq_true rfl, Nat.le_of_ble_eq_true rfl⟩ (fun v9 f10 H locs q11 hW => ?_)
  obtain ⟨⟨x13, rfl, p14⟩, g12⟩ := q11
  have p14 : (x13.toInt = 1 ∧ (0 : Int) ≤ x6.toInt ∧ x6.toInt ≤ (101 : Int)) ∨ (x13.toInt = 0 ∧ (x6.toInt < (0 : Int) ∨ (101 : Int) < x6.toInt)) := p14
  have m15 : aI (f10 pR) (10 : Int32).toNatClampNeg = p10 := ((congrArg (fun z => aI z (10 : Int32).toNatClampNeg) (fm_A g12 rR (by decide) rfl)).trans ((congrArg (fun z => aI z (10 : Int32).toNatClampNeg) (fm_A g4 rR (by decide) rfl)).trans mp10))
  have z16 : RF rw_X12_brave_u f0 f10 h0 := rf_fm hTH z5 g12 rh0 rfl
  have hF := FM.tr hF g12 rfl
  refine q_if_ne (tgt := 23) hx hb dX12_brave_14 (by decide) rfl (fun c17 => ?_) (fun c17 => ?_)
  · have q18 : (0 : Int) ≤ x6.toInt ∧ x6.toInt ≤ (101 : Int) := by omega
    clear p14
    refine lv_aload_n hx hb dX12_brave_23 rfl (lv_at hl 0 rfl) ?_
    refine fg_RX12_8 E hW rh0 dX12_brave_24 (fun a19 m20 r21 => ?_)
    obtain rfl : pR = a19 := (((fm_R g12 rh0 rfl).trans ((fm_R g4 rh0 rfl).trans mR))).symm.trans m20
    refine lv_bipush (v := 10) hx hb dX12_brave_27 (by decide) ?_
    refine gl_822 E hW rR (by decide) dX12_brave_29 (fun y22 m23 b24 => ?_)
    obtain rfl : p10 = y22 := (m15).symm.trans m23
    refine lv_istore_n (lv' := [(2, .int p10), (0, .ref h0), (1, .int u1)]) hx hb dX12_brave_30 rfl hl (by decide) rfl (fun ls hl => ?_)
    refine lv_aload_n hx hb dX12_brave_31 rfl (lv_at hl 1 rfl) ?_
    refine fg_RX12_8 E hW rh0 dX12_brave_32 (fun a25 m26 r27 => ?_)
    obtain rfl : pR = a25 := (m20).symm.trans m26
    refine lv_bipush (v := 10) hx hb dX12_brave_35 (by decide) ?_
    refine lv_iload_n hx hb dX12_brave_37 rfl (lv_at hl 2 rfl) ?_
    have hk28 : (10 : Int32).toInt = 10 := rfl
    refine gs_822 E hW rR (by decide) (fun hc => rr_up hc (by omega) (by omega) (by unfold rbI; omega)) dX12_brave_38 (fun f29 H locs e30 n31 g32 hW => ?_)
    have z33 : RF rw_X12_brave_u f0 f29 h0 := rf_st (lo := 10) (hi := 10) z16 mR e30 (by decide) rfl
    have hF := FM.tr hF g32 rfl
    refine lv_aload_n hx hb dX12_brave_39 rfl (lv_at hl 1 rfl) ?_
    refine lv_iload_n hx hb dX12_brave_40 rfl (lv_at hl 0 rfl) ?_
    refine t_callV (As := [.int p10]) (rest := []) E hW (c_X12_told_x l G cI cJ cZ cD cR cT kp L f29 hW.2.2.2 _ h0 p10 rh0) rh0 (by decide) rfl wk_X12_told tw_1557 rfl ⟨Nat.le_of_ble_eq_true rfl, Nat.le_of_ble_eq_true rfl⟩ ⟨rfl, rfl⟩ hl.1 rfl (Nat.le_of_ble_eq_true rfl) dX12_brave_41 ⟨Nat.le_of_ble_eq_true rfl, Nat.le_of_ble_eq_true rfl⟩ (fun v34 f35 H locs q36 hW => ?_)
    obtain ⟨⟨x38, rfl, p39⟩, g37⟩ := q36
    have m40 : aI (f35 pR) = upd (aI (f0 pR)) (10 : Int32).toNatClampNeg u1 := ((congrArg aI (fm_A g37 rR (by decide) rfl)).trans (e30.trans (congrArg (fun z => upd z (10 : Int32).toNatClampNeg u1) ((congrArg aI (fm_A g12 rR (by decide) rfl)).trans ((congrArg aI (fm_A g4 rR (by decide) rfl)).trans (rfl : aI (f0 pR) = aI (f0 pR)))))))
    have z41 : RF rw_X12_brave_u f0 f35 h0 := rf_fm hTH z33 g37 rh0 rfl
    have hF := FM.tr hF g37 rfl
    exact e_I E hW rfl ⟨⟨_, rfl, (by rw [mR]; have e : (RG (aI (f0 pR)) 0).2.1 = p10.toInt := congrArg Int32.toInt mp10; first | exact sBrave_1 (by omega) (by omega) (by rw [m40]; exact rl_brave) | exact sBrave_2 e (by omega) (by omega) (by rw [m40]; exact rl_brave))⟩, hF, z41⟩ dX12_brave_44
  · have q42 : (x6.toInt < (0 : Int) ∨ (101 : Int) < x6.toInt) := by omega
    clear p14
    refine lv_aload_n hx hb dX12_brave_17 rfl (lv_at hl 0 rfl) ?_
    refine lv_iconst (v := (-1)) hx hb dX12_brave_18 (by decide) ?_
    refine t_callV (As := [.int (-1)]) (rest := []) E hW (c_X12_told_x l G cI cJ cZ cD cR cT kp L f10 hW.2.2.2 _ h0 (-1) rh0) rh0 (by decide) rfl wk_X12_told tw_1557 rfl ⟨Nat.le_of_ble_eq_true rfl, Nat.le_of_ble_eq_true rfl⟩ ⟨rfl, rfl⟩ hl.1 rfl (Nat.le_of_ble_eq_true rfl) dX12_brave_19 ⟨Nat.le_of_ble_eq_true rfl, Nat.le_of_ble_eq_true rfl⟩ (fun v43 f44 H locs q45 hW => ?_)
    obtain ⟨⟨x47, rfl, p48⟩, g46⟩ := q45
    have p48 : x47.toInt = (-1 : Int) := p48
    have m49 : aI (f44 pR) = aI (f0 pR) := ((congrArg aI (fm_A g46 rR (by decide) rfl)).trans ((congrArg aI (fm_A g12 rR (by decide) rfl)).trans ((congrArg aI (fm_A g4 rR (by decide) rfl)).trans (rfl : aI (f0 pR) = aI (f0 pR)))))
    have z50 : RF rw_X12_brave_u f0 f44 h0 := rf_fm hTH z16 g46 rh0 rfl
    have hF := FM.tr hF g46 rfl
    exact e_I E hW rfl ⟨⟨_, rfl, (by rw [mR]; have e : (RG (aI (f0 pR)) 0).2.1 = p10.toInt := congrArg Int32.toInt mp10; first | exact sBrave_1 (by omega) (by omega) (by rw [m49]) | exact sBrave_2 e (by omega) (by omega) (by rw [m49]))⟩, hF, z50⟩ dX12_brave_22
