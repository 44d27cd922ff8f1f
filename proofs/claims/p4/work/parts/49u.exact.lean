
def ms_X4_keepsBan_u : List (Nat × Nat) := []
def po_X4_keepsBan_u (kp : Nat → Nat) (L : List Nat) (f0 : Nat → va_E) (h0 : Nat) (u1 : Int32) (u2 : Int32) (u3 : Int32) : Option Value → (Nat → va_E) → Prop := fun v f => (∃ r : Int32, v = some (.int r) ∧ ((0 ≤ r.toInt ∧ r.toInt ≤ 1) ∧ r.toInt = fBan (P8 f0 h0) (oI (f0 h0) 0).toInt u3.toInt u1.toInt u2.toInt)) ∧ FM kp L ms_X4_keepsBan_u f0 f
set_option maxHeartbeats 4000000 in
set_option maxRecDepth 100000 in
theorem c_X4_keepsBan_u (l : Launch) (G : va_G) (cI cJ cZ cD cR cT : ClassId) (kp : Nat → Nat) (L : List Nat) (f0 : Nat → va_E) (hTH : TH cI cJ cZ cD cR cT kp L f0) (sz : Nat) (h0 : Nat) (u1 : Int32) (u2 : Int32) (u3 : Int32) (rh0 : RK kp L h0 4) (pu1 : (0 : Int) ≤ u1.toInt ∧ u1.toInt ≤ 39) (pu2 : (0 : Int) ≤ u2.toInt ∧ u2.toInt ≤ 39) : Met l yX4_keepsBan (Cond.code yX4_keepsBan cX4_keepsBan 6 (some .boolean) :: wTab) ({ frames := 2, cells := 0, slots := 0, locals := 61 }) (va_Pc [.ref h0, .int u1, .int u2, .int u3] (PreW G (tys6 cI cJ cZ cD cR cT) (va_pl L f0) sz)) (QT (po_X4_keepsBan_u kp L f0 h0 u1 u2 u3) G cI cJ cZ cD cR cT (va_A (va_pl L f0) sz) kp L) 0 0 (va_A (va_pl L f0) sz) := by
  refine metT (by decide) (Nat.le_of_ble_eq_true rfl) hTH ?_
  intro p e s m below meth c A ls E hW hl
  obtain ⟨hx, hb, -, hml, hown, hts, -, -, -⟩ := id E
  have hF : FM kp L ms_X4_keepsBan_u f0 f0 := FM.rf
  have hl : lv_has ls 6 [(0, .ref h0), (1, .int u1), (2, .int u2), (3, .int u3)] := hl
  obtain ⟨N1, mN1⟩ : ∃ x : Nat, oR (f0 h0) 1 = x := ⟨_, rfl⟩
  have rN1 : RK kp L N1 341 := by rw [← mN1]; exact th_ref hTH rh0 (by decide) (by decide) rfl
  obtain ⟨N3, mN3⟩ : ∃ x : Nat, oR (f0 h0) 3 = x := ⟨_, rfl⟩
  have rN3 : RK kp L N3 343 := by rw [← mN3]; exact th_ref hTH rh0 (by decide) (by decide) rfl
  obtain ⟨N4, mN4⟩ : ∃ x : Nat, oR (f0 h0) 4 = x := ⟨_, rfl⟩
  have rN4 : RK kp L N4 344 := by rw [← mN4]; exact th_ref hTH rh0 (by decide) (by decide) rfl
  obtain ⟨vc, mvc⟩ : ∃ x : Int32, oI (f0 h0) 0 = x := ⟨_, rfl⟩
  have bvc : (0 : Int) ≤ vc.toInt ∧ vc.toInt ≤ 40 := by rw [← mvc]; exact th_iv hW rh0 (by decide) (by decide) rfl
  obtain ⟨py1, mpy1⟩ : ∃ x : Int32, aI (f0 N1) (u1 : Int32).toNatClampNeg = x := ⟨_, rfl⟩
  obtain ⟨py2, mpy2⟩ : ∃ x : Int32, aI (f0 N1) (u2 : Int32).toNatClampNeg = x := ⟨_, rfl⟩
  obtain ⟨K0, hK0⟩ : ∃ x : Int, kbF (P8 f0 h0).2.2.1 (P8 f0 h0).2.2.2.1 vc.toInt u3.toInt 41 u1.toInt = x := ⟨_, rfl⟩
  refine lv_aload_n hx hb dX4_keepsBan_0 rfl (lv_at hl 0 rfl) ?_
  refine fg_RX4_9 E hW rh0 dX4_keepsBan_1 (fun a1 m2 r3 => ?_)
  obtain rfl : N1 = a1 := (mN1).symm.trans m2
  refine lv_iload_n hx hb dX4_keepsBan_4 rfl (lv_at hl 1 rfl) ?_
  refine gl_341 E hW rN1 ⟨by omega, by omega⟩ dX4_keepsBan_5 (fun y4 m5 => ?_)
  obtain rfl : py1 = y4 := (mpy1).symm.trans m5
  refine lv_aload_n hx hb dX4_keepsBan_6 rfl (lv_at hl 0 rfl) ?_
  refine fg_RX4_9 E hW rh0 dX4_keepsBan_7 (fun a7 m8 r9 => ?_)
  obtain rfl : N1 = a7 := (m2).symm.trans m8
  refine lv_iload_n hx hb dX4_keepsBan_10 rfl (lv_at hl 2 rfl) ?_
  refine gl_341 E hW rN1 ⟨by omega, by omega⟩ dX4_keepsBan_11 (fun y10 m11 => ?_)
  obtain rfl : py2 = y10 := (mpy2).symm.trans m11
  refine q_icmp_ne (tgt := 17) hx hb dX4_keepsBan_12 (by decide) rfl rfl (fun c13 => ?_) (fun c13 => ?_)
  · refine lv_iload_n hx hb dX4_keepsBan_17 rfl (lv_at hl 1 rfl) ?_
    refine lv_istore (lv' := [(4, .int u1), (0, .ref h0), (1, .int u1), (2, .int u2), (3, .int u3)]) hx hb dX4_keepsBan_18 hl (by decide) rfl (fun ls hl => ?_)
    refine lv_iconst (v := 0) hx hb dX4_keepsBan_20 (by decide) ?_
    refine lv_istore (lv' := [(5, .int 0), (4, .int u1), (0, .ref h0), (1, .int u1), (2, .int u2), (3, .int u3)]) hx hb dX4_keepsBan_21 hl (by decide) rfl (fun ls hl => ?_)
    have L817 : ∀ (n : Nat), ∀ (f805 : Nat → va_E) (y810 : Int32) (y812 : Int32) (m806 : oI (f805 h0) 0 = vc) (m807 : oR (f805 h0) 1 = N1) (m808 : oR (f805 h0) 3 = N3) (m809 : oR (f805 h0) 4 = N4) (b811 : (0 : Int) ≤ y810.toInt ∧ y810.toInt ≤ 41) (b813 : (-1 : Int) ≤ y812.toInt ∧ y812.toInt ≤ 39) (z814 : aI (f805 N3) = aI (f0 N3)) (z815 : aI (f805 N4) = aI (f0 N4)) (v816 : kbF (P8 f0 h0).2.2.1 (P8 f0 h0).2.2.2.1 vc.toInt u3.toInt (41 - y810.toInt).toNat y812.toInt = K0) (hm : (42 : Int) - y810.toInt ≤ n) (H : Heap) (locs : List Loc) (ls : Array Slot), WS G cI cJ cZ cD cR cT A kp L f805 s H locs → FM kp L ms_X4_keepsBan_u f0 f805 → lv_has ls 6 [(5, .int y810), (4, .int y812), (0, .ref h0), (1, .int u1), (2, .int u2), (3, .int u3)] → W p l e ({ frames := 2, cells := 0, slots := 0, locals := 61 }) s m ([.ref h0, .int u1, .int u2, .int u3] : List Value).toArray below meth c H locs 0 0 (MQ below (QT (po_X4_keepsBan_u kp L f0 h0 u1 u2 u3) G cI cJ cZ cD cR cT A kp L) ([.ref h0, .int u1, .int u2, .int u3] : List Value).toArray s 0 0 A) (F0 m 23 ls []) := by
      intro n
      induction n with
      | zero =>
        intro f805 y810 y812 m806 m807 m808 m809 b811 b813 z814 z815 v816 hm H locs ls hW hF hl
        have hz := i32_b y810
        exfalso; omega
      | succ n ih =>
        intro f805 y810 y812 m806 m807 m808 m809 b811 b813 z814 z815 v816 hm H locs ls hW hF hl
        have ih23 := ih
        refine lv_iload hx hb dX4_keepsBan_23 (lv_at hl 0 rfl) ?_
        refine lv_bipush (v := 40) hx hb dX4_keepsBan_25 (by decide) ?_
        refine q_icmp_gt (Y := 40) (tgt := 67) hx hb dX4_keepsBan_27 (by decide) rfl rfl (fun c818 => ?_) (fun c818 => ?_)
        · refine lv_iconst (v := 0) hx hb dX4_keepsBan_67 (by decide) ?_
          exact e_Z E hW rfl (by decide) ⟨⟨_, rfl, (by rw [mvc]; refine ⟨by decide, ?_⟩; have hz : K0 = 0 := (by first | exact kb_end v816 (by omega) | exact kb_no v816 (by omega) (by omega)); exact ((fBan_1 (by rw [(p8_house mN1 (by omega) mpy1), (p8_house mN1 (by omega) mpy2)]; omega) hK0).trans hz).symm)⟩, hF⟩ dX4_keepsBan_68
        · refine lv_aload_n hx hb dX4_keepsBan_30 rfl (lv_at hl 2 rfl) ?_
          refine lv_iload hx hb dX4_keepsBan_31 (lv_at hl 1 rfl) ?_
          refine t_callV (As := [.int y812]) (rest := []) E hW (c_X4_has_u l G cI cJ cZ cD cR cT kp L f805 hW.2.2.2 _ h0 y812 rh0) rh0 (by decide) rfl wk_X4_has tw_1188 rfl ⟨Nat.le_of_ble_eq_true rfl, Nat.le_of_ble_eq_true rfl⟩ ⟨rfl, rfl⟩ hl.1 rfl (Nat.le_of_ble_eq_true rfl) dX4_keepsBan_33 ⟨Nat.le_of_ble_eq_true rfl, Nat.le_of_ble_eq_true rfl⟩ (fun v819 f820 H locs q821 hW => ?_)
          obtain ⟨⟨x823, rfl, p824⟩, g822⟩ := q821
          rw [m806] at p824
          have hF := FM.tr hF g822 rfl
          refine q_if_eq (tgt := 67) hx hb dX4_keepsBan_36 (by decide) rfl (fun c825 => ?_) (fun c825 => ?_)
          · refine lv_iconst (v := 0) hx hb dX4_keepsBan_67 (by decide) ?_
            exact e_Z E hW rfl (by decide) ⟨⟨_, rfl, (by rw [mvc]; refine ⟨by decide, ?_⟩; have hz : K0 = 0 := (by first | exact kb_end v816 (by omega) | exact kb_no v816 (by omega) (by omega)); exact ((fBan_1 (by rw [(p8_house mN1 (by omega) mpy1), (p8_house mN1 (by omega) mpy2)]; omega) hK0).trans hz).symm)⟩, hF⟩ dX4_keepsBan_68
          · have q826 : 0 ≤ y812.toInt ∧ y812.toInt ≤ 39 := by omega
            refine lv_aload_n hx hb dX4_keepsBan_39 rfl (lv_at hl 2 rfl) ?_
            refine fg_RX4_18 E hW rh0 dX4_keepsBan_40 (fun a827 m828 r829 => ?_)
            obtain rfl : N3 = a827 := (((fm_R g822 rh0 rfl).trans m808)).symm.trans m828
            refine lv_iload hx hb dX4_keepsBan_43 (lv_at hl 1 rfl) ?_
            refine gl_343 E hW rN3 ⟨by omega, by omega⟩ dX4_keepsBan_45 (fun y830 m831 => ?_)
            refine lv_iload_n hx hb dX4_keepsBan_46 rfl (lv_at hl 5 rfl) ?_
            refine q_icmp_lt (tgt := 52) hx hb dX4_keepsBan_47 (by decide) rfl rfl (fun c833 => ?_) (fun c833 => ?_)
            · have hb834 : y830.toInt ≤ 2147483646 := by have := i32_b u3; omega
              have hb835 : -2147483647 ≤ u3.toInt := by have := i32_b y830; omega
              refine lv_aload_n hx hb dX4_keepsBan_52 rfl (lv_at hl 2 rfl) ?_
              refine fg_RX4_21 E hW rh0 dX4_keepsBan_53 (fun a836 m837 r838 => ?_)
              obtain rfl : N4 = a836 := (((fm_R g822 rh0 rfl).trans m809)).symm.trans m837
              refine lv_iload hx hb dX4_keepsBan_56 (lv_at hl 1 rfl) ?_
              refine gl_344 E hW rN4 ⟨by omega, by omega⟩ dX4_keepsBan_58 (fun y839 m840 b841 => ?_)
              refine lv_istore (lv' := [(4, .int y839), (5, .int y810), (0, .ref h0), (1, .int u1), (2, .int u2), (3, .int u3)]) hx hb dX4_keepsBan_59 hl (by decide) rfl (fun ls hl => ?_)
              refine q_iinc hx hb dX4_keepsBan_61 hl (k := 1) rfl rfl rfl (by omega) (by decide) (fun i842 ls h843 hl => ?_)
              have hl : lv_has ls 6 [(5, .int i842), (4, .int y839), (0, .ref h0), (1, .int u1), (2, .int u2), (3, .int u3)] := hl
              refine lv_goto (tgt := 23) hx hb dX4_keepsBan_64 (by decide) ?_
              exact ih23 f820 i842 y839 ((fm_I g822 rh0 rfl).trans m806) ((fm_R g822 rh0 rfl).trans m807) m828 m837 (by omega) (by omega) ((congrArg aI (fm_A g822 rN3 (by decide) rfl)).trans z814) ((congrArg aI (fm_A g822 rN4 (by decide) rfl)).trans z815) (kb_go v816 (by omega) (by omega) (p8_fear mN3 (by omega) ((congrFun ((congrArg aI (fm_A g822 rN3 (by decide) rfl)).trans z814) _).symm.trans m831)) (by omega) (p8_hd mN4 (by omega) ((congrFun ((congrArg aI (fm_A g822 rN4 (by decide) rfl)).trans z815) _).symm.trans m840)) (by omega)) (by omega) _ _ _ hW hF (lv_sub hl [0, 1, 2, 3, 4, 5] rfl)
            · refine lv_iconst (v := 1) hx hb dX4_keepsBan_50 (by decide) ?_
              exact e_Z E hW rfl (by decide) ⟨⟨_, rfl, (by rw [mvc]; refine ⟨by decide, ?_⟩; have hz : K0 = 1 := (by first | exact kb_yes v816 (by omega) (by omega) (p8_fear mN3 (by omega) ((congrFun ((congrArg aI (fm_A g822 rN3 (by decide) rfl)).trans z814) _).symm.trans m831)) (by omega)); exact ((fBan_1 (by rw [(p8_house mN1 (by omega) mpy1), (p8_house mN1 (by omega) mpy2)]; omega) hK0).trans hz).symm)⟩, hF⟩ dX4_keepsBan_51
    have hk844 : (0 : Int32).toInt = 0 := rfl
    exact L817 42 f0 0 u1 mvc m8 mN3 mN4 (by decide) (by omega) (rfl : aI (f0 N3) = aI (f0 N3)) (rfl : aI (f0 N4) = aI (f0 N4)) (by have h0 : (0 : Int32).toInt = 0 := rfl; rw [h0]; exact hK0) (by omega) _ _ _ hW hF (lv_sub hl [0, 1, 2, 3, 4, 5] rfl)
  · refine lv_iconst (v := 0) hx hb dX4_keepsBan_15 (by decide) ?_
    exact e_Z E hW rfl (by decide) ⟨⟨_, rfl, (by rw [mvc]; exact ⟨by decide, (fBan_0 ((p8_house mN1 (by omega) mpy1).trans ((by omega : py1.toInt = py2.toInt).trans (p8_house mN1 (by omega) mpy2).symm))).symm⟩)⟩, hF⟩ dX4_keepsBan_16
def ms_X11_keeps_u : List (Nat × Nat) := []
def po_X11_keeps_u (kp : Nat → Nat) (L : List Nat) (f0 : Nat → va_E) (h0 : Nat) (u1 : Int32) (u2 : Int32) : Option Value → (Nat → va_E) → Prop := fun v f => (∃ r : Int32, v = some (.int r) ∧ (r.toInt = fKeeps (P8 f0 (oR (f0 (oR (f0 h0) 0)) 0)) (oI (f0 (oR (f0 (oR (f0 h0) 0)) 0)) 0).toInt (oI (f0 (oR (f0 (oR (f0 h0) 0)) 5)) 1).toInt u1.toInt u2.toInt)) ∧ FM kp L ms_X11_keeps_u f0 f ∧ (WU kp L [] f0 f)
set_option maxHeartbeats 4000000 in
set_option maxRecDepth 100000 in
theorem c_X11_keeps_u (l : Launch) (G : va_G) (cI cJ cZ cD cR cT : ClassId) (kp : Nat → Nat) (L : List Nat) (f0 : Nat → va_E) (hTH : TH cI cJ cZ cD cR cT kp L f0) (sz : Nat) (h0 : Nat) (u1 : Int32) (u2 : Int32) (rh0 : RK kp L h0 11) : Met l yX11_keeps (Cond.code yX11_keeps cX11_keeps 4 (some .int) :: wTab) ({ frames := 3, cells := 0, slots := 0, locals := 86 }) (va_Pc [.ref h0, .int u1, .int u2] (PreW G (tys6 cI cJ cZ cD cR cT) (va_pl L f0) sz)) (QT (po_X11_keeps_u kp L f0 h0 u1 u2) G cI cJ cZ cD cR cT (va_A (va_pl L f0) sz) kp L) 0 0 (va_A (va_pl L f0) sz) := by
  refine metT (by decide) (Nat.le_of_ble_eq_true rfl) hTH ?_
  intro p e s m below meth c A ls E hW hl
  obtain ⟨hx, hb, -, hml, hown, hts, -, -, -⟩ := id E
  have hF : FM kp L ms_X11_keeps_u f0 f0 := FM.rf
  have hl : lv_has ls 4 [(0, .ref h0), (1, .int u1), (2, .int u2)] := hl
  obtain ⟨N0, mN0⟩ : ∃ x : Nat, oR (f0 h0) 0 = x := ⟨_, rfl⟩
  have rN0 : RK kp L N0 0 := by rw [← mN0]; exact th_ref hTH rh0 (by decide) (by decide) rfl
  obtain ⟨N00, mN00⟩ : ∃ x : Nat, oR (f0 N0) 0 = x := ⟨_, rfl⟩
  have rN00 : RK kp L N00 4 := by rw [← mN00]; exact th_ref hTH rN0 (by decide) (by decide) rfl
  obtain ⟨N05, mN05⟩ : ∃ x : Nat, oR (f0 N0) 5 = x := ⟨_, rfl⟩
  have rN05 : RK kp L N05 3 := by rw [← mN05]; exact th_ref hTH rN0 (by decide) (by decide) rfl
  obtain ⟨vc, mvc⟩ : ∃ x : Int32, oI (f0 N00) 0 = x := ⟨_, rfl⟩
  have bvc : (0 : Int) ≤ vc.toInt ∧ vc.toInt ≤ 40 := by rw [← mvc]; exact th_iv hW rN00 (by decide) (by decide) rfl
  obtain ⟨vb, mvb⟩ : ∃ x : Int32, oI (f0 N05) 1 = x := ⟨_, rfl⟩
  refine lv_aload_n hx hb dX11_keeps_0 rfl (lv_at hl 0 rfl) ?_
  refine fg_RX11_12 E hW rh0 dX11_keeps_1 (fun a1 m2 r3 => ?_)
  obtain rfl : N0 = a1 := (mN0).symm.trans m2
  refine fg_RX11_63 E hW rN0 dX11_keeps_4 (fun a4 m5 r6 => ?_)
  obtain rfl : N00 = a4 := (mN00).symm.trans m5
  refine lv_astore_n (lv' := [(3, .ref N00), (0, .ref h0), (1, .int u1), (2, .int u2)]) hx hb dX11_keeps_7 rfl hl (by decide) rfl (fun ls hl => ?_)
  refine lv_aload_n hx hb dX11_keeps_8 rfl (lv_at hl 0 rfl) ?_
  refine lv_iload_n hx hb dX11_keeps_9 rfl (lv_at hl 2 rfl) ?_
  have hW0 := hW.2.2.2
  refine t_callV (As := [.int u1]) (rest := []) E hW (c_X4_has_u l G cI cJ cZ cD cR cT kp L f0 hW.2.2.2 _ N00 u1 rN00) rN00 (by decide) rfl wk_X4_has tw_619 rfl ⟨Nat.le_of_ble_eq_true rfl, Nat.le_of_ble_eq_true rfl⟩ ⟨rfl, rfl⟩ hl.1 rfl (Nat.le_of_ble_eq_true rfl) dX11_keeps_10 ⟨Nat.le_of_ble_eq_true rfl, Nat.le_of_ble_eq_true rfl⟩ (fun v7 f8 H locs q9 hW => ?_)
  obtain ⟨⟨x11, rfl, p12⟩, g10⟩ := q9
  rw [mvc] at p12
  have m14 : P8 f8 N00 = P8 f0 N00 := (p8_fm hW0 rN00 g10 rfl).trans (rfl : P8 f0 N00 = P8 f0 N00)
  have z13 : WU kp L [] f0 f8 := wu_fm (wu_rf : WU kp L [] f0 f0) g10 rfl
  have hF := FM.tr hF g10 rfl
  refine q_if_eq (tgt := 29) hx hb dX11_keeps_13 (by decide) rfl (fun c15 => ?_) (fun c15 => ?_)
  · refine lv_iconst (v := (-1)) hx hb dX11_keeps_29 (by decide) ?_
    exact e_I E hW rfl ⟨⟨_, rfl, (by rw [mN0, mN00, mN05, mvc, mvb]; exact (fKeeps_0 (congrArg Int32.toInt mvc : (P8 f0 N00).1 = vc.toInt) (by omega)).symm)⟩, hF, z13⟩ dX11_keeps_30
  · have q16 : 0 ≤ u1.toInt ∧ u1.toInt ≤ 39 := by omega
    refine lv_aload_n hx hb dX11_keeps_16 rfl (lv_at hl 0 rfl) ?_
    refine lv_iload_n hx hb dX11_keeps_17 rfl (lv_at hl 3 rfl) ?_
    have hW0 := hW.2.2.2
    refine t_callV (As := [.int u2]) (rest := []) E hW (c_X4_has_u l G cI cJ cZ cD cR cT kp L f8 hW.2.2.2 _ N00 u2 rN00) rN00 (by decide) rfl wk_X4_has tw_619 rfl ⟨Nat.le_of_ble_eq_true rfl, Nat.le_of_ble_eq_true rfl⟩ ⟨rfl, rfl⟩ hl.1 rfl (Nat.le_of_ble_eq_true rfl) dX11_keeps_18 ⟨Nat.le_of_ble_eq_true rfl, Nat.le_of_ble_eq_true rfl⟩ (fun v17 f18 H locs q19 hW => ?_)
    obtain ⟨⟨x21, rfl, p22⟩, g20⟩ := q19
    rw [((fm_I g10 rN00 rfl).trans mvc)] at p22
    have m24 : P8 f18 N00 = P8 f0 N00 := (p8_fm hW0 rN00 g20 rfl).trans m14
    have z23 : WU kp L [] f0 f18 := wu_fm z13 g20 rfl
    have hF := FM.tr hF g20 rfl
    refine q_if_eq (tgt := 29) hx hb dX11_keeps_21 (by decide) rfl (fun c25 => ?_) (fun c25 => ?_)
    · refine lv_iconst (v := (-1)) hx hb dX11_keeps_29 (by decide) ?_
      exact e_I E hW rfl ⟨⟨_, rfl, (by rw [mN0, mN00, mN05, mvc, mvb]; exact (fKeeps_0 (congrArg Int32.toInt mvc : (P8 f0 N00).1 = vc.toInt) (by omega)).symm)⟩, hF, z23⟩ dX11_keeps_30
    · have q26 : 0 ≤ u2.toInt ∧ u2.toInt ≤ 39 := by omega
      refine lv_iload_n hx hb dX11_keeps_24 rfl (lv_at hl 2 rfl) ?_
      refine lv_iload_n hx hb dX11_keeps_25 rfl (lv_at hl 3 rfl) ?_
      refine q_icmp_ne (tgt := 31) hx hb dX11_keeps_26 (by decide) rfl rfl (fun c27 => ?_) (fun c27 => ?_)
      · refine lv_aload_n hx hb dX11_keeps_31 rfl (lv_at hl 0 rfl) ?_
        refine lv_iload_n hx hb dX11_keeps_32 rfl (lv_at hl 2 rfl) ?_
        refine lv_iload_n hx hb dX11_keeps_33 rfl (lv_at hl 3 rfl) ?_
        refine lv_aload_n hx hb dX11_keeps_34 rfl (lv_at hl 1 rfl) ?_
        refine fg_RX11_12 E hW rh0 dX11_keeps_35 (fun a28 m29 r30 => ?_)
        obtain rfl : N0 = a28 := (((fm_R g20 rh0 rfl).trans ((fm_R g10 rh0 rfl).trans m2))).symm.trans m29
        refine fg_RX11_98 E hW rN0 dX11_keeps_38 (fun a31 m32 r33 => ?_)
        obtain rfl : N05 = a31 := (((fm_R g20 rN0 rfl).trans ((fm_R g10 rN0 rfl).trans mN05))).symm.trans m32
        refine fg_RX11_282 E hW rN05 dX11_keeps_41 (fun y34 m35 => ?_)
        obtain rfl : vb = y34 := (((fm_I g20 rN05 rfl).trans ((fm_I g10 rN05 rfl).trans mvb))).symm.trans m35
        have hW0 := hW.2.2.2
        refine t_callV (As := [.int u1, .int u2, .int vb]) (rest := []) E hW (c_X4_keepsBan_u l G cI cJ cZ cD cR cT kp L f18 hW.2.2.2 _ N00 u1 u2 vb rN00 (by omega) (by omega)) rN00 (by decide) rfl wk_X4_keepsBan tw_1184 rfl ⟨Nat.le_of_ble_eq_true rfl, Nat.le_of_ble_eq_true rfl⟩ ⟨rfl, rfl⟩ hl.1 rfl (Nat.le_of_ble_eq_true rfl) dX11_keeps_44 ⟨Nat.le_of_ble_eq_true rfl, Nat.le_of_ble_eq_true rfl⟩ (fun v37 f38 H locs q39 hW => ?_)
        obtain ⟨⟨x41, rfl, p42⟩, g40⟩ := q39
        rw [m24, ((fm_I g20 rN00 rfl).trans ((fm_I g10 rN00 rfl).trans mvc))] at p42
        have m44 : P8 f38 N00 = P8 f0 N00 := (p8_fm hW0 rN00 g40 rfl).trans m24
        have z43 : WU kp L [] f0 f38 := wu_fm z23 g40 rfl
        have hF := FM.tr hF g40 rfl
        refine q_if_eq (tgt := 54) hx hb dX11_keeps_47 (by decide) rfl (fun c45 => ?_) (fun c45 => ?_)
        · refine lv_iconst (v := 0) hx hb dX11_keeps_54 (by decide) ?_
          exact e_I E hW rfl ⟨⟨_, rfl, (by rw [mN0, mN00, mN05, mvc, mvb]; have hq := p42.2; have hk : (0 : Int32).toInt = 0 := rfl; exact (by omega : (0 : Int32).toInt = x41.toInt).trans (hq.trans (fKeeps_1 (congrArg Int32.toInt mvc : (P8 f0 N00).1 = vc.toInt) (by omega)).symm))⟩, hF, z43⟩ dX11_keeps_55
        · refine lv_iconst (v := 1) hx hb dX11_keeps_50 (by decide) ?_
          refine lv_goto (tgt := 55) hx hb dX11_keeps_51 (by decide) ?_
          exact e_I E hW rfl ⟨⟨_, rfl, (by rw [mN0, mN00, mN05, mvc, mvb]; have hq := p42.2; have hk : (1 : Int32).toInt = 1 := rfl; exact (by omega : (1 : Int32).toInt = x41.toInt).trans (hq.trans (fKeeps_1 (congrArg Int32.toInt mvc : (P8 f0 N00).1 = vc.toInt) (by omega)).symm))⟩, hF, z43⟩ dX11_keeps_55
      · refine lv_iconst (v := (-1)) hx hb dX11_keeps_29 (by decide) ?_
        exact e_I E hW rfl ⟨⟨_, rfl, (by rw [mN0, mN00, mN05, mvc, mvb]; exact (fKeeps_0 (congrArg Int32.toInt mvc : (P8 f0 N00).1 = vc.toInt) (by omega)).symm)⟩, hF, z23⟩ dX11_keeps_30
def ms_X12_keepsBan_u : List (Nat × Nat) := []
def po_X12_keepsBan_u (kp : Nat → Nat) (L : List Nat) (f0 : Nat → va_E) (h0 : Nat) (u1 : Int32) (u2 : Int32) : Option Value → (Nat → va_E) → Prop := fun v f => (∃ r : Int32, v = some (.int r) ∧ ((0 ≤ r.toInt ∧ r.toInt ≤ 1) ∧ r.toInt = fBan (RP (aI (f0 (oR (f0 h0) 2))) 0) 40 (aI (f0 (oR (f0 h0) 2)) (10 : Int32).toNatClampNeg).toInt u1.toInt u2.toInt)) ∧ FM kp L ms_X12_keepsBan_u f0 f
set_option maxHeartbeats 4000000 in
set_option maxRecDepth 100000 in
theorem c_X12_keepsBan_u (l : Launch) (G : va_G) (cI cJ cZ cD cR cT : ClassId) (kp : Nat → Nat) (L : List Nat) (f0 : Nat → va_E) (hTH : TH cI cJ cZ cD cR cT kp L f0) (sz : Nat) (h0 : Nat) (u1 : Int32) (u2 : Int32) (rh0 : RK kp L h0 12) (pu1 : (0 : Int) ≤ u1.toInt ∧ u1.toInt ≤ 39) (pu2 : (0 : Int) ≤ u2.toInt ∧ u2.toInt ≤ 39) : Met l yX12_keepsBan (Cond.code yX12_keepsBan cX12_keepsBan 5 (some .boolean) :: wTab) ({ frames := 2, cells := 0, slots := 0, locals := 60 }) (va_Pc [.ref h0, .int u1, .int u2] (PreW G (tys6 cI cJ cZ cD cR cT) (va_pl L f0) sz)) (QT (po_X12_keepsBan_u kp L f0 h0 u1 u2) G cI cJ cZ cD cR cT (va_A (va_pl L f0) sz) kp L) 0 0 (va_A (va_pl L f0) sz) := by
  refine metT (by decide) (Nat.le_of_ble_eq_true rfl) hTH ?_
  intro p e s m below meth c A ls E hW hl
  obtain ⟨hx, hb, -, hml, hown, hts, -, -, -⟩ := id E
  have hF : FM kp L ms_X12_keepsBan_u f0 f0 := FM.rf
  have hl : lv_has ls 5 [(0, .ref h0), (1, .int u1), (2, .int u2)] := hl
  obtain ⟨pR, mR⟩ : ∃ x : Nat, oR (f0 h0) 2 = x := ⟨_, rfl⟩
  have rR : RK kp L pR 822 := by rw [← mR]; exact th_ref hTH rh0 (by decide) (by decide) rfl
  obtain ⟨pB, mpB⟩ : ∃ x : Int32, aI (f0 pR) (10 : Int32).toNatClampNeg = x := ⟨_, rfl⟩
  obtain ⟨K0, hK0⟩ : ∃ x : Int, kbF (RP (aI (f0 pR)) 0).2.2.1 (RP (aI (f0 pR)) 0).2.2.2.1 40 pB.toInt 41 u1.toInt = x := ⟨_, rfl⟩
  refine lv_aload_n hx hb dX12_keepsBan_0 rfl (lv_at hl 0 rfl) ?_
  refine fg_RX12_8 E hW rh0 dX12_keepsBan_1 (fun a1 m2 r3 => ?_)
  obtain rfl : pR = a1 := (mR).symm.trans m2
  refine lv_iload_n hx hb dX12_keepsBan_4 rfl (lv_at hl 1 rfl) ?_
  refine t_callS (As := [.int u1]) (rest := [.ref pR]) E hW (c_X12_personAt l G cI cJ cZ cD cR cT kp L f0 hW.2.2.2 _ u1 (by omega)) wk_X12_personAt tw_1572 rfl ⟨Nat.le_of_ble_eq_true rfl, Nat.le_of_ble_eq_true rfl⟩ ⟨rfl, rfl⟩ hl.1 rfl (Nat.le_of_ble_eq_true rfl) dX12_keepsBan_5 ⟨Nat.le_of_ble_eq_true rfl, Nat.le_of_ble_eq_true rfl⟩ (fun v4 f5 H locs q6 hW => ?_)
  obtain ⟨⟨x8, rfl, p9⟩, g7⟩ := q6
  have hF := FM.tr hF g7 rfl
  refine gl_822 E hW rR ⟨by omega, by omega⟩ dX12_keepsBan_8 (fun y10 m11 b12 => ?_)
  have z13 : aI (f0 pR) (x8 : Int32).toNatClampNeg = y10 := ((congrFun ((congrArg aI (fm_A g7 rR (by decide) rfl)).trans (rfl : aI (f0 pR) = aI (f0 pR))) _).symm.trans m11)
  refine lv_aload_n hx hb dX12_keepsBan_9 rfl (lv_at hl 0 rfl) ?_
  refine fg_RX12_8 E hW rh0 dX12_keepsBan_10 (fun a14 m15 r16 => ?_)
  obtain rfl : pR = a14 := (((fm_R g7 rh0 rfl).trans m2)).symm.trans m15
  refine lv_iload_n hx hb dX12_keepsBan_13 rfl (lv_at hl 2 rfl) ?_
  refine t_callS (As := [.int u2]) (rest := [.ref pR, .int y10]) E hW (c_X12_personAt l G cI cJ cZ cD cR cT kp L f5 hW.2.2.2 _ u2 (by omega)) wk_X12_personAt tw_1572 rfl ⟨Nat.le_of_ble_eq_true rfl, Nat.le_of_ble_eq_true rfl⟩ ⟨rfl, rfl⟩ hl.1 rfl (Nat.le_of_ble_eq_true rfl) dX12_keepsBan_14 ⟨Nat.le_of_ble_eq_true rfl, Nat.le_of_ble_eq_true rfl⟩ (fun v17 f18 H locs q19 hW => ?_)
  obtain ⟨⟨x21, rfl, p22⟩, g20⟩ := q19
  have m23 : aI (f18 pR) (10 : Int32).toNatClampNeg = pB := ((congrArg (fun z => aI z (10 : Int32).toNatClampNeg) (fm_A g20 rR (by decide) rfl)).trans ((congrArg (fun z => aI z (10 : Int32).toNatClampNeg) (fm_A g7 rR (by decide) rfl)).trans mpB))
  have hF := FM.tr hF g20 rfl
  refine gl_822 E hW rR ⟨by omega, by omega⟩ dX12_keepsBan_17 (fun y24 m25 b26 => ?_)
  have z27 : aI (f0 pR) (x21 : Int32).toNatClampNeg = y24 := ((congrFun ((congrArg aI (fm_A g20 rR (by decide) rfl)).trans ((congrArg aI (fm_A g7 rR (by decide) rfl)).trans (rfl : aI (f0 pR) = aI (f0 pR)))) _).symm.trans m25)
  refine q_icmp_ne (tgt := 23) hx hb dX12_keepsBan_18 (by decide) rfl rfl (fun c28 => ?_) (fun c28 => ?_)
  · refine lv_iload_n hx hb dX12_keepsBan_23 rfl (lv_at hl 1 rfl) ?_
    refine lv_istore_n (lv' := [(3, .int u1), (0, .ref h0), (1, .int u1), (2, .int u2)]) hx hb dX12_keepsBan_24 rfl hl (by decide) rfl (fun ls hl => ?_)
    refine lv_iconst (v := 0) hx hb dX12_keepsBan_25 (by decide) ?_
    refine lv_istore (lv' := [(4, .int 0), (3, .int u1), (0, .ref h0), (1, .int u1), (2, .int u2)]) hx hb dX12_keepsBan_26 hl (by decide) rfl (fun ls hl => ?_)
    have L1147 : ∀ (n : Nat), ∀ (f1138 : Nat → va_E) (y1141 : Int32) (y1143 : Int32) (m1139 : oR (f1138 h0) 2 = pR) (m1140 : aI (f1138 pR) (10 : Int32).toNatClampNeg = pB) (b1142 : (0 : Int) ≤ y1141.toInt ∧ y1141.toInt ≤ 41) (b1144 : (-1 : Int) ≤ y1143.toInt ∧ y1143.toInt ≤ 39) (z1145 : aI (f1138 pR) = aI (f0 pR)) (v1146 : kbF (RP (aI (f0 pR)) 0).2.2.1 (RP (aI (f0 pR)) 0).2.2.2.1 40 pB.toInt (41 - y1141.toInt).toNat y1143.toInt = K0) (hm : (42 : Int) - y1141.toInt ≤ n) (H : Heap) (locs : List Loc) (ls : Array Slot), WS G cI cJ cZ cD cR cT A kp L f1138 s H locs → FM kp L ms_X12_keepsBan_u f0 f1138 → lv_has ls 5 [(4, .int y1141), (3, .int y1143), (0, .ref h0), (1, .int u1), (2, .int u2)] → W p l e ({ frames := 2, cells := 0, slots := 0, locals := 60 }) s m ([.ref h0, .int u1, .int u2] : List Value).toArray below meth c H locs 0 0 (MQ below (QT (po_X12_keepsBan_u kp L f0 h0 u1 u2) G cI cJ cZ cD cR cT A kp L) ([.ref h0, .int u1, .int u2] : List Value).toArray s 0 0 A) (F0 m 28 ls []) := by
      intro n
      induction n with
      | zero =>
        intro f1138 y1141 y1143 m1139 m1140 b1142 b1144 z1145 v1146 hm H locs ls hW hF hl
        have hz := i32_b y1141
        exfalso; omega
      | succ n ih =>
        intro f1138 y1141 y1143 m1139 m1140 b1142 b1144 z1145 v1146 hm H locs ls hW hF hl
        have ih28 := ih
        refine lv_iload hx hb dX12_keepsBan_28 (lv_at hl 0 rfl) ?_
        refine lv_bipush (v := 40) hx hb dX12_keepsBan_30 (by decide) ?_
        refine q_icmp_gt (Y := 40) (tgt := 81) hx hb dX12_keepsBan_32 (by decide) rfl rfl (fun c1148 => ?_) (fun c1148 => ?_)
        · refine lv_iconst (v := 0) hx hb dX12_keepsBan_81 (by decide) ?_
          exact e_Z E hW rfl (by decide) ⟨⟨_, rfl, (by rw [mR, mpB]; refine ⟨by decide, ?_⟩; have hz : K0 = 0 := (by first | exact kb_end v1146 (by omega) | exact kb_no v1146 (by omega) (by omega)); exact ((fBan_1 (by rw [((rp_house (by omega) (by omega) z13) : (RP (aI (f0 pR)) 0).2.1 u1.toInt.toNat = _), ((rp_house (by omega) (by omega) z27) : (RP (aI (f0 pR)) 0).2.1 u2.toInt.toNat = _)]; omega) hK0).trans hz).symm)⟩, hF⟩ dX12_keepsBan_82
        · refine lv_iload_n hx hb dX12_keepsBan_35 rfl (lv_at hl 1 rfl) ?_
          refine lv_iconst (v := (-1)) hx hb dX12_keepsBan_36 (by decide) ?_
          refine q_icmp_eq (Y := -1) (tgt := 81) hx hb dX12_keepsBan_37 (by decide) rfl rfl (fun c1149 => ?_) (fun c1149 => ?_)
          · refine lv_iconst (v := 0) hx hb dX12_keepsBan_81 (by decide) ?_
            exact e_Z E hW rfl (by decide) ⟨⟨_, rfl, (by rw [mR, mpB]; refine ⟨by decide, ?_⟩; have hz : K0 = 0 := (by first | exact kb_end v1146 (by omega) | exact kb_no v1146 (by omega) (by omega)); exact ((fBan_1 (by rw [((rp_house (by omega) (by omega) z13) : (RP (aI (f0 pR)) 0).2.1 u1.toInt.toNat = _), ((rp_house (by omega) (by omega) z27) : (RP (aI (f0 pR)) 0).2.1 u2.toInt.toNat = _)]; omega) hK0).trans hz).symm)⟩, hF⟩ dX12_keepsBan_82
          · refine lv_aload_n hx hb dX12_keepsBan_40 rfl (lv_at hl 2 rfl) ?_
            refine fg_RX12_8 E hW rh0 dX12_keepsBan_41 (fun a1150 m1151 r1152 => ?_)
            obtain rfl : pR = a1150 := (m1139).symm.trans m1151
            refine lv_iload_n hx hb dX12_keepsBan_44 rfl (lv_at hl 1 rfl) ?_
            refine t_callS (As := [.int y1143]) (rest := [.ref pR]) E hW (c_X12_personAt l G cI cJ cZ cD cR cT kp L f1138 hW.2.2.2 _ y1143 (by omega)) wk_X12_personAt tw_1572 rfl ⟨Nat.le_of_ble_eq_true rfl, Nat.le_of_ble_eq_true rfl⟩ ⟨rfl, rfl⟩ hl.1 rfl (Nat.le_of_ble_eq_true rfl) dX12_keepsBan_45 ⟨Nat.le_of_ble_eq_true rfl, Nat.le_of_ble_eq_true rfl⟩ (fun v1153 f1154 H locs q1155 hW => ?_)
            obtain ⟨⟨x1157, rfl, p1158⟩, g1156⟩ := q1155
            have hF := FM.tr hF g1156 rfl
            refine lv_iconst (v := 2) hx hb dX12_keepsBan_48 (by decide) ?_
            refine q_iadd (Y := 2) hx hb dX12_keepsBan_49 rfl rfl (by omega) (fun x1159 h1160 => ?_)
            refine gl_822 E hW rR ⟨by omega, by omega⟩ dX12_keepsBan_50 (fun y1161 m1162 b1163 => ?_)
            have z1164 : aI (f0 pR) (x1159 : Int32).toNatClampNeg = y1161 := ((congrFun ((congrArg aI (fm_A g1156 rR (by decide) rfl)).trans z1145) _).symm.trans m1162)
            refine lv_aload_n hx hb dX12_keepsBan_51 rfl (lv_at hl 2 rfl) ?_
            refine fg_RX12_8 E hW rh0 dX12_keepsBan_52 (fun a1165 m1166 r1167 => ?_)
            obtain rfl : pR = a1165 := (((fm_R g1156 rh0 rfl).trans m1151)).symm.trans m1166
            refine lv_bipush (v := 10) hx hb dX12_keepsBan_55 (by decide) ?_
            refine gl_822 E hW rR (by decide) dX12_keepsBan_57 (fun y1168 m1169 b1170 => ?_)
            obtain rfl : pB = y1168 := (((congrArg (fun z => aI z (10 : Int32).toNatClampNeg) (fm_A g1156 rR (by decide) rfl)).trans m1140)).symm.trans m1169
            refine q_icmp_lt (tgt := 63) hx hb dX12_keepsBan_58 (by decide) rfl rfl (fun c1171 => ?_) (fun c1171 => ?_)
            · have hb1172 : y1161.toInt ≤ 2147483646 := by have := i32_b pB; omega
              have hb1173 : -2147483647 ≤ pB.toInt := by have := i32_b y1161; omega
              refine lv_aload_n hx hb dX12_keepsBan_63 rfl (lv_at hl 2 rfl) ?_
              refine fg_RX12_8 E hW rh0 dX12_keepsBan_64 (fun a1174 m1175 r1176 => ?_)
              obtain rfl : pR = a1174 := (m1166).symm.trans m1175
              refine lv_iload_n hx hb dX12_keepsBan_67 rfl (lv_at hl 1 rfl) ?_
              refine t_callS (As := [.int y1143]) (rest := [.ref pR]) E hW (c_X12_personAt l G cI cJ cZ cD cR cT kp L f1154 hW.2.2.2 _ y1143 (by omega)) wk_X12_personAt tw_1572 rfl ⟨Nat.le_of_ble_eq_true rfl, Nat.le_of_ble_eq_true rfl⟩ ⟨rfl, rfl⟩ hl.1 rfl (Nat.le_of_ble_eq_true rfl) dX12_keepsBan_68 ⟨Nat.le_of_ble_eq_true rfl, Nat.le_of_ble_eq_true rfl⟩ (fun v1177 f1178 H locs q1179 hW => ?_)
              obtain ⟨⟨x1181, rfl, p1182⟩, g1180⟩ := q1179
              have hF := FM.tr hF g1180 rfl
              refine lv_iconst (v := 3) hx hb dX12_keepsBan_71 (by decide) ?_
              refine q_iadd (Y := 3) hx hb dX12_keepsBan_72 rfl rfl (by omega) (fun x1183 h1184 => ?_)
              refine gl_822 E hW rR ⟨by omega, by omega⟩ dX12_keepsBan_73 (fun y1185 m1186 b1187 => ?_)
              have b1188 := rr_heed (show RowInv _ from b1187) m1186 (by omega)
              have z1189 : aI (f0 pR) (x1183 : Int32).toNatClampNeg = y1185 := ((congrFun ((congrArg aI (fm_A g1180 rR (by decide) rfl)).trans ((congrArg aI (fm_A g1156 rR (by decide) rfl)).trans z1145)) _).symm.trans m1186)
              refine lv_istore_n (lv' := [(3, .int y1185), (4, .int y1141), (0, .ref h0), (1, .int u1), (2, .int u2)]) hx hb dX12_keepsBan_74 rfl hl (by decide) rfl (fun ls hl => ?_)
              refine q_iinc hx hb dX12_keepsBan_75 hl (k := 1) rfl rfl rfl (by omega) (by decide) (fun i1190 ls h1191 hl => ?_)
              have hl : lv_has ls 5 [(4, .int i1190), (3, .int y1185), (0, .ref h0), (1, .int u1), (2, .int u2)] := hl
              refine lv_goto (tgt := 28) hx hb dX12_keepsBan_78 (by decide) ?_
              exact ih28 f1178 i1190 y1185 ((fm_R g1180 rh0 rfl).trans m1175) ((congrArg (fun z => aI z (10 : Int32).toNatClampNeg) (fm_A g1180 rR (by decide) rfl)).trans m1169) (by omega) (by omega) ((congrArg aI (fm_A g1180 rR (by decide) rfl)).trans ((congrArg aI (fm_A g1156 rR (by decide) rfl)).trans z1145)) (kb_go v1146 (by omega) (by omega) (rp_fear (by omega) (by omega) z1164) (by omega) (rp_hd (by omega) (by omega) z1189) (by omega)) (by omega) _ _ _ hW hF (lv_sub hl [0, 1, 2, 3, 4] rfl)
            · refine lv_iconst (v := 1) hx hb dX12_keepsBan_61 (by decide) ?_
              exact e_Z E hW rfl (by decide) ⟨⟨_, rfl, (by rw [mR, mpB]; refine ⟨by decide, ?_⟩; have hz : K0 = 1 := (by first | exact kb_yes v1146 (by omega) (by omega) (rp_fear (by omega) (by omega) z1164) (by omega)); exact ((fBan_1 (by rw [((rp_house (by omega) (by omega) z13) : (RP (aI (f0 pR)) 0).2.1 u1.toInt.toNat = _), ((rp_house (by omega) (by omega) z27) : (RP (aI (f0 pR)) 0).2.1 u2.toInt.toNat = _)]; omega) hK0).trans hz).symm)⟩, hF⟩ dX12_keepsBan_62
    have hk1192 : (0 : Int32).toInt = 0 := rfl
    exact L1147 42 f18 0 u1 ((fm_R g20 rh0 rfl).trans m15) m23 (by decide) (by omega) ((congrArg aI (fm_A g20 rR (by decide) rfl)).trans ((congrArg aI (fm_A g7 rR (by decide) rfl)).trans (rfl : aI (f0 pR) = aI (f0 pR)))) (by have h0 : (0 : Int32).toInt = 0 := rfl; rw [h0]; exact hK0) (by omega) _ _ _ hW hF (lv_sub hl [0, 1, 2, 3, 4] rfl)
  · refine lv_iconst (v := 0) hx hb dX12_keepsBan_21 (by decide) ?_
    exact e_Z E hW rfl (by decide) ⟨⟨_, rfl, (by rw [mR, mpB]; exact ⟨by decide, (fBan_0 ((rp_house (by omega) (by omega) z13).trans ((by omega : y10.toInt = y24.toInt).trans (rp_house (by omega) (by omega) z27).symm))).symm⟩)⟩, hF⟩ dX12_keepsBan_22
def ms_X12_keeps_u : List (Nat × Nat) := [(12, 0)]
def po_X12_keeps_u (kp : Nat → Nat) (L : List Nat) (f0 : Nat → va_E) (h0 : Nat) (u1 : Int32) (u2 : Int32) : Option Value → (Nat → va_E) → Prop := fun v f => (∃ r : Int32, v = some (.int r) ∧ (r.toInt = fKeeps (RP (aI (f0 (oR (f0 h0) 2))) 0) 40 (aI (f0 (oR (f0 h0) 2)) (10 : Int32).toNatClampNeg).toInt u1.toInt u2.toInt)) ∧ FM kp L ms_X12_keeps_u f0 f
set_option maxHeartbeats 4000000 in
set_option maxRecDepth 100000 in
theorem c_X12_keeps_u (l : Launch) (G : va_G) (cI cJ cZ cD cR cT : ClassId) (kp : Nat → Nat) (L : List Nat) (f0 : Nat → va_E) (hTH : TH cI cJ cZ cD cR cT kp L f0) (sz : Nat) (h0 : Nat) (u1 : Int32) (u2 : Int32) (rh0 : RK kp L h0 12) : Met l yX12_keeps (Cond.code yX12_keeps cX12_keeps 3 (some .int) :: wTab) ({ frames := 3, cells := 0, slots := 0, locals := 86 }) (va_Pc [.ref h0, .int u1, .int u2] (PreW G (tys6 cI cJ cZ cD cR cT) (va_pl L f0) sz)) (QT (po_X12_keeps_u kp L f0 h0 u1 u2) G cI cJ cZ cD cR cT (va_A (va_pl L f0) sz) kp L) 0 0 (va_A (va_pl L f0) sz) := by
  refine metT (by decide) (Nat.le_of_ble_eq_true rfl) hTH ?_
  intro p e s m below meth c A ls E hW hl
  obtain ⟨hx, hb, -, hml, hown, hts, -, -, -⟩ := id E
  have hF : FM kp L ms_X12_keeps_u f0 f0 := FM.rf
  have hl : lv_has ls 3 [(0, .ref h0), (1, .int u1), (2, .int u2)] := hl
  obtain ⟨pR, mR⟩ : ∃ x : Nat, oR (f0 h0) 2 = x := ⟨_, rfl⟩
  have rR : RK kp L pR 822 := by rw [← mR]; exact th_ref hTH rh0 (by decide) (by decide) rfl
  obtain ⟨p0, mp0⟩ : ∃ x : Int32, aI (f0 pR) (0 : Int32).toNatClampNeg = x := ⟨_, rfl⟩
  have hr0 : (0 : Int) ≤ p0.toInt ∧ p0.toInt ≤ 40 := rr_0 (th_row hTH rR) mp0 rfl
  obtain ⟨pB, mpB⟩ : ∃ x : Int32, aI (f0 pR) (10 : Int32).toNatClampNeg = x := ⟨_, rfl⟩
  refine lv_aload_n hx hb dX12_keeps_0 rfl (lv_at hl 0 rfl) ?_
  refine lv_iconst (v := 0) hx hb dX12_keeps_1 (by decide) ?_
  refine fp_RX12_82 E hW rh0 dX12_keeps_2 (fun f1 H locs e2 n3 g4 hW => ?_)
  have hF := FM.tr hF g4 rfl
  refine lv_aload_n hx hb dX12_keeps_5 rfl (lv_at hl 0 rfl) ?_
  refine lv_iload_n hx hb dX12_keeps_6 rfl (lv_at hl 1 rfl) ?_
  refine t_callV (As := [.int u1]) (rest := []) E hW (c_X12_isPerson_x l G cI cJ cZ cD cR cT kp L f1 hW.2.2.2 _ h0 u1 rh0) rh0 (by decide) rfl wk_X12_isPerson tw_1583 rfl ⟨Nat.le_of_ble_eq_true rfl, Nat.le_of_ble_eq_true rfl⟩ ⟨rfl, rfl⟩ hl.1 rfl (Nat.le_of_ble_eq_true rfl) dX12_keeps_7 ⟨Nat.le_of_ble_eq_true rfl, Nat.le_of_ble_eq_true rfl⟩ (fun v5 f6 H locs q7 hW => ?_)
  obtain ⟨⟨x9, rfl, p10⟩, g8⟩ := q7
  rw [((fm_R g4 rh0 rfl).trans mR), ((congrArg (fun z => aI z (0 : Int32).toNatClampNeg) (fm_A g4 rR (by decide) rfl)).trans mp0)] at p10
  have m11 : aI (f6 pR) (0 : Int32).toNatClampNeg = p0 := ((congrArg (fun z => aI z (0 : Int32).toNatClampNeg) (fm_A g8 rR (by decide) rfl)).trans ((congrArg (fun z => aI z (0 : Int32).toNatClampNeg) (fm_A g4 rR (by decide) rfl)).trans mp0))
  have m12 : aI (f6 pR) (10 : Int32).toNatClampNeg = pB := ((congrArg (fun z => aI z (10 : Int32).toNatClampNeg) (fm_A g8 rR (by decide) rfl)).trans ((congrArg (fun z => aI z (10 : Int32).toNatClampNeg) (fm_A g4 rR (by decide) rfl)).trans mpB))
  have hF := FM.tr hF g8 rfl
  refine q_if_eq (tgt := 43) hx hb dX12_keeps_10 (by decide) rfl (fun c13 => ?_) (fun c13 => ?_)
  · refine lv_iconst (v := (-1)) hx hb dX12_keeps_43 (by decide) ?_
    exact e_I E hW rfl ⟨⟨_, rfl, (by rw [mR, mpB]; exact (fKeeps_0 (congrArg Int32.toInt mp0 : (RP (aI (f0 pR)) 0).1 = p0.toInt) (by omega)).symm)⟩, hF⟩ dX12_keeps_44
  · have q14 : 0 ≤ u1.toInt ∧ u1.toInt ≤ 39 := by omega
    refine lv_aload_n hx hb dX12_keeps_13 rfl (lv_at hl 0 rfl) ?_
    refine lv_iload_n hx hb dX12_keeps_14 rfl (lv_at hl 2 rfl) ?_
    refine t_callV (As := [.int u2]) (rest := []) E hW (c_X12_isPerson_x l G cI cJ cZ cD cR cT kp L f6 hW.2.2.2 _ h0 u2 rh0) rh0 (by decide) rfl wk_X12_isPerson tw_1583 rfl ⟨Nat.le_of_ble_eq_true rfl, Nat.le_of_ble_eq_true rfl⟩ ⟨rfl, rfl⟩ hl.1 rfl (Nat.le_of_ble_eq_true rfl) dX12_keeps_15 ⟨Nat.le_of_ble_eq_true rfl, Nat.le_of_ble_eq_true rfl⟩ (fun v15 f16 H locs q17 hW => ?_)
    obtain ⟨⟨x19, rfl, p20⟩, g18⟩ := q17
    rw [((fm_R g8 rh0 rfl).trans ((fm_R g4 rh0 rfl).trans mR)), m11] at p20
    have m21 : aI (f16 pR) = aI (f0 pR) := ((congrArg aI (fm_A g18 rR (by decide) rfl)).trans ((congrArg aI (fm_A g8 rR (by decide) rfl)).trans ((congrArg aI (fm_A g4 rR (by decide) rfl)).trans (rfl : aI (f0 pR) = aI (f0 pR)))))
    have hF := FM.tr hF g18 rfl
    refine q_if_eq (tgt := 43) hx hb dX12_keeps_18 (by decide) rfl (fun c22 => ?_) (fun c22 => ?_)
    · refine lv_iconst (v := (-1)) hx hb dX12_keeps_43 (by decide) ?_
      exact e_I E hW rfl ⟨⟨_, rfl, (by rw [mR, mpB]; exact (fKeeps_0 (congrArg Int32.toInt mp0 : (RP (aI (f0 pR)) 0).1 = p0.toInt) (by omega)).symm)⟩, hF⟩ dX12_keeps_44
    · have q23 : 0 ≤ u2.toInt ∧ u2.toInt ≤ 39 := by omega
      refine lv_iload_n hx hb dX12_keeps_21 rfl (lv_at hl 1 rfl) ?_
      refine lv_iload_n hx hb dX12_keeps_22 rfl (lv_at hl 2 rfl) ?_
      refine q_icmp_eq (tgt := 43) hx hb dX12_keeps_23 (by decide) rfl rfl (fun c24 => ?_) (fun c24 => ?_)
      · refine lv_iconst (v := (-1)) hx hb dX12_keeps_43 (by decide) ?_
        exact e_I E hW rfl ⟨⟨_, rfl, (by rw [mR, mpB]; exact (fKeeps_0 (congrArg Int32.toInt mp0 : (RP (aI (f0 pR)) 0).1 = p0.toInt) (by omega)).symm)⟩, hF⟩ dX12_keeps_44
      · refine lv_aload_n hx hb dX12_keeps_26 rfl (lv_at hl 0 rfl) ?_
        refine lv_iload_n hx hb dX12_keeps_27 rfl (lv_at hl 1 rfl) ?_
        refine lv_iload_n hx hb dX12_keeps_28 rfl (lv_at hl 2 rfl) ?_
        refine t_callV (As := [.int u1, .int u2]) (rest := []) E hW (c_X12_keepsBan_u l G cI cJ cZ cD cR cT kp L f16 hW.2.2.2 _ h0 u1 u2 rh0 (by omega) (by omega)) rh0 (by decide) rfl wk_X12_keepsBan tw_1974 rfl ⟨Nat.le_of_ble_eq_true rfl, Nat.le_of_ble_eq_true rfl⟩ ⟨rfl, rfl⟩ hl.1 rfl (Nat.le_of_ble_eq_true rfl) dX12_keeps_29 ⟨Nat.le_of_ble_eq_true rfl, Nat.le_of_ble_eq_true rfl⟩ (fun v25 f26 H locs q27 hW => ?_)
        obtain ⟨⟨x29, rfl, p30⟩, g28⟩ := q27
        rw [((fm_R g18 rh0 rfl).trans ((fm_R g8 rh0 rfl).trans ((fm_R g4 rh0 rfl).trans mR))), m21, mpB] at p30
        have m31 : aI (f26 pR) (0 : Int32).toNatClampNeg = p0 := ((congrArg (fun z => aI z (0 : Int32).toNatClampNeg) (fm_A g28 rR (by decide) rfl)).trans ((congrArg (fun z => aI z (0 : Int32).toNatClampNeg) (fm_A g18 rR (by decide) rfl)).trans m11))
        have m32 : aI (f26 pR) (10 : Int32).toNatClampNeg = pB := ((congrArg (fun z => aI z (10 : Int32).toNatClampNeg) (fm_A g28 rR (by decide) rfl)).trans ((congrArg (fun z => aI z (10 : Int32).toNatClampNeg) (fm_A g18 rR (by decide) rfl)).trans m12))
        have hF := FM.tr hF g28 rfl
        refine q_if_eq (tgt := 39) hx hb dX12_keeps_32 (by decide) rfl (fun c33 => ?_) (fun c33 => ?_)
        · refine lv_iconst (v := 0) hx hb dX12_keeps_39 (by decide) ?_
          refine lv_goto (tgt := 44) hx hb dX12_keeps_40 (by decide) ?_
          exact e_I E hW rfl ⟨⟨_, rfl, (by rw [mR, mpB]; have hq := p30.2; have hk : (0 : Int32).toInt = 0 := rfl; exact (by omega : (0 : Int32).toInt = x29.toInt).trans (hq.trans (fKeeps_1 (congrArg Int32.toInt mp0 : (RP (aI (f0 pR)) 0).1 = p0.toInt) (by omega)).symm))⟩, hF⟩ dX12_keeps_44
        · refine lv_iconst (v := 1) hx hb dX12_keeps_35 (by decide) ?_
          refine lv_goto (tgt := 44) hx hb dX12_keeps_36 (by decide) ?_
          exact e_I E hW rfl ⟨⟨_, rfl, (by rw [mR, mpB]; have hq := p30.2; have hk : (1 : Int32).toInt = 1 := rfl; exact (by omega : (1 : Int32).toInt = x29.toInt).trans (hq.trans (fKeeps_1 (congrArg Int32.toInt mp0 : (RP (aI (f0 pR)) 0).1 = p0.toInt) (by omega)).symm))⟩, hF⟩ dX12_keeps_44
def ms_X3_sumOf_l_u : List (Nat × Nat) := []
def po_X3_sumOf_l_u (kp : Nat → Nat) (L : List Nat) (f0 : Nat → va_E) (h0 : Nat) (u1 : Int32) (u2 : Nat) : Option Value → (Nat → va_E) → Prop := fun v f => (∃ r : Int32, v = some (.int r) ∧ (r = sm (aI (f0 u2)) u1 (oI (f0 h0) 3).toNatClampNeg)) ∧ FM kp L ms_X3_sumOf_l_u f0 f
set_option maxHeartbeats 4000000 in
set_option maxRecDepth 100000 in
theorem c_X3_sumOf_l_u (l : Launch) (G : va_G) (cI cJ cZ cD cR cT : ClassId) (kp : Nat → Nat) (L : List Nat) (f0 : Nat → va_E) (hTH : TH cI cJ cZ cD cR cT kp L f0) (sz : Nat) (h0 : Nat) (u1 : Int32) (u2 : Nat) (rh0 : RK kp L h0 3) (ru2 : RK kp L u2 284) (pu1 : (0 : Int) ≤ u1.toInt ∧ u1.toInt ≤ 511) : Met l yX3_sumOf (Cond.code yX3_sumOf cX3_sumOf 5 (some .int) :: wTab) ({ frames := 1, cells := 0, slots := 0, locals := 40 }) (va_Pc [.ref h0, .int u1, .ref u2] (PreW G (tys6 cI cJ cZ cD cR cT) (va_pl L f0) sz)) (QT (po_X3_sumOf_l_u kp L f0 h0 u1 u2) G cI cJ cZ cD cR cT (va_A (va_pl L f0) sz) kp L) 0 0 (va_A (va_pl L f0) sz) := by
  refine metT (by decide) (Nat.le_of_ble_eq_true rfl) hTH ?_
  intro p e s m below meth c A ls E hW hl
  obtain ⟨hx, hb, -, hml, hown, hts, -, -, -⟩ := id E
  have hF : FM kp L ms_X3_sumOf_l_u f0 f0 := FM.rf
  have hl : lv_has ls 5 [(0, .ref h0), (1, .int u1), (2, .ref u2)] := hl
  obtain ⟨vc, mvc⟩ : ∃ x : Int32, oI (f0 h0) 3 = x := ⟨_, rfl⟩
  have bvc : (0 : Int) ≤ vc.toInt ∧ vc.toInt ≤ 9 := by rw [← mvc]; exact th_iv hW rh0 (by decide) (by decide) rfl
  refine lv_iconst (v := 0) hx hb dX3_sumOf_0 (by decide) ?_
  refine lv_istore_n (lv' := [(3, .int 0), (0, .ref h0), (1, .int u1), (2, .ref u2)]) hx hb dX3_sumOf_1 rfl hl (by decide) rfl (fun ls hl => ?_)
  refine lv_iconst (v := 0) hx hb dX3_sumOf_2 (by decide) ?_
  refine lv_istore (lv' := [(4, .int 0), (3, .int 0), (0, .ref h0), (1, .int u1), (2, .ref u2)]) hx hb dX3_sumOf_3 hl (by decide) rfl (fun ls hl => ?_)
  have L307 : ∀ (n : Nat), ∀ (y302 : Int32) (y304 : Int32) (b303 : (0 : Int) ≤ y302.toInt ∧ y302.toInt ≤ 9) (v305 : y302.toInt ≤ vc.toInt) (v306 : y304 = sm (aI (f0 u2)) u1 y302.toNatClampNeg) (hm : (10 : Int) - y302.toInt ≤ n) (H : Heap) (locs : List Loc) (ls : Array Slot), WS G cI cJ cZ cD cR cT A kp L f0 s H locs → FM kp L ms_X3_sumOf_l_u f0 f0 → lv_has ls 5 [(4, .int y302), (3, .int y304), (0, .ref h0), (1, .int u1), (2, .ref u2)] → W p l e ({ frames := 1, cells := 0, slots := 0, locals := 40 }) s m ([.ref h0, .int u1, .ref u2] : List Value).toArray below meth c H locs 0 0 (MQ below (QT (po_X3_sumOf_l_u kp L f0 h0 u1 u2) G cI cJ cZ cD cR cT A kp L) ([.ref h0, .int u1, .ref u2] : List Value).toArray s 0 0 A) (F0 m 5 ls []) := by
    intro n
    induction n with
    | zero =>
      intro y302 y304 b303 v305 v306 hm H locs ls hW hF hl
      have hz := i32_b y302
      exfalso; omega
    | succ n ih =>
      intro y302 y304 b303 v305 v306 hm H locs ls hW hF hl
      have ih5 := ih
      refine lv_iload hx hb dX3_sumOf_5 (lv_at hl 0 rfl) ?_
      refine lv_aload_n hx hb dX3_sumOf_7 rfl (lv_at hl 2 rfl) ?_
      refine fg_RX3_22 E hW rh0 dX3_sumOf_8 (fun y308 m309 b310 => ?_)
      obtain rfl : vc = y308 := (mvc).symm.trans m309
      refine q_icmp_ge (tgt := 48) hx hb dX3_sumOf_11 (by decide) rfl rfl (fun c311 => ?_) (fun c311 => ?_)
      · refine lv_iload_n hx hb dX3_sumOf_48 rfl (lv_at hl 1 rfl) ?_
        exact e_I E hW rfl ⟨⟨_, rfl, (by rw [mvc]; exact sm_end v306 (by omega))⟩, hF⟩ dX3_sumOf_49
      · refine lv_iload hx hb dX3_sumOf_14 (lv_at hl 0 rfl) ?_
        refine lv_aload_n hx hb dX3_sumOf_16 rfl (lv_at hl 4 rfl) ?_
        refine r_alen E hW ru2 (by decide) dX3_sumOf_17 (fun n312 h313 => ?_) (by rw [lenOk_n (th_len hW ru2 (by decide)) rfl (by decide)]; decide)
        rw [lenOk_n (th_len hW ru2 (by decide)) rfl (by decide)] at h313
        obtain rfl : (9 : Int32) = n312 := Int32.toInt_inj.mp (Eq.trans (by decide) h313.symm)
        refine q_icmp_ge (Y := 9) (tgt := 48) hx hb dX3_sumOf_18 (by decide) rfl rfl (fun c314 => ?_) (fun c314 => ?_)
        · exfalso; omega
        · refine lv_iload_n hx hb dX3_sumOf_21 rfl (lv_at hl 1 rfl) ?_
          refine lv_iload_n hx hb dX3_sumOf_22 rfl (lv_at hl 3 rfl) ?_
          refine lv_iload hx hb dX3_sumOf_23 (lv_at hl 0 rfl) ?_
          refine x_ishr hx hb dX3_sumOf_25 (fun x315 e316 => ?_)
          refine lv_iconst (v := 1) hx hb dX3_sumOf_26 (by decide) ?_
          refine x_iand hx hb dX3_sumOf_27 (fun x317 e318 => ?_)
          have q319 := bit_1 (by omega) (by omega) e316 e318
          have b320 := bit_01 q319
          refine lv_iconst (v := 1) hx hb dX3_sumOf_28 (by decide) ?_
          refine q_icmp_ne (Y := 1) (tgt := 39) hx hb dX3_sumOf_29 (by decide) rfl rfl (fun c321 => ?_) (fun c321 => ?_)
          · refine lv_iconst (v := 0) hx hb dX3_sumOf_39 (by decide) ?_
            refine x_iadd hx hb dX3_sumOf_40 (fun x322 e323 => ?_)
            refine lv_istore_n (lv' := [(3, .int x322), (4, .int y302), (0, .ref h0), (1, .int u1), (2, .ref u2)]) hx hb dX3_sumOf_41 rfl hl (by decide) rfl (fun ls hl => ?_)
            refine q_iinc hx hb dX3_sumOf_42 hl (k := 1) rfl rfl rfl (by omega) (by decide) (fun i324 ls h325 hl => ?_)
            have hl : lv_has ls 5 [(4, .int i324), (3, .int x322), (0, .ref h0), (1, .int u1), (2, .ref u2)] := hl
            refine lv_goto (tgt := 5) hx hb dX3_sumOf_45 (by decide) ?_
            exact ih5 i324 x322 (by omega) (by omega) (sm_f v306 q319 (by omega) e323 (by omega) (by omega)) (by omega) _ _ _ hW hF (lv_sub hl [0, 1, 2, 3, 4] rfl)
          · refine lv_aload_n hx hb dX3_sumOf_32 rfl (lv_at hl 4 rfl) ?_
            refine lv_iload hx hb dX3_sumOf_33 (lv_at hl 0 rfl) ?_
            refine gl_284 E hW ru2 ⟨by omega, by omega⟩ dX3_sumOf_35 (fun y326 m327 => ?_)
            refine lv_goto (tgt := 40) hx hb dX3_sumOf_36 (by decide) ?_
            refine x_iadd hx hb dX3_sumOf_40 (fun x329 e330 => ?_)
            refine lv_istore_n (lv' := [(3, .int x329), (4, .int y302), (0, .ref h0), (1, .int u1), (2, .ref u2)]) hx hb dX3_sumOf_41 rfl hl (by decide) rfl (fun ls hl => ?_)
            refine q_iinc hx hb dX3_sumOf_42 hl (k := 1) rfl rfl rfl (by omega) (by decide) (fun i331 ls h332 hl => ?_)
            have hl : lv_has ls 5 [(4, .int i331), (3, .int x329), (0, .ref h0), (1, .int u1), (2, .ref u2)] := hl
            refine lv_goto (tgt := 5) hx hb dX3_sumOf_45 (by decide) ?_
            exact ih5 i331 x329 (by omega) (by omega) (sm_t v306 q319 (by omega) m327 e330 (by omega) (by omega)) (by omega) _ _ _ hW hF (lv_sub hl [0, 1, 2, 3, 4] rfl)
  have hk333 : (0 : Int32).toInt = 0 := rfl
  have hk334 : (0 : Int32).toInt = 0 := rfl
  exact L307 10 0 0 (by decide) (by omega) rfl (by omega) _ _ _ hW hF (lv_sub hl [0, 1, 2, 3, 4] rfl)
def ms_X3_sumOf_o_u : List (Nat × Nat) := []
def po_X3_sumOf_o_u (kp : Nat → Nat) (L : List Nat) (f0 : Nat → va_E) (h0 : Nat) (u1 : Int32) (u2 : Nat) : Option Value → (Nat → va_E) → Prop := fun v f => (∃ r : Int32, v = some (.int r) ∧ (r = sm (aI (f0 u2)) u1 (oI (f0 h0) 3).toNatClampNeg)) ∧ FM kp L ms_X3_sumOf_o_u f0 f
set_option maxHeartbeats 4000000 in
set_option maxRecDepth 100000 in
theorem c_X3_sumOf_o_u (l : Launch) (G : va_G) (cI cJ cZ cD cR cT : ClassId) (kp : Nat → Nat) (L : List Nat) (f0 : Nat → va_E) (hTH : TH cI cJ cZ cD cR cT kp L f0) (sz : Nat) (h0 : Nat) (u1 : Int32) (u2 : Nat) (rh0 : RK kp L h0 3) (ru2 : RK kp L u2 285) (pu1 : (0 : Int) ≤ u1.toInt ∧ u1.toInt ≤ 511) : Met l yX3_sumOf (Cond.code yX3_sumOf cX3_sumOf 5 (some .int) :: wTab) ({ frames := 1, cells := 0, slots := 0, locals := 40 }) (va_Pc [.ref h0, .int u1, .ref u2] (PreW G (tys6 cI cJ cZ cD cR cT) (va_pl L f0) sz)) (QT (po_X3_sumOf_o_u kp L f0 h0 u1 u2) G cI cJ cZ cD cR cT (va_A (va_pl L f0) sz) kp L) 0 0 (va_A (va_pl L f0) sz) := by
  refine metT (by decide) (Nat.le_of_ble_eq_true rfl) hTH ?_
  intro p e s m below meth c A ls E hW hl
  obtain ⟨hx, hb, -, hml, hown, hts, -, -, -⟩ := id E
  have hF : FM kp L ms_X3_sumOf_o_u f0 f0 := FM.rf
  have hl : lv_has ls 5 [(0, .ref h0), (1, .int u1), (2, .ref u2)] := hl
  obtain ⟨vc, mvc⟩ : ∃ x : Int32, oI (f0 h0) 3 = x := ⟨_, rfl⟩
  have bvc : (0 : Int) ≤ vc.toInt ∧ vc.toInt ≤ 9 := by rw [← mvc]; exact th_iv hW rh0 (by decide) (by decide) rfl
  refine lv_iconst (v := 0) hx hb dX3_sumOf_0 (by decide) ?_
  refine lv_istore_n (lv' := [(3, .int 0), (0, .ref h0), (1, .int u1), (2, .ref u2)]) hx hb dX3_sumOf_1 rfl hl (by decide) rfl (fun ls hl => ?_)
  refine lv_iconst (v := 0) hx hb dX3_sumOf_2 (by decide) ?_
  refine lv_istore (lv' := [(4, .int 0), (3, .int 0), (0, .ref h0), (1, .int u1), (2, .ref u2)]) hx hb dX3_sumOf_3 hl (by decide) rfl (fun ls hl => ?_)
  have L307 : ∀ (n : Nat), ∀ (y302 : Int32) (y304 : Int32) (b303 : (0 : Int) ≤ y302.toInt ∧ y302.toInt ≤ 9) (v305 : y302.toInt ≤ vc.toInt) (v306 : y304 = sm (aI (f0 u2)) u1 y302.toNatClampNeg) (hm : (10 : Int) - y302.toInt ≤ n) (H : Heap) (locs : List Loc) (ls : Array Slot), WS G cI cJ cZ cD cR cT A kp L f0 s H locs → FM kp L ms_X3_sumOf_o_u f0 f0 → lv_has ls 5 [(4, .int y302), (3, .int y304), (0, .ref h0), (1, .int u1), (2, .ref u2)] → W p l e ({ frames := 1, cells := 0, slots := 0, locals := 40 }) s m ([.ref h0, .int u1, .ref u2] : List Value).toArray below meth c H locs 0 0 (MQ below (QT (po_X3_sumOf_o_u kp L f0 h0 u1 u2) G cI cJ cZ cD cR cT A kp L) ([.ref h0, .int u1, .ref u2] : List Value).toArray s 0 0 A) (F0 m 5 ls []) := by
    intro n
    induction n with
    | zero =>
      intro y302 y304 b303 v305 v306 hm H locs ls hW hF hl
      have hz := i32_b y302
      exfalso; omega
    | succ n ih =>
      intro y302 y304 b303 v305 v306 hm H locs ls hW hF hl
      have ih5 := ih
      refine lv_iload hx hb dX3_sumOf_5 (lv_at hl 0 rfl) ?_
      refine lv_aload_n hx hb dX3_sumOf_7 rfl (lv_at hl 2 rfl) ?_
      refine fg_RX3_22 E hW rh0 dX3_sumOf_8 (fun y308 m309 b310 => ?_)
      obtain rfl : vc = y308 := (mvc).symm.trans m309
      refine q_icmp_ge (tgt := 48) hx hb dX3_sumOf_11 (by decide) rfl rfl (fun c311 => ?_) (fun c311 => ?_)
      · refine lv_iload_n hx hb dX3_sumOf_48 rfl (lv_at hl 1 rfl) ?_
        exact e_I E hW rfl ⟨⟨_, rfl, (by rw [mvc]; exact sm_end v306 (by omega))⟩, hF⟩ dX3_sumOf_49
      · refine lv_iload hx hb dX3_sumOf_14 (lv_at hl 0 rfl) ?_
        refine lv_aload_n hx hb dX3_sumOf_16 rfl (lv_at hl 4 rfl) ?_
        refine r_alen E hW ru2 (by decide) dX3_sumOf_17 (fun n312 h313 => ?_) (by rw [lenOk_n (th_len hW ru2 (by decide)) rfl (by decide)]; decide)
        rw [lenOk_n (th_len hW ru2 (by decide)) rfl (by decide)] at h313
        obtain rfl : (9 : Int32) = n312 := Int32.toInt_inj.mp (Eq.trans (by decide) h313.symm)
        refine q_icmp_ge (Y := 9) (tgt := 48) hx hb dX3_sumOf_18 (by decide) rfl rfl (fun c314 => ?_) (fun c314 => ?_)
        · exfalso; omega
        · refine lv_iload_n hx hb dX3_sumOf_21 rfl (lv_at hl 1 rfl) ?_
          refine lv_iload_n hx hb dX3_sumOf_22 rfl (lv_at hl 3 rfl) ?_
          refine lv_iload hx hb dX3_sumOf_23 (lv_at hl 0 rfl) ?_
          refine x_ishr hx hb dX3_sumOf_25 (fun x315 e316 => ?_)
          refine lv_iconst (v := 1) hx hb dX3_sumOf_26 (by decide) ?_
          refine x_iand hx hb dX3_sumOf_27 (fun x317 e318 => ?_)
          have q319 := bit_1 (by omega) (by omega) e316 e318
          have b320 := bit_01 q319
          refine lv_iconst (v := 1) hx hb dX3_sumOf_28 (by decide) ?_
          refine q_icmp_ne (Y := 1) (tgt := 39) hx hb dX3_sumOf_29 (by decide) rfl rfl (fun c321 => ?_) (fun c321 => ?_)
          · refine lv_iconst (v := 0) hx hb dX3_sumOf_39 (by decide) ?_
            refine x_iadd hx hb dX3_sumOf_40 (fun x322 e323 => ?_)
            refine lv_istore_n (lv' := [(3, .int x322), (4, .int y302), (0, .ref h0), (1, .int u1), (2, .ref u2)]) hx hb dX3_sumOf_41 rfl hl (by decide) rfl (fun ls hl => ?_)
            refine q_iinc hx hb dX3_sumOf_42 hl (k := 1) rfl rfl rfl (by omega) (by decide) (fun i324 ls h325 hl => ?_)
            have hl : lv_has ls 5 [(4, .int i324), (3, .int x322), (0, .ref h0), (1, .int u1), (2, .ref u2)] := hl
            refine lv_goto (tgt := 5) hx hb dX3_sumOf_45 (by decide) ?_
            exact ih5 i324 x322 (by omega) (by omega) (sm_f v306 q319 (by omega) e323 (by omega) (by omega)) (by omega) _ _ _ hW hF (lv_sub hl [0, 1, 2, 3, 4] rfl)
          · refine lv_aload_n hx hb dX3_sumOf_32 rfl (lv_at hl 4 rfl) ?_
            refine lv_iload hx hb dX3_sumOf_33 (lv_at hl 0 rfl) ?_
            refine gl_285 E hW ru2 ⟨by omega, by omega⟩ dX3_sumOf_35 (fun y326 m327 => ?_)
            refine lv_goto (tgt := 40) hx hb dX3_sumOf_36 (by decide) ?_
            refine x_iadd hx hb dX3_sumOf_40 (fun x329 e330 => ?_)
            refine lv_istore_n (lv' := [(3, .int x329), (4, .int y302), (0, .ref h0), (1, .int u1), (2, .ref u2)]) hx hb dX3_sumOf_41 rfl hl (by decide) rfl (fun ls hl => ?_)
            refine q_iinc hx hb dX3_sumOf_42 hl (k := 1) rfl rfl rfl (by omega) (by decide) (fun i331 ls h332 hl => ?_)
            have hl : lv_has ls 5 [(4, .int i331), (3, .int x329), (0, .ref h0), (1, .int u1), (2, .ref u2)] := hl
            refine lv_goto (tgt := 5) hx hb dX3_sumOf_45 (by decide) ?_
            exact ih5 i331 x329 (by omega) (by omega) (sm_t v306 q319 (by omega) m327 e330 (by omega) (by omega)) (by omega) _ _ _ hW hF (lv_sub hl [0, 1, 2, 3, 4] rfl)
  have hk333 : (0 : Int32).toInt = 0 := rfl
  have hk334 : (0 : Int32).toInt = 0 := rfl
  exact L307 10 0 0 (by decide) (by omega) rfl (by omega) _ _ _ hW hF (lv_sub hl [0, 1, 2, 3, 4] rfl)
def ms_J6_bitCount_u : List (Nat × Nat) := []
def po_J6_bitCount_u (kp : Nat → Nat) (L : List Nat) (f0 : Nat → va_E) (u1 : Int32) : Option Value → (Nat → va_E) → Prop := fun v f => (∃ r : Int32, v = some (.int r) ∧ (r = bcnt u1)) ∧ FM kp L ms_J6_bitCount_u f0 f
set_option maxHeartbeats 4000000 in
set_option maxRecDepth 100000 in
theorem c_J6_bitCount_u (l : Launch) (G : va_G) (cI cJ cZ cD cR cT : ClassId) (kp : Nat → Nat) (L : List Nat) (f0 : Nat → va_E) (hTH : TH cI cJ cZ cD cR cT kp L f0) (sz : Nat) (u1 : Int32) : Met l yJ6_bitCount_0f7a4 (Cond.code yJ6_bitCount_0f7a4 cJ6_bitCount_0f7a4 1 (some .int) :: wTab) ({ frames := 1, cells := 0, slots := 0, locals := 40 }) (va_Pc [.int u1] (PreW G (tys6 cI cJ cZ cD cR cT) (va_pl L f0) sz)) (QT (po_J6_bitCount_u kp L f0 u1) G cI cJ cZ cD cR cT (va_A (va_pl L f0) sz) kp L) 0 0 (va_A (va_pl L f0) sz) := by
  refine metT (by decide) (Nat.le_of_ble_eq_true rfl) hTH ?_
  intro p e s m below meth c A ls E hW hl
  obtain ⟨hx, hb, -, hml, hown, hts, -, -, -⟩ := id E
  have hF : FM kp L ms_J6_bitCount_u f0 f0 := FM.rf
  have hl : lv_has ls 1 [(0, .int u1)] := hl
  refine lv_iload_n hx hb dJ6_bitCount_0f7a4_0 rfl (lv_at hl 0 rfl) ?_
  refine lv_iload_n hx hb dJ6_bitCount_0f7a4_1 rfl (lv_at hl 0 rfl) ?_
  refine lv_iconst (v := 1) hx hb dJ6_bitCount_0f7a4_2 (by decide) ?_
  refine x_iushr hx hb dJ6_bitCount_0f7a4_3 (fun x1 e2 => ?_)
  refine lv_ldcw (v := 1431655765) hx hb hown (hts _ tw_1249) dJ6_bitCount_0f7a4_4 ?_
  refine x_iand hx hb dJ6_bitCount_0f7a4_7 (fun x3 e4 => ?_)
  refine x_isub hx hb dJ6_bitCount_0f7a4_8 (fun x5 e6 => ?_)
  refine lv_istore_n (lv' := [(0, .int x5)]) hx hb dJ6_bitCount_0f7a4_9 rfl hl (by decide) rfl (fun ls hl => ?_)
  refine lv_iload_n hx hb dJ6_bitCount_0f7a4_10 rfl (lv_at hl 0 rfl) ?_
  refine lv_ldcw (v := 858993459) hx hb hown (hts _ tw_1250) dJ6_bitCount_0f7a4_11 ?_
  refine x_iand hx hb dJ6_bitCount_0f7a4_14 (fun x7 e8 => ?_)
  refine lv_iload_n hx hb dJ6_bitCount_0f7a4_15 rfl (lv_at hl 0 rfl) ?_
  refine lv_iconst (v := 2) hx hb dJ6_bitCount_0f7a4_16 (by decide) ?_
  refine x_iushr hx hb dJ6_bitCount_0f7a4_17 (fun x9 e10 => ?_)
  refine lv_ldcw (v := 858993459) hx hb hown (hts _ tw_1250) dJ6_bitCount_0f7a4_18 ?_
  refine x_iand hx hb dJ6_bitCount_0f7a4_21 (fun x11 e12 => ?_)
  refine x_iadd hx hb dJ6_bitCount_0f7a4_22 (fun x13 e14 => ?_)
  refine lv_istore_n (lv' := [(0, .int x13)]) hx hb dJ6_bitCount_0f7a4_23 rfl hl (by decide) rfl (fun ls hl => ?_)
  refine lv_iload_n hx hb dJ6_bitCount_0f7a4_24 rfl (lv_at hl 0 rfl) ?_
  refine lv_iload_n hx hb dJ6_bitCount_0f7a4_25 rfl (lv_at hl 0 rfl) ?_
  refine lv_iconst (v := 4) hx hb dJ6_bitCount_0f7a4_26 (by decide) ?_
  refine x_iushr hx hb dJ6_bitCount_0f7a4_27 (fun x15 e16 => ?_)
  refine x_iadd hx hb dJ6_bitCount_0f7a4_28 (fun x17 e18 => ?_)
  refine lv_ldcw (v := 252645135) hx hb hown (hts _ tw_1251) dJ6_bitCount_0f7a4_29 ?_
  refine x_iand hx hb dJ6_bitCount_0f7a4_32 (fun x19 e20 => ?_)
  refine lv_istore_n (lv' := [(0, .int x19)]) hx hb dJ6_bitCount_0f7a4_33 rfl hl (by decide) rfl (fun ls hl => ?_)
  refine lv_iload_n hx hb dJ6_bitCount_0f7a4_34 rfl (lv_at hl 0 rfl) ?_
  refine lv_iload_n hx hb dJ6_bitCount_0f7a4_35 rfl (lv_at hl 0 rfl) ?_
  refine lv_bipush (v := 8) hx hb dJ6_bitCount_0f7a4_36 (by decide) ?_
  refine x_iushr hx hb dJ6_bitCount_0f7a4_38 (fun x21 e22 => ?_)
  refine x_iadd hx hb dJ6_bitCount_0f7a4_39 (fun x23 e24 => ?_)
  refine lv_istore_n (lv' := [(0, .int x23)]) hx hb dJ6_bitCount_0f7a4_40 rfl hl (by decide) rfl (fun ls hl => ?_)
  refine lv_iload_n hx hb dJ6_bitCount_0f7a4_41 rfl (lv_at hl 0 rfl) ?_
  refine lv_iload_n hx hb dJ6_bitCount_0f7a4_42 rfl (lv_at hl 0 rfl) ?_
  refine lv_bipush (v := 16) hx hb dJ6_bitCount_0f7a4_43 (by decide) ?_
  refine x_iushr hx hb dJ6_bitCount_0f7a4_45 (fun x25 e26 => ?_)
  refine x_iadd hx hb dJ6_bitCount_0f7a4_46 (fun x27 e28 => ?_)
  refine lv_istore_n (lv' := [(0, .int x27)]) hx hb dJ6_bitCount_0f7a4_47 rfl hl (by decide) rfl (fun ls hl => ?_)
  refine lv_iload_n hx hb dJ6_bitCount_0f7a4_48 rfl (lv_at hl 0 rfl) ?_
  refine lv_bipush (v := 63) hx hb dJ6_bitCount_0f7a4_49 (by decide) ?_
  refine x_iand hx hb dJ6_bitCount_0f7a4_51 (fun x29 e30 => ?_)
  exact e_I E hW rfl ⟨⟨_, rfl, (by rw [e30, e28, e26, e24, e22, e20, e18, e16, e14, e12, e10, e8, e6, e4, e2]; rfl)⟩, hF⟩ dJ6_bitCount_0f7a4_52
def ms_X3_bestSet_u : List (Nat × Nat) := []
def po_X3_bestSet_u (kp : Nat → Nat) (L : List Nat) (f0 : Nat → va_E) (h0 : Nat) (u1 : Int32) (u2 : Int32) : Option Value → (Nat → va_E) → Prop := fun v f => (∃ r : Int32, v = some (.int r) ∧ (r = fAgree (aI (f0 (oR (f0 h0) 4))) (aI (f0 (oR (f0 h0) 5))) (oI (f0 h0) 3) u1.toInt u2.toInt)) ∧ FM kp L ms_X3_bestSet_u f0 f
set_option maxHeartbeats 4000000 in
set_option maxRecDepth 100000 in
theorem c_X3_bestSet_u (l : Launch) (G : va_G) (cI cJ cZ cD cR cT : ClassId) (kp : Nat → Nat) (L : List Nat) (f0 : Nat → va_E) (hTH : TH cI cJ cZ cD cR cT kp L f0) (sz : Nat) (h0 : Nat) (u1 : Int32) (u2 : Int32) (rh0 : RK kp L h0 3) (pu1 : (-10000 : Int) ≤ u1.toInt ∧ u1.toInt ≤ 10000) (pu2 : (-10000 : Int) ≤ u2.toInt ∧ u2.toInt ≤ 10000) : Met l yX3_bestSet (Cond.code yX3_bestSet cX3_bestSet 9 (some .int) :: wTab) ({ frames := 2, cells := 0, slots := 0, locals := 64 }) (va_Pc [.ref h0, .int u1, .int u2] (PreW G (tys6 cI cJ cZ cD cR cT) (va_pl L f0) sz)) (QT (po_X3_bestSet_u kp L f0 h0 u1 u2) G cI cJ cZ cD cR cT (va_A (va_pl L f0) sz) kp L) 0 0 (va_A (va_pl L f0) sz) := by
  refine metT (by decide) (Nat.le_of_ble_eq_true rfl) hTH ?_
  intro p e s m below meth c A ls E hW hl
  obtain ⟨hx, hb, -, hml, hown, hts, -, -, -⟩ := id E
  have hF : FM kp L ms_X3_bestSet_u f0 f0 := FM.rf
  have hl : lv_has ls 9 [(0, .ref h0), (1, .int u1), (2, .int u2)] := hl
  obtain ⟨N4, mN4⟩ : ∃ x : Nat, oR (f0 h0) 4 = x := ⟨_, rfl⟩
  have rN4 : RK kp L N4 284 := by rw [← mN4]; exact th_ref hTH rh0 (by decide) (by decide) rfl
  obtain ⟨N5, mN5⟩ : ∃ x : Nat, oR (f0 h0) 5 = x := ⟨_, rfl⟩
  have rN5 : RK kp L N5 285 := by rw [← mN5]; exact th_ref hTH rh0 (by decide) (by decide) rfl
  obtain ⟨vc, mvc⟩ : ∃ x : Int32, oI (f0 h0) 3 = x := ⟨_, rfl⟩
  have bvc : (0 : Int) ≤ vc.toInt ∧ vc.toInt ≤ 9 := by rw [← mvc]; exact th_iv hW rh0 (by decide) (by decide) rfl
  obtain ⟨pw, hpw⟩ : ∃ x : Int, ((2 ^ vc.toInt.toNat : Nat) : Int) = x := ⟨_, rfl⟩
  have bpw := pw_b bvc hpw
  refine lv_iconst (v := (-1)) hx hb dX3_bestSet_0 (by decide) ?_
  refine lv_istore_n (lv' := [(3, .int (-1)), (0, .ref h0), (1, .int u1), (2, .int u2)]) hx hb dX3_bestSet_1 rfl hl (by decide) rfl (fun ls hl => ?_)
  refine lv_iconst (v := 0) hx hb dX3_bestSet_2 (by decide) ?_
  refine lv_istore (lv' := [(4, .int 0), (3, .int (-1)), (0, .ref h0), (1, .int u1), (2, .int u2)]) hx hb dX3_bestSet_3 hl (by decide) rfl (fun ls hl => ?_)
  refine lv_iconst (v := 0) hx hb dX3_bestSet_5 (by decide) ?_
  refine lv_istore (lv' := [(5, .int 0), (4, .int 0), (3, .int (-1)), (0, .ref h0), (1, .int u1), (2, .int u2)]) hx hb dX3_bestSet_6 hl (by decide) rfl (fun ls hl => ?_)
  have L4392 : ∀ (n : Nat), ∀ (f4379 : Nat → va_E) (y4383 : Int32) (y4385 : Int32) (y4386 : Int32) (m4380 : oI (f4379 h0) 3 = vc) (m4381 : oR (f4379 h0) 4 = N4) (m4382 : oR (f4379 h0) 5 = N5) (b4384 : (0 : Int) ≤ y4383.toInt ∧ y4383.toInt ≤ 512) (b4387 : (-1 : Int) ≤ y4386.toInt ∧ y4386.toInt ≤ 511) (z4388 : aI (f4379 N4) = aI (f0 N4)) (z4389 : aI (f4379 N5) = aI (f0 N5)) (v4390 : y4383.toInt ≤ pw) (v4391 : (y4386, y4385) = bst (aI (f0 N4)) (aI (f0 N5)) vc.toNatClampNeg u1.toInt u2.toInt y4383.toNatClampNeg) (hm : (513 : Int) - y4383.toInt ≤ n) (H : Heap) (locs : List Loc) (ls : Array Slot), WS G cI cJ cZ cD cR cT A kp L f4379 s H locs → FM kp L ms_X3_bestSet_u f0 f4379 → lv_has ls 9 [(5, .int y4383), (4, .int y4385), (3, .int y4386), (0, .ref h0), (1, .int u1), (2, .int u2)] → W p l e ({ frames := 2, cells := 0, slots := 0, locals := 64 }) s m ([.ref h0, .int u1, .int u2] : List Value).toArray below meth c H locs 0 0 (MQ below (QT (po_X3_bestSet_u kp L f0 h0 u1 u2) G cI cJ cZ cD cR cT A kp L) ([.ref h0, .int u1, .int u2] : List Value).toArray s 0 0 A) (F0 m 8 ls []) := by
    intro n
    induction n with
    | zero =>
      intro f4379 y4383 y4385 y4386 m4380 m4381 m4382 b4384 b4387 z4388 z4389 v4390 v4391 hm H locs ls hW hF hl
      have hz := i32_b y4383
      exfalso; omega
    | succ n ih =>
      intro f4379 y4383 y4385 y4386 m4380 m4381 m4382 b4384 b4387 z4388 z4389 v4390 v4391 hm H locs ls hW hF hl
      have ih8 := ih
      refine lv_iload hx hb dX3_bestSet_8 (lv_at hl 0 rfl) ?_
      refine lv_iconst (v := 1) hx hb dX3_bestSet_10 (by decide) ?_
      refine lv_aload_n hx hb dX3_bestSet_11 rfl (lv_at hl 3 rfl) ?_
      refine fg_RX3_22 E hW rh0 dX3_bestSet_12 (fun y4393 m4394 b4395 => ?_)
      obtain rfl : vc = y4393 := (m4380).symm.trans m4394
      refine x_ishl hx hb dX3_bestSet_15 (fun x4396 e4397 => ?_)
      have q4398 := shl_1 bvc hpw e4397
      refine q_icmp_ge (tgt := 115) hx hb dX3_bestSet_16 (by decide) rfl rfl (fun c4399 => ?_) (fun c4399 => ?_)
      · refine lv_iload_n hx hb dX3_bestSet_115 rfl (lv_at hl 2 rfl) ?_
        exact e_I E hW rfl ⟨⟨_, rfl, (by rw [mN4, mN5, mvc]; exact fAgree_end v4391 hpw (by omega) (by omega))⟩, hF⟩ dX3_bestSet_116
      · refine lv_aload_n hx hb dX3_bestSet_19 rfl (lv_at hl 3 rfl) ?_
        refine lv_iload hx hb dX3_bestSet_20 (lv_at hl 0 rfl) ?_
        refine lv_aload_n hx hb dX3_bestSet_22 rfl (lv_at hl 3 rfl) ?_
        refine fg_RX3_15 E hW rh0 dX3_bestSet_23 (fun a4400 m4401 r4402 => ?_)
        obtain rfl : N4 = a4400 := (m4381).symm.trans m4401
        refine t_callV (As := [.int y4383, .ref N4]) (rest := []) E hW (c_X3_sumOf_l_u l G cI cJ cZ cD cR cT kp L f4379 hW.2.2.2 _ h0 y4383 N4 rh0 rN4 (by omega)) rh0 (by decide) rfl wk_X3_sumOf tw_1242 rfl ⟨Nat.le_of_ble_eq_true rfl, Nat.le_of_ble_eq_true rfl⟩ ⟨rfl, rfl⟩ hl.1 rfl (Nat.le_of_ble_eq_true rfl) dX3_bestSet_26 ⟨Nat.le_of_ble_eq_true rfl, Nat.le_of_ble_eq_true rfl⟩ (fun v4403 f4404 H locs q4405 hW => ?_)
        obtain ⟨⟨x4407, rfl, p4408⟩, g4406⟩ := q4405
        rw [z4388, m4394] at p4408
        have hF := FM.tr hF g4406 rfl
        refine lv_istore (lv' := [(6, .int x4407), (5, .int y4383), (4, .int y4385), (3, .int y4386), (0, .ref h0), (1, .int u1), (2, .int u2)]) hx hb dX3_bestSet_29 hl (by decide) rfl (fun ls hl => ?_)
        refine lv_aload_n hx hb dX3_bestSet_31 rfl (lv_at hl 4 rfl) ?_
        refine lv_iload hx hb dX3_bestSet_32 (lv_at hl 1 rfl) ?_
        refine lv_aload_n hx hb dX3_bestSet_34 rfl (lv_at hl 4 rfl) ?_
        refine fg_RX3_19 E hW rh0 dX3_bestSet_35 (fun a4409 m4410 r4411 => ?_)
        obtain rfl : N5 = a4409 := (((fm_R g4406 rh0 rfl).trans m4382)).symm.trans m4410
        refine t_callV (As := [.int y4383, .ref N5]) (rest := []) E hW (c_X3_sumOf_o_u l G cI cJ cZ cD cR cT kp L f4404 hW.2.2.2 _ h0 y4383 N5 rh0 rN5 (by omega)) rh0 (by decide) rfl wk_X3_sumOf tw_1242 rfl ⟨Nat.le_of_ble_eq_true rfl, Nat.le_of_ble_eq_true rfl⟩ ⟨rfl, rfl⟩ hl.1 rfl (Nat.le_of_ble_eq_true rfl) dX3_bestSet_38 ⟨Nat.le_of_ble_eq_true rfl, Nat.le_of_ble_eq_true rfl⟩ (fun v4412 f4413 H locs q4414 hW => ?_)
        obtain ⟨⟨x4416, rfl, p4417⟩, g4415⟩ := q4414
        rw [((congrArg aI (fm_A g4406 rN5 (by decide) rfl)).trans z4389), ((fm_I g4406 rh0 rfl).trans m4394)] at p4417
        have hF := FM.tr hF g4415 rfl
        refine lv_istore (lv' := [(7, .int x4416), (6, .int x4407), (5, .int y4383), (4, .int y4385), (3, .int y4386), (0, .ref h0), (1, .int u1), (2, .int u2)]) hx hb dX3_bestSet_41 hl (by decide) rfl (fun ls hl => ?_)
        refine lv_iload hx hb dX3_bestSet_43 (lv_at hl 1 rfl) ?_
        refine lv_iload_n hx hb dX3_bestSet_45 rfl (lv_at hl 6 rfl) ?_
        refine q_icmp_lt (tgt := 109) hx hb dX3_bestSet_46 (by decide) rfl rfl (fun c4418 => ?_) (fun c4418 => ?_)
        · refine q_iinc hx hb dX3_bestSet_109 hl (k := 2) rfl rfl rfl (by omega) (by decide) (fun i4419 ls h4420 hl => ?_)
          have hl : lv_has ls 9 [(5, .int i4419), (7, .int x4416), (6, .int x4407), (4, .int y4385), (3, .int y4386), (0, .ref h0), (1, .int u1), (2, .int u2)] := hl
          refine lv_goto (tgt := 8) hx hb dX3_bestSet_112 (by decide) ?_
          exact ih8 f4413 i4419 y4385 y4386 ((fm_I g4415 rh0 rfl).trans ((fm_I g4406 rh0 rfl).trans m4394)) ((fm_R g4415 rh0 rfl).trans ((fm_R g4406 rh0 rfl).trans m4401)) ((fm_R g4415 rh0 rfl).trans m4410) (by omega) (by omega) ((congrArg aI (fm_A g4415 rN4 (by decide) rfl)).trans ((congrArg aI (fm_A g4406 rN4 (by decide) rfl)).trans z4388)) ((congrArg aI (fm_A g4415 rN5 (by decide) rfl)).trans ((congrArg aI (fm_A g4406 rN5 (by decide) rfl)).trans z4389)) (by omega) (bs_next v4391 (by omega) (by omega) p4408 p4417 rfl (by first | exact (if_pos (by omega)).symm | exact ((if_neg (by omega)).trans (if_neg (by omega))).symm)) (by omega) _ _ _ hW hF (lv_sub hl [0, 3, 4, 5, 6, 7] rfl)
        · refine lv_iload hx hb dX3_bestSet_49 (lv_at hl 0 rfl) ?_
          refine lv_iload_n hx hb dX3_bestSet_51 rfl (lv_at hl 7 rfl) ?_
          refine q_icmp_ge (tgt := 58) hx hb dX3_bestSet_52 (by decide) rfl rfl (fun c4421 => ?_) (fun c4421 => ?_)
          · refine lv_iload_n hx hb dX3_bestSet_58 rfl (lv_at hl 4 rfl) ?_
            refine lv_iconst (v := (-1)) hx hb dX3_bestSet_59 (by decide) ?_
            refine q_icmp_ne (Y := -1) (tgt := 67) hx hb dX3_bestSet_60 (by decide) rfl rfl (fun c4422 => ?_) (fun c4422 => ?_)
            · refine lv_iload_n hx hb dX3_bestSet_67 rfl (lv_at hl 4 rfl) ?_
              refine t_callS (As := [.int y4386]) (rest := []) E hW (c_J6_bitCount_u l G cI cJ cZ cD cR cT kp L f4413 hW.2.2.2 _ y4386) wk_J6_bitCount_0f7a4 tw_1246 rfl ⟨Nat.le_of_ble_eq_true rfl, Nat.le_of_ble_eq_true rfl⟩ ⟨rfl, rfl⟩ hl.1 rfl (Nat.le_of_ble_eq_true rfl) dX3_bestSet_68 ⟨Nat.le_of_ble_eq_true rfl, Nat.le_of_ble_eq_true rfl⟩ (fun v4423 f4424 H locs q4425 hW => ?_)
              obtain ⟨⟨x4427, rfl, p4428⟩, g4426⟩ := q4425
              have q4429 := cnt_1 (by omega) p4428
              have hF := FM.tr hF g4426 rfl
              refine lv_iload hx hb dX3_bestSet_71 (lv_at hl 2 rfl) ?_
              refine t_callS (As := [.int y4383]) (rest := [.int x4427]) E hW (c_J6_bitCount_u l G cI cJ cZ cD cR cT kp L f4424 hW.2.2.2 _ y4383) wk_J6_bitCount_0f7a4 tw_1246 rfl ⟨Nat.le_of_ble_eq_true rfl, Nat.le_of_ble_eq_true rfl⟩ ⟨rfl, rfl⟩ hl.1 rfl (Nat.le_of_ble_eq_true rfl) dX3_bestSet_73 ⟨Nat.le_of_ble_eq_true rfl, Nat.le_of_ble_eq_true rfl⟩ (fun v4430 f4431 H locs q4432 hW => ?_)
              obtain ⟨⟨x4434, rfl, p4435⟩, g4433⟩ := q4432
              have q4436 := cnt_1 (by omega) p4435
              have m4437 : aI (f4431 N4) = aI (f0 N4) := ((congrArg aI (fm_A g4433 rN4 (by decide) rfl)).trans ((congrArg aI (fm_A g4426 rN4 (by decide) rfl)).trans ((congrArg aI (fm_A g4415 rN4 (by decide) rfl)).trans ((congrArg aI (fm_A g4406 rN4 (by decide) rfl)).trans z4388))))
              have m4438 : aI (f4431 N5) = aI (f0 N5) := ((congrArg aI (fm_A g4433 rN5 (by decide) rfl)).trans ((congrArg aI (fm_A g4426 rN5 (by decide) rfl)).trans ((congrArg aI (fm_A g4415 rN5 (by decide) rfl)).trans ((congrArg aI (fm_A g4406 rN5 (by decide) rfl)).trans z4389))))
              have hF := FM.tr hF g4433 rfl
              refine q_isub hx hb dX3_bestSet_76 rfl rfl (by omega) (fun x4439 h4440 => ?_)
              refine lv_istore (lv' := [(8, .int x4439), (7, .int x4416), (6, .int x4407), (5, .int y4383), (4, .int y4385), (3, .int y4386), (0, .ref h0), (1, .int u1), (2, .int u2)]) hx hb dX3_bestSet_77 hl (by decide) rfl (fun ls hl => ?_)
              refine lv_iload hx hb dX3_bestSet_79 (lv_at hl 0 rfl) ?_
              refine q_if_gt (tgt := 99) hx hb dX3_bestSet_81 (by decide) rfl (fun c4441 => ?_) (fun c4441 => ?_)
              · refine lv_iload hx hb dX3_bestSet_99 (lv_at hl 3 rfl) ?_
                refine lv_istore_n (lv' := [(3, .int y4383), (8, .int x4439), (7, .int x4416), (6, .int x4407), (5, .int y4383), (4, .int y4385), (0, .ref h0), (1, .int u1), (2, .int u2)]) hx hb dX3_bestSet_101 rfl hl (by decide) rfl (fun ls hl => ?_)
                refine lv_iload hx hb dX3_bestSet_102 (lv_at hl 3 rfl) ?_
                refine lv_iload hx hb dX3_bestSet_104 (lv_at hl 2 rfl) ?_
                refine x_iadd hx hb dX3_bestSet_106 (fun x4442 e4443 => ?_)
                refine lv_istore (lv' := [(4, .int x4442), (3, .int y4383), (8, .int x4439), (7, .int x4416), (6, .int x4407), (5, .int y4383), (0, .ref h0), (1, .int u1), (2, .int u2)]) hx hb dX3_bestSet_107 hl (by decide) rfl (fun ls hl => ?_)
                refine q_iinc hx hb dX3_bestSet_109 hl (k := 5) rfl rfl rfl (by omega) (by decide) (fun i4444 ls h4445 hl => ?_)
                have hl : lv_has ls 9 [(5, .int i4444), (4, .int x4442), (3, .int y4383), (8, .int x4439), (7, .int x4416), (6, .int x4407), (0, .ref h0), (1, .int u1), (2, .int u2)] := hl
                refine lv_goto (tgt := 8) hx hb dX3_bestSet_112 (by decide) ?_
                exact ih8 f4431 i4444 x4442 y4383 ((fm_I g4433 rh0 rfl).trans ((fm_I g4426 rh0 rfl).trans ((fm_I g4415 rh0 rfl).trans ((fm_I g4406 rh0 rfl).trans m4394)))) ((fm_R g4433 rh0 rfl).trans ((fm_R g4426 rh0 rfl).trans ((fm_R g4415 rh0 rfl).trans ((fm_R g4406 rh0 rfl).trans m4401)))) ((fm_R g4433 rh0 rfl).trans ((fm_R g4426 rh0 rfl).trans ((fm_R g4415 rh0 rfl).trans m4410))) (by omega) (by omega) m4437 m4438 (by omega) (bs_next v4391 (by omega) (by omega) p4408 p4417 e4443 ((if_neg (by omega)).trans (if_pos (by omega))).symm) (by omega) _ _ _ hW hF (lv_sub hl [0, 1, 2, 6, 7, 8] rfl)
              · refine lv_iload hx hb dX3_bestSet_84 (lv_at hl 0 rfl) ?_
                refine q_if_ne (tgt := 109) hx hb dX3_bestSet_86 (by decide) rfl (fun c4446 => ?_) (fun c4446 => ?_)
                · refine q_iinc hx hb dX3_bestSet_109 hl (k := 3) rfl rfl rfl (by omega) (by decide) (fun i4447 ls h4448 hl => ?_)
                  have hl : lv_has ls 9 [(5, .int i4447), (8, .int x4439), (7, .int x4416), (6, .int x4407), (4, .int y4385), (3, .int y4386), (0, .ref h0), (1, .int u1), (2, .int u2)] := hl
                  refine lv_goto (tgt := 8) hx hb dX3_bestSet_112 (by decide) ?_
                  exact ih8 f4431 i4447 y4385 y4386 ((fm_I g4433 rh0 rfl).trans ((fm_I g4426 rh0 rfl).trans ((fm_I g4415 rh0 rfl).trans ((fm_I g4406 rh0 rfl).trans m4394)))) ((fm_R g4433 rh0 rfl).trans ((fm_R g4426 rh0 rfl).trans ((fm_R g4415 rh0 rfl).trans ((fm_R g4406 rh0 rfl).trans m4401)))) ((fm_R g4433 rh0 rfl).trans ((fm_R g4426 rh0 rfl).trans ((fm_R g4415 rh0 rfl).trans m4410))) (by omega) (by omega) m4437 m4438 (by omega) (bs_next v4391 (by omega) (by omega) p4408 p4417 rfl (by first | exact (if_pos (by omega)).symm | exact ((if_neg (by omega)).trans (if_neg (by omega))).symm)) (by omega) _ _ _ hW hF (lv_sub hl [0, 4, 5, 6, 7, 8] rfl)
                · refine lv_iload hx hb dX3_bestSet_89 (lv_at hl 2 rfl) ?_
                  refine lv_iload hx hb dX3_bestSet_91 (lv_at hl 1 rfl) ?_
                  refine x_iadd hx hb dX3_bestSet_93 (fun x4449 e4450 => ?_)
                  refine lv_iload hx hb dX3_bestSet_94 (lv_at hl 4 rfl) ?_
                  refine q_icmp_le (tgt := 109) hx hb dX3_bestSet_96 (by decide) rfl rfl (fun c4451 => ?_) (fun c4451 => ?_)
                  · refine q_iinc hx hb dX3_bestSet_109 hl (k := 3) rfl rfl rfl (by omega) (by decide) (fun i4452 ls h4453 hl => ?_)
                    have hl : lv_has ls 9 [(5, .int i4452), (8, .int x4439), (7, .int x4416), (6, .int x4407), (4, .int y4385), (3, .int y4386), (0, .ref h0), (1, .int u1), (2, .int u2)] := hl
                    refine lv_goto (tgt := 8) hx hb dX3_bestSet_112 (by decide) ?_
                    exact ih8 f4431 i4452 y4385 y4386 ((fm_I g4433 rh0 rfl).trans ((fm_I g4426 rh0 rfl).trans ((fm_I g4415 rh0 rfl).trans ((fm_I g4406 rh0 rfl).trans m4394)))) ((fm_R g4433 rh0 rfl).trans ((fm_R g4426 rh0 rfl).trans ((fm_R g4415 rh0 rfl).trans ((fm_R g4406 rh0 rfl).trans m4401)))) ((fm_R g4433 rh0 rfl).trans ((fm_R g4426 rh0 rfl).trans ((fm_R g4415 rh0 rfl).trans m4410))) (by omega) (by omega) m4437 m4438 (by omega) (bs_next v4391 (by omega) (by omega) p4408 p4417 e4450 (by first | exact (if_pos (by omega)).symm | exact ((if_neg (by omega)).trans (if_neg (by omega))).symm)) (by omega) _ _ _ hW hF (lv_sub hl [0, 4, 5, 6, 7, 8] rfl)
                  · have hb4454 : y4385.toInt ≤ 2147483646 := by have := i32_b x4449; omega
                    have hb4455 : -2147483647 ≤ x4449.toInt := by have := i32_b y4385; omega
                    refine lv_iload hx hb dX3_bestSet_99 (lv_at hl 3 rfl) ?_
                    refine lv_istore_n (lv' := [(3, .int y4383), (8, .int x4439), (7, .int x4416), (6, .int x4407), (5, .int y4383), (4, .int y4385), (0, .ref h0), (1, .int u1), (2, .int u2)]) hx hb dX3_bestSet_101 rfl hl (by decide) rfl (fun ls hl => ?_)
                    refine lv_iload hx hb dX3_bestSet_102 (lv_at hl 3 rfl) ?_
                    refine lv_iload hx hb dX3_bestSet_104 (lv_at hl 2 rfl) ?_
                    refine x_iadd hx hb dX3_bestSet_106 (fun x4456 e4457 => ?_)
                    refine lv_istore (lv' := [(4, .int x4456), (3, .int y4383), (8, .int x4439), (7, .int x4416), (6, .int x4407), (5, .int y4383), (0, .ref h0), (1, .int u1), (2, .int u2)]) hx hb dX3_bestSet_107 hl (by decide) rfl (fun ls hl => ?_)
                    refine q_iinc hx hb dX3_bestSet_109 hl (k := 5) rfl rfl rfl (by omega) (by decide) (fun i4458 ls h4459 hl => ?_)
                    have hl : lv_has ls 9 [(5, .int i4458), (4, .int x4456), (3, .int y4383), (8, .int x4439), (7, .int x4416), (6, .int x4407), (0, .ref h0), (1, .int u1), (2, .int u2)] := hl
                    refine lv_goto (tgt := 8) hx hb dX3_bestSet_112 (by decide) ?_
                    have h4460 : x4449.toInt = x4456.toInt := congrArg Int32.toInt (e4450.trans e4457.symm)
                    exact ih8 f4431 i4458 x4456 y4383 ((fm_I g4433 rh0 rfl).trans ((fm_I g4426 rh0 rfl).trans ((fm_I g4415 rh0 rfl).trans ((fm_I g4406 rh0 rfl).trans m4394)))) ((fm_R g4433 rh0 rfl).trans ((fm_R g4426 rh0 rfl).trans ((fm_R g4415 rh0 rfl).trans ((fm_R g4406 rh0 rfl).trans m4401)))) ((fm_R g4433 rh0 rfl).trans ((fm_R g4426 rh0 rfl).trans ((fm_R g4415 rh0 rfl).trans m4410))) (by omega) (by omega) m4437 m4438 (by omega) (bs_next v4391 (by omega) (by omega) p4408 p4417 e4457 ((if_neg (by omega)).trans (if_pos (by omega))).symm) (by omega) _ _ _ hW hF (lv_sub hl [0, 1, 2, 6, 7, 8] rfl)
            · refine lv_iconst (v := 1) hx hb dX3_bestSet_63 (by decide) ?_
              refine lv_goto (tgt := 77) hx hb dX3_bestSet_64 (by decide) ?_
              refine lv_istore (lv' := [(8, .int 1), (7, .int x4416), (6, .int x4407), (5, .int y4383), (4, .int y4385), (3, .int y4386), (0, .ref h0), (1, .int u1), (2, .int u2)]) hx hb dX3_bestSet_77 hl (by decide) rfl (fun ls hl => ?_)
              refine lv_iload hx hb dX3_bestSet_79 (lv_at hl 0 rfl) ?_
              refine q_if_gt (X := 1) (tgt := 99) hx hb dX3_bestSet_81 (by decide) rfl (fun _ => ?_) (fun c => absurd c (by decide))
              refine lv_iload hx hb dX3_bestSet_99 (lv_at hl 3 rfl) ?_
              refine lv_istore_n (lv' := [(3, .int y4383), (8, .int 1), (7, .int x4416), (6, .int x4407), (5, .int y4383), (4, .int y4385), (0, .ref h0), (1, .int u1), (2, .int u2)]) hx hb dX3_bestSet_101 rfl hl (by decide) rfl (fun ls hl => ?_)
              refine lv_iload hx hb dX3_bestSet_102 (lv_at hl 3 rfl) ?_
              refine lv_iload hx hb dX3_bestSet_104 (lv_at hl 2 rfl) ?_
              refine x_iadd hx hb dX3_bestSet_106 (fun x4461 e4462 => ?_)
              refine lv_istore (lv' := [(4, .int x4461), (3, .int y4383), (8, .int 1), (7, .int x4416), (6, .int x4407), (5, .int y4383), (0, .ref h0), (1, .int u1), (2, .int u2)]) hx hb dX3_bestSet_107 hl (by decide) rfl (fun ls hl => ?_)
              refine q_iinc hx hb dX3_bestSet_109 hl (k := 5) rfl rfl rfl (by omega) (by decide) (fun i4463 ls h4464 hl => ?_)
              have hl : lv_has ls 9 [(5, .int i4463), (4, .int x4461), (3, .int y4383), (8, .int 1), (7, .int x4416), (6, .int x4407), (0, .ref h0), (1, .int u1), (2, .int u2)] := hl
              refine lv_goto (tgt := 8) hx hb dX3_bestSet_112 (by decide) ?_
              exact ih8 f4413 i4463 x4461 y4383 ((fm_I g4415 rh0 rfl).trans ((fm_I g4406 rh0 rfl).trans m4394)) ((fm_R g4415 rh0 rfl).trans ((fm_R g4406 rh0 rfl).trans m4401)) ((fm_R g4415 rh0 rfl).trans m4410) (by omega) (by omega) ((congrArg aI (fm_A g4415 rN4 (by decide) rfl)).trans ((congrArg aI (fm_A g4406 rN4 (by decide) rfl)).trans z4388)) ((congrArg aI (fm_A g4415 rN5 (by decide) rfl)).trans ((congrArg aI (fm_A g4406 rN5 (by decide) rfl)).trans z4389)) (by omega) (bs_next v4391 (by omega) (by omega) p4408 p4417 e4462 ((if_neg (by omega)).trans (if_pos (by omega))).symm) (by omega) _ _ _ hW hF (lv_sub hl [0, 1, 2, 6, 7, 8] rfl)
          · refine lv_goto (tgt := 109) hx hb dX3_bestSet_55 (by decide) ?_
            refine q_iinc hx hb dX3_bestSet_109 hl (k := 2) rfl rfl rfl (by omega) (by decide) (fun i4465 ls h4466 hl => ?_)
            have hl : lv_has ls 9 [(5, .int i4465), (7, .int x4416), (6, .int x4407), (4, .int y4385), (3, .int y4386), (0, .ref h0), (1, .int u1), (2, .int u2)] := hl
            refine lv_goto (tgt := 8) hx hb dX3_bestSet_112 (by decide) ?_
            exact ih8 f4413 i4465 y4385 y4386 ((fm_I g4415 rh0 rfl).trans ((fm_I g4406 rh0 rfl).trans m4394)) ((fm_R g4415 rh0 rfl).trans ((fm_R g4406 rh0 rfl).trans m4401)) ((fm_R g4415 rh0 rfl).trans m4410) (by omega) (by omega) ((congrArg aI (fm_A g4415 rN4 (by decide) rfl)).trans ((congrArg aI (fm_A g4406 rN4 (by decide) rfl)).trans z4388)) ((congrArg aI (fm_A g4415 rN5 (by decide) rfl)).trans ((congrArg aI (fm_A g4406 rN5 (by decide) rfl)).trans z4389)) (by omega) (bs_next v4391 (by omega) (by omega) p4408 p4417 rfl (by first | exact (if_pos (by omega)).symm | exact ((if_neg (by omega)).trans (if_neg (by omega))).symm)) (by omega) _ _ _ hW hF (lv_sub hl [0, 3, 4, 5, 6, 7] rfl)
  have hk4467 : (0 : Int32).toInt = 0 := rfl
  have hk4468 : (0 : Int32).toInt = 0 := rfl
  have hk4469 : ((-1) : Int32).toInt = -1 := rfl
  exact L4392 513 f0 0 0 (-1) mvc mN4 mN5 (by decide) (by decide) (rfl : aI (f0 N4) = aI (f0 N4)) (rfl : aI (f0 N5) = aI (f0 N5)) (by omega) rfl (by omega) _ _ _ hW hF (lv_sub hl [0, 1, 2, 3, 4, 5] rfl)
def ms_X11_agree_u : List (Nat × Nat) := []
def po_X11_agree_u (kp : Nat → Nat) (L : List Nat) (f0 : Nat → va_E) (h0 : Nat) (u1 : Int32) (u2 : Int32) : Option Value → (Nat → va_E) → Prop := fun v f => (∃ r : Int32, v = some (.int r) ∧ (r = gAgree (aI (f0 (oR (f0 (oR (f0 (oR (f0 h0) 0)) 5)) 4))) (aI (f0 (oR (f0 (oR (f0 (oR (f0 h0) 0)) 5)) 5))) (oI (f0 (oR (f0 (oR (f0 h0) 0)) 5)) 3) u1.toInt u2.toInt)) ∧ FM kp L ms_X11_agree_u f0 f
set_option maxHeartbeats 4000000 in
set_option maxRecDepth 100000 in
theorem c_X11_agree_u (l : Launch) (G : va_G) (cI cJ cZ cD cR cT : ClassId) (kp : Nat → Nat) (L : List Nat) (f0 : Nat → va_E) (hTH : TH cI cJ cZ cD cR cT kp L f0) (sz : Nat) (h0 : Nat) (u1 : Int32) (u2 : Int32) (rh0 : RK kp L h0 11) : Met l yX11_agree (Cond.code yX11_agree cX11_agree 3 (some .int) :: wTab) ({ frames := 3, cells := 0, slots := 0, locals := 92 }) (va_Pc [.ref h0, .int u1, .int u2] (PreW G (tys6 cI cJ cZ cD cR cT) (va_pl L f0) sz)) (QT (po_X11_agree_u kp L f0 h0 u1 u2) G cI cJ cZ cD cR cT (va_A (va_pl L f0) sz) kp L) 0 0 (va_A (va_pl L f0) sz) := by
  refine metT (by decide) (Nat.le_of_ble_eq_true rfl) hTH ?_
  intro p e s m below meth c A ls E hW hl
  obtain ⟨hx, hb, -, hml, hown, hts, -, -, -⟩ := id E
  have hF : FM kp L ms_X11_agree_u f0 f0 := FM.rf
  have hl : lv_has ls 3 [(0, .ref h0), (1, .int u1), (2, .int u2)] := hl
  obtain ⟨N0, mN0⟩ : ∃ x : Nat, oR (f0 h0) 0 = x := ⟨_, rfl⟩
  have rN0 : RK kp L N0 0 := by rw [← mN0]; exact th_ref hTH rh0 (by decide) (by decide) rfl
  obtain ⟨N05, mN05⟩ : ∃ x : Nat, oR (f0 N0) 5 = x := ⟨_, rfl⟩
  have rN05 : RK kp L N05 3 := by rw [← mN05]; exact th_ref hTH rN0 (by decide) (by decide) rfl
  obtain ⟨N054, mN054⟩ : ∃ x : Nat, oR (f0 N05) 4 = x := ⟨_, rfl⟩
  have rN054 : RK kp L N054 284 := by rw [← mN054]; exact th_ref hTH rN05 (by decide) (by decide) rfl
  obtain ⟨N055, mN055⟩ : ∃ x : Nat, oR (f0 N05) 5 = x := ⟨_, rfl⟩
  have rN055 : RK kp L N055 285 := by rw [← mN055]; exact th_ref hTH rN05 (by decide) (by decide) rfl
  obtain ⟨vc, mvc⟩ : ∃ x : Int32, oI (f0 N05) 3 = x := ⟨_, rfl⟩
  have bvc : (0 : Int) ≤ vc.toInt ∧ vc.toInt ≤ 9 := by rw [← mvc]; exact th_iv hW rN05 (by decide) (by decide) rfl
  refine lv_iload_n hx hb dX11_agree_0 rfl (lv_at hl 1 rfl) ?_
  refine lv_sipush (v := (-10000)) hx hb dX11_agree_1 (by decide) ?_
  refine lv_sipush (v := 10000) hx hb dX11_agree_4 (by decide) ?_
  refine t_callS (As := [.int u1, .int (-10000), .int 10000]) (rest := []) E hW (c_X11_within l G cI cJ cZ cD cR cT kp L f0 hW.2.2.2 _ u1 (-10000) 10000 (by decide)) wk_X11_within tw_599 rfl ⟨Nat.le_of_ble_eq_true rfl, Nat.le_of_ble_eq_true rfl⟩ ⟨rfl, rfl⟩ hl.1 rfl (Nat.le_of_ble_eq_true rfl) dX11_agree_7 ⟨Nat.le_of_ble_eq_true rfl, Nat.le_of_ble_eq_true rfl⟩ (fun v1 f2 H locs q3 hW => ?_)
  obtain ⟨⟨x5, rfl, p6⟩, g4⟩ := q3
  have p6 : (x5.toInt = 1 ∧ (-10000 : Int) ≤ u1.toInt ∧ u1.toInt ≤ (10000 : Int)) ∨ (x5.toInt = 0 ∧ (u1.toInt < (-10000 : Int) ∨ (10000 : Int) < u1.toInt)) := p6
  have hF := FM.tr hF g4 rfl
  refine q_if_eq (tgt := 26) hx hb dX11_agree_10 (by decide) rfl (fun c7 => ?_) (fun c7 => ?_)
  · have q8 : (u1.toInt < (-10000 : Int) ∨ (10000 : Int) < u1.toInt) := by omega
    clear p6
    refine lv_iconst (v := (-1)) hx hb dX11_agree_26 (by decide) ?_
    exact e_I E hW rfl ⟨⟨_, rfl, (by rw [mN0, mN05, mN054, mN055, mvc]; exact gAgree_0 (by omega))⟩, hF⟩ dX11_agree_27
  · have q9 : (-10000 : Int) ≤ u1.toInt ∧ u1.toInt ≤ (10000 : Int) := by omega
    clear p6
    refine lv_iload_n hx hb dX11_agree_13 rfl (lv_at hl 2 rfl) ?_
    refine lv_sipush (v := (-10000)) hx hb dX11_agree_14 (by decide) ?_
    refine lv_sipush (v := 10000) hx hb dX11_agree_17 (by decide) ?_
    refine t_callS (As := [.int u2, .int (-10000), .int 10000]) (rest := []) E hW (c_X11_within l G cI cJ cZ cD cR cT kp L f2 hW.2.2.2 _ u2 (-10000) 10000 (by decide)) wk_X11_within tw_599 rfl ⟨Nat.le_of_ble_eq_true rfl, Nat.le_of_ble_eq_true rfl⟩ ⟨rfl, rfl⟩ hl.1 rfl (Nat.le_of_ble_eq_true rfl) dX11_agree_20 ⟨Nat.le_of_ble_eq_true rfl, Nat.le_of_ble_eq_true rfl⟩ (fun v10 f11 H locs q12 hW => ?_)
    obtain ⟨⟨x14, rfl, p15⟩, g13⟩ := q12
    have p15 : (x14.toInt = 1 ∧ (-10000 : Int) ≤ u2.toInt ∧ u2.toInt ≤ (10000 : Int)) ∨ (x14.toInt = 0 ∧ (u2.toInt < (-10000 : Int) ∨ (10000 : Int) < u2.toInt)) := p15
    have hF := FM.tr hF g13 rfl
    refine q_if_ne (tgt := 28) hx hb dX11_agree_23 (by decide) rfl (fun c16 => ?_) (fun c16 => ?_)
    · have q17 : (-10000 : Int) ≤ u2.toInt ∧ u2.toInt ≤ (10000 : Int) := by omega
      clear p15
      refine lv_aload_n hx hb dX11_agree_28 rfl (lv_at hl 0 rfl) ?_
      refine fg_RX11_12 E hW rh0 dX11_agree_29 (fun a18 m19 r20 => ?_)
      obtain rfl : N0 = a18 := (((fm_R g13 rh0 rfl).trans ((fm_R g4 rh0 rfl).trans mN0))).symm.trans m19
      refine fg_RX11_98 E hW rN0 dX11_agree_32 (fun a21 m22 r23 => ?_)
      obtain rfl : N05 = a21 := (((fm_R g13 rN0 rfl).trans ((fm_R g4 rN0 rfl).trans mN05))).symm.trans m22
      refine lv_iload_n hx hb dX11_agree_35 rfl (lv_at hl 1 rfl) ?_
      refine lv_iload_n hx hb dX11_agree_36 rfl (lv_at hl 2 rfl) ?_
      refine t_callV (As := [.int u1, .int u2]) (rest := []) E hW (c_X3_bestSet_u l G cI cJ cZ cD cR cT kp L f11 hW.2.2.2 _ N05 u1 u2 rN05 (by omega) (by omega)) rN05 (by decide) rfl wk_X3_bestSet tw_1238 rfl ⟨Nat.le_of_ble_eq_true rfl, Nat.le_of_ble_eq_true rfl⟩ ⟨rfl, rfl⟩ hl.1 rfl (Nat.le_of_ble_eq_true rfl) dX11_agree_37 ⟨Nat.le_of_ble_eq_true rfl, Nat.le_of_ble_eq_true rfl⟩ (fun v24 f25 H locs q26 hW => ?_)
      obtain ⟨⟨x28, rfl, p29⟩, g27⟩ := q26
      rw [((fm_R g13 rN05 rfl).trans ((fm_R g4 rN05 rfl).trans mN054)), ((fm_R g13 rN05 rfl).trans ((fm_R g4 rN05 rfl).trans mN055)), ((congrArg aI (fm_A g13 rN054 (by decide) rfl)).trans ((congrArg aI (fm_A g4 rN054 (by decide) rfl)).trans (rfl : aI (f0 N054) = aI (f0 N054)))), ((congrArg aI (fm_A g13 rN055 (by decide) rfl)).trans ((congrArg aI (fm_A g4 rN055 (by decide) rfl)).trans (rfl : aI (f0 N055) = aI (f0 N055)))), ((fm_I g13 rN05 rfl).trans ((fm_I g4 rN05 rfl).trans mvc))] at p29
      have m30 : aI (f25 N054) = aI (f0 N054) := ((congrArg aI (fm_A g27 rN054 (by decide) rfl)).trans ((congrArg aI (fm_A g13 rN054 (by decide) rfl)).trans ((congrArg aI (fm_A g4 rN054 (by decide) rfl)).trans (rfl : aI (f0 N054) = aI (f0 N054)))))
      have m31 : aI (f25 N055) = aI (f0 N055) := ((congrArg aI (fm_A g27 rN055 (by decide) rfl)).trans ((congrArg aI (fm_A g13 rN055 (by decide) rfl)).trans ((congrArg aI (fm_A g4 rN055 (by decide) rfl)).trans (rfl : aI (f0 N055) = aI (f0 N055)))))
      have hF := FM.tr hF g27 rfl
      exact e_I E hW rfl ⟨⟨_, rfl, (by rw [mN0, mN05, mN054, mN055, mvc]; exact gAgree_1 (by omega) p29)⟩, hF⟩ dX11_agree_40
    · have q32 : (u2.toInt < (-10000 : Int) ∨ (10000 : Int) < u2.toInt) := by omega
      clear p15
      refine lv_iconst (v := (-1)) hx hb dX11_agree_26 (by decide) ?_
      exact e_I E hW rfl ⟨⟨_, rfl, (by rw [mN0, mN05, mN054, mN055, mvc]; exact gAgree_0 (by omega))⟩, hF⟩ dX11_agree_27
def ms_X12_agree_u : List (Nat × Nat) := [(12, 0)]
def po_X12_agree_u (kp : Nat → Nat) (L : List Nat) (f0 : Nat → va_E) (h0 : Nat) (u1 : Int32) (u2 : Int32) : Option Value → (Nat → va_E) → Prop := fun v f => (∃ r : Int32, v = some (.int r) ∧ (r = gAgree (fun j : Nat => aI (f0 (oR (f0 h0) 2)) (1164 + 2 * j)) (fun j : Nat => aI (f0 (oR (f0 h0) 2)) (1165 + 2 * j)) (aI (f0 (oR (f0 h0) 2)) (6 : Int32).toNatClampNeg) u1.toInt u2.toInt)) ∧ FM kp L ms_X12_agree_u f0 f
set_option maxHeartbeats 4000000 in
set_option maxRecDepth 100000 in
theorem c_X12_agree_u (l : Launch) (G : va_G) (cI cJ cZ cD cR cT : ClassId) (kp : Nat → Nat) (L : List Nat) (f0 : Nat → va_E) (hTH : TH cI cJ cZ cD cR cT kp L f0) (sz : Nat) (h0 : Nat) (u1 : Int32) (u2 : Int32) (rh0 : RK kp L h0 12) : Met l yX12_agree (Cond.code yX12_agree cX12_agree 11 (some .int) :: wTab) ({ frames := 2, cells := 0, slots := 0, locals := 65 }) (va_Pc [.ref h0, .int u1, .int u2] (PreW G (tys6 cI cJ cZ cD cR cT) (va_pl L f0) sz)) (QT (po_X12_agree_u kp L f0 h0 u1 u2) G cI cJ cZ cD cR cT (va_A (va_pl L f0) sz) kp L) 0 0 (va_A (va_pl L f0) sz) := by
  refine metT (by decide) (Nat.le_of_ble_eq_true rfl) hTH ?_
  intro p e s m below meth c A ls E hW hl
  obtain ⟨hx, hb, -, hml, hown, hts, -, -, -⟩ := id E
  have hF : FM kp L ms_X12_agree_u f0 f0 := FM.rf
  have hl : lv_has ls 11 [(0, .ref h0), (1, .int u1), (2, .int u2)] := hl
  obtain ⟨pR, mR⟩ : ∃ x : Nat, oR (f0 h0) 2 = x := ⟨_, rfl⟩
  have rR : RK kp L pR 822 := by rw [← mR]; exact th_ref hTH rh0 (by decide) (by decide) rfl
  obtain ⟨p6, mp6⟩ : ∃ x : Int32, aI (f0 pR) (6 : Int32).toNatClampNeg = x := ⟨_, rfl⟩
  have hr6 : (0 : Int) ≤ p6.toInt ∧ p6.toInt ≤ 9 := rr_6 (th_row hTH rR) mp6 rfl
  obtain ⟨pw, hpw⟩ : ∃ x : Int, ((2 ^ p6.toInt.toNat : Nat) : Int) = x := ⟨_, rfl⟩
  have bpw := pw_b hr6 hpw
  refine lv_aload_n hx hb dX12_agree_0 rfl (lv_at hl 0 rfl) ?_
  refine lv_iconst (v := 0) hx hb dX12_agree_1 (by decide) ?_
  refine fp_RX12_82 E hW rh0 dX12_agree_2 (fun f1 H locs e2 n3 g4 hW => ?_)
  have hF := FM.tr hF g4 rfl
  refine lv_iload_n hx hb dX12_agree_5 rfl (lv_at hl 1 rfl) ?_
  refine q_i2l hx hb dX12_agree_6 rfl (fun x5 h6 => ?_)
  have hb7 : -2147483648 ≤ x5.toInt ∧ x5.toInt ≤ 2147483647 := by have := i32_b u1; omega
  refine lv_ldc2 (v := (-10000)) hx hb hown (hts _ tw_2014) dX12_agree_7 ?_
  refine lv_ldc2 (v := 10000) hx hb hown (hts _ tw_1723) dX12_agree_10 ?_
  refine t_callS (As := [.long x5, .long (-10000), .long 10000]) (rest := []) E hW (c_X12_in l G cI cJ cZ cD cR cT kp L f1 hW.2.2.2 _ x5 (-10000) 10000) wk_X12_in tw_1554 rfl ⟨Nat.le_of_ble_eq_true rfl, Nat.le_of_ble_eq_true rfl⟩ ⟨rfl, rfl⟩ hl.1 rfl (Nat.le_of_ble_eq_true rfl) dX12_agree_13 ⟨Nat.le_of_ble_eq_true rfl, Nat.le_of_ble_eq_true rfl⟩ (fun v8 f9 H locs q10 hW => ?_)
  obtain ⟨⟨x12, rfl, p13⟩, g11⟩ := q10
  have p13 : (x12.toInt = 1 ∧ (-10000 : Int) ≤ x5.toInt ∧ x5.toInt ≤ (10000 : Int)) ∨ (x12.toInt = 0 ∧ (x5.toInt < (-10000 : Int) ∨ (10000 : Int) < x5.toInt)) := p13
  have m14 : aI (f9 pR) (6 : Int32).toNatClampNeg = p6 := ((congrArg (fun z => aI z (6 : Int32).toNatClampNeg) (fm_A g11 rR (by decide) rfl)).trans ((congrArg (fun z => aI z (6 : Int32).toNatClampNeg) (fm_A g4 rR (by decide) rfl)).trans mp6))
  have hF := FM.tr hF g11 rfl
  refine q_if_eq (tgt := 33) hx hb dX12_agree_16 (by decide) rfl (fun c15 => ?_) (fun c15 => ?_)
  · have q16 : (x5.toInt < (-10000 : Int) ∨ (10000 : Int) < x5.toInt) := by omega
    clear p13
    refine lv_iconst (v := (-1)) hx hb dX12_agree_33 (by decide) ?_
    exact e_I E hW rfl ⟨⟨_, rfl, (by rw [mR, mp6]; exact gAgree_0 (by omega))⟩, hF⟩ dX12_agree_34
  · have q17 : (-10000 : Int) ≤ x5.toInt ∧ x5.toInt ≤ (10000 : Int) := by omega
    clear p13
    refine lv_iload_n hx hb dX12_agree_19 rfl (lv_at hl 2 rfl) ?_
    refine q_i2l hx hb dX12_agree_20 rfl (fun x18 h19 => ?_)
    have hb20 : -2147483648 ≤ x18.toInt ∧ x18.toInt ≤ 2147483647 := by have := i32_b u2; omega
    refine lv_ldc2 (v := (-10000)) hx hb hown (hts _ tw_2014) dX12_agree_21 ?_
    refine lv_ldc2 (v := 10000) hx hb hown (hts _ tw_1723) dX12_agree_24 ?_
    refine t_callS (As := [.long x18, .long (-10000), .long 10000]) (rest := []) E hW (c_X12_in l G cI cJ cZ cD cR cT kp L f9 hW.2.2.2 _ x18 (-10000) 10000) wk_X12_in tw_1554 rfl ⟨Nat.le_of_ble_eq_true rfl, Nat.le_of_ble_eq_true rfl⟩ ⟨rfl, rfl⟩ hl.1 rfl (Nat.le_of_ble_eq_true rfl) dX12_agree_27 ⟨Nat.le_of_ble_eq_true rfl, Nat.le_of_ble_eq_true rfl⟩ (fun v21 f22 H locs q23 hW => ?_)
    obtain ⟨⟨x25, rfl, p26⟩, g24⟩ := q23
    have p26 : (x25.toInt = 1 ∧ (-10000 : Int) ≤ x18.toInt ∧ x18.toInt ≤ (10000 : Int)) ∨ (x25.toInt = 0 ∧ (x18.toInt < (-10000 : Int) ∨ (10000 : Int) < x18.toInt)) := p26
    have m27 : aI (f22 pR) = aI (f0 pR) := ((congrArg aI (fm_A g24 rR (by decide) rfl)).trans ((congrArg aI (fm_A g11 rR (by decide) rfl)).trans ((congrArg aI (fm_A g4 rR (by decide) rfl)).trans (rfl : aI (f0 pR) = aI (f0 pR)))))
    have hF := FM.tr hF g24 rfl
    refine q_if_ne (tgt := 35) hx hb dX12_agree_30 (by decide) rfl (fun c28 => ?_) (fun c28 => ?_)
    · have q29 : (-10000 : Int) ≤ x18.toInt ∧ x18.toInt ≤ (10000 : Int) := by omega
      clear p26
      refine lv_iconst (v := (-1)) hx hb dX12_agree_35 (by decide) ?_
      refine lv_istore_n (lv' := [(3, .int (-1)), (0, .ref h0), (1, .int u1), (2, .int u2)]) hx hb dX12_agree_36 rfl hl (by decide) rfl (fun ls hl => ?_)
      refine lv_iconst (v := 0) hx hb dX12_agree_37 (by decide) ?_
      refine lv_istore (lv' := [(4, .int 0), (3, .int (-1)), (0, .ref h0), (1, .int u1), (2, .int u2)]) hx hb dX12_agree_38 hl (by decide) rfl (fun ls hl => ?_)
      refine lv_iconst (v := 0) hx hb dX12_agree_40 (by decide) ?_
      refine lv_istore (lv' := [(5, .int 0), (4, .int 0), (3, .int (-1)), (0, .ref h0), (1, .int u1), (2, .int u2)]) hx hb dX12_agree_41 hl (by decide) rfl (fun ls hl => ?_)
      refine lv_iconst (v := 0) hx hb dX12_agree_43 (by decide) ?_
      refine lv_istore (lv' := [(6, .int 0), (5, .int 0), (4, .int 0), (3, .int (-1)), (0, .ref h0), (1, .int u1), (2, .int u2)]) hx hb dX12_agree_44 hl (by decide) rfl (fun ls hl => ?_)
      have L44144 : ∀ (n : Nat), ∀ (y44135 : Int32) (y44137 : Int32) (y44138 : Int32) (y44139 : Int32) (b44136 : (0 : Int) ≤ y44135.toInt ∧ y44135.toInt ≤ 512) (b44140 : (-1 : Int) ≤ y44139.toInt ∧ y44139.toInt ≤ 511) (v44141 : y44135.toInt ≤ pw) (v44142 : (y44139, y44137) = bst (fun j : Nat => aI (f0 pR) (1164 + 2 * j)) (fun j : Nat => aI (f0 pR) (1165 + 2 * j)) p6.toNatClampNeg u1.toInt u2.toInt y44135.toNatClampNeg) (v44143 : y44139.toInt < 0 ∨ y44138.toInt = (pcI y44139 9).toInt) (hm : (513 : Int) - y44135.toInt ≤ n) (H : Heap) (locs : List Loc) (ls : Array Slot), WS G cI cJ cZ cD cR cT A kp L f22 s H locs → FM kp L ms_X12_agree_u f0 f22 → lv_has ls 11 [(6, .int y44135), (5, .int y44137), (4, .int y44138), (3, .int y44139), (0, .ref h0), (1, .int u1), (2, .int u2)] → W p l e ({ frames := 2, cells := 0, slots := 0, locals := 65 }) s m ([.ref h0, .int u1, .int u2] : List Value).toArray below meth c H locs 0 0 (MQ below (QT (po_X12_agree_u kp L f0 h0 u1 u2) G cI cJ cZ cD cR cT A kp L) ([.ref h0, .int u1, .int u2] : List Value).toArray s 0 0 A) (F0 m 46 ls []) := by
        intro n
        induction n with
        | zero =>
          intro y44135 y44137 y44138 y44139 b44136 b44140 v44141 v44142 v44143 hm H locs ls hW hF hl
          have hz := i32_b y44135
          exfalso; omega
        | succ n ih =>
          intro y44135 y44137 y44138 y44139 b44136 b44140 v44141 v44142 v44143 hm H locs ls hW hF hl
          clear c15 c28
          have ih46 := ih
          refine lv_iload hx hb dX12_agree_46 (lv_at hl 0 rfl) ?_
          refine lv_iconst (v := 1) hx hb dX12_agree_48 (by decide) ?_
          refine lv_aload_n hx hb dX12_agree_49 rfl (lv_at hl 4 rfl) ?_
          refine fg_RX12_8 E hW rh0 dX12_agree_50 (fun a44145 m44146 r44147 => ?_)
          obtain rfl : pR = a44145 := (((fm_R g24 rh0 rfl).trans ((fm_R g11 rh0 rfl).trans ((fm_R g4 rh0 rfl).trans mR)))).symm.trans m44146
          refine lv_bipush (v := 6) hx hb dX12_agree_53 (by decide) ?_
          refine gl_822 E hW rR (by decide) dX12_agree_55 (fun y44148 m44149 b44150 => ?_)
          obtain rfl : p6 = y44148 := (((congrArg (fun z => aI z (6 : Int32).toNatClampNeg) (fm_A g24 rR (by decide) rfl)).trans m14)).symm.trans m44149
          refine x_ishl hx hb dX12_agree_56 (fun x44151 e44152 => ?_)
          have q44153 := shl_1 hr6 hpw e44152
          refine q_icmp_ge (tgt := 228) hx hb dX12_agree_57 (by decide) rfl rfl (fun c44154 => ?_) (fun c44154 => ?_)
          · refine lv_iload_n hx hb dX12_agree_228 rfl (lv_at hl 3 rfl) ?_
            exact e_I E hW rfl ⟨⟨_, rfl, (by rw [mR, mp6]; exact gAgree_1 (by omega) (fAgree_end v44142 hpw (by omega) (by omega)))⟩, hF⟩ dX12_agree_229
          · refine lv_iconst (v := 0) hx hb dX12_agree_60 (by decide) ?_
            refine lv_istore (lv' := [(7, .int 0), (6, .int y44135), (5, .int y44137), (4, .int y44138), (3, .int y44139), (0, .ref h0), (1, .int u1), (2, .int u2)]) hx hb dX12_agree_61 hl (by decide) rfl (fun ls hl => ?_)
            refine lv_iconst (v := 0) hx hb dX12_agree_63 (by decide) ?_
            refine lv_istore (lv' := [(8, .int 0), (7, .int 0), (6, .int y44135), (5, .int y44137), (4, .int y44138), (3, .int y44139), (0, .ref h0), (1, .int u1), (2, .int u2)]) hx hb dX12_agree_64 hl (by decide) rfl (fun ls hl => ?_)
            refine lv_iconst (v := 0) hx hb dX12_agree_66 (by decide) ?_
            refine lv_istore (lv' := [(9, .int 0), (8, .int 0), (7, .int 0), (6, .int y44135), (5, .int y44137), (4, .int y44138), (3, .int y44139), (0, .ref h0), (1, .int u1), (2, .int u2)]) hx hb dX12_agree_67 hl (by decide) rfl (fun ls hl => ?_)
            refine lv_iconst (v := 0) hx hb dX12_agree_69 (by decide) ?_
            refine lv_istore (lv' := [(10, .int 0), (9, .int 0), (8, .int 0), (7, .int 0), (6, .int y44135), (5, .int y44137), (4, .int y44138), (3, .int y44139), (0, .ref h0), (1, .int u1), (2, .int u2)]) hx hb dX12_agree_70 hl (by decide) rfl (fun ls hl => ?_)
            have L44867 : ∀ (n : Nat), ∀ (y44858 : Int32) (y44860 : Int32) (y44861 : Int32) (y44862 : Int32) (b44859 : (0 : Int) ≤ y44858.toInt ∧ y44858.toInt ≤ 9) (v44863 : y44858.toInt ≤ p6.toInt) (v44864 : y44862 = sm (fun j : Nat => aI (f0 pR) (1164 + 2 * j)) y44135 y44858.toNatClampNeg) (v44865 : y44861 = sm (fun j : Nat => aI (f0 pR) (1165 + 2 * j)) y44135 y44858.toNatClampNeg) (v44866 : y44860 = pcI y44135 y44858.toNatClampNeg) (hm : (10 : Int) - y44858.toInt ≤ n) (H : Heap) (locs : List Loc) (ls : Array Slot), WS G cI cJ cZ cD cR cT A kp L f22 s H locs → FM kp L ms_X12_agree_u f0 f22 → lv_has ls 11 [(10, .int y44858), (9, .int y44860), (8, .int y44861), (7, .int y44862), (6, .int y44135), (5, .int y44137), (4, .int y44138), (3, .int y44139), (0, .ref h0), (1, .int u1), (2, .int u2)] → W p l e ({ frames := 2, cells := 0, slots := 0, locals := 65 }) s m ([.ref h0, .int u1, .int u2] : List Value).toArray below meth c H locs 0 0 (MQ below (QT (po_X12_agree_u kp L f0 h0 u1 u2) G cI cJ cZ cD cR cT A kp L) ([.ref h0, .int u1, .int u2] : List Value).toArray s 0 0 A) (F0 m 72 ls []) := by
              intro n
              induction n with
              | zero =>
                intro y44858 y44860 y44861 y44862 b44859 v44863 v44864 v44865 v44866 hm H locs ls hW hF hl
                have hz := i32_b y44858
                exfalso; omega
              | succ n ih =>
                intro y44858 y44860 y44861 y44862 b44859 v44863 v44864 v44865 v44866 hm H locs ls hW hF hl
                have ih72 := ih
                refine lv_iload hx hb dX12_agree_72 (lv_at hl 0 rfl) ?_
                refine lv_aload_n hx hb dX12_agree_74 rfl (lv_at hl 8 rfl) ?_
                refine fg_RX12_8 E hW rh0 dX12_agree_75 (fun a44868 m44869 r44870 => ?_)
                obtain rfl : pR = a44868 := (m44146).symm.trans m44869
                refine lv_bipush (v := 6) hx hb dX12_agree_78 (by decide) ?_
                refine gl_822 E hW rR (by decide) dX12_agree_80 (fun y44871 m44872 b44873 => ?_)
                obtain rfl : p6 = y44871 := (m44149).symm.trans m44872
                refine q_icmp_ge (tgt := 156) hx hb dX12_agree_81 (by decide) rfl rfl (fun c44874 => ?_) (fun c44874 => ?_)
                · refine lv_iload_n hx hb dX12_agree_156 rfl (lv_at hl 7 rfl) ?_
                  refine q_if_lt (tgt := 184) hx hb dX12_agree_157 (by decide) rfl (fun c44875 => ?_) (fun c44875 => ?_)
                  · refine lv_iconst (v := 1) hx hb dX12_agree_184 (by decide) ?_
                    refine lv_goto (tgt := 189) hx hb dX12_agree_185 (by decide) ?_
                    refine lv_istore (lv' := [(10, .int 1), (9, .int y44860), (8, .int y44861), (7, .int y44862), (6, .int y44135), (5, .int y44137), (4, .int y44138), (3, .int y44139), (0, .ref h0), (1, .int u1), (2, .int u2)]) hx hb dX12_agree_189 hl (by decide) rfl (fun ls hl => ?_)
                    refine lv_iload hx hb dX12_agree_191 (lv_at hl 3 rfl) ?_
                    refine lv_iload_n hx hb dX12_agree_193 rfl (lv_at hl 9 rfl) ?_
                    refine q_icmp_lt (tgt := 222) hx hb dX12_agree_194 (by decide) rfl rfl (fun c44876 => ?_) (fun c44876 => ?_)
                    · refine q_iinc hx hb dX12_agree_222 hl (k := 4) rfl rfl rfl (by omega) (by decide) (fun i44877 ls h44878 hl => ?_)
                      have hl : lv_has ls 11 [(6, .int i44877), (10, .int 1), (9, .int y44860), (8, .int y44861), (7, .int y44862), (5, .int y44137), (4, .int y44138), (3, .int y44139), (0, .ref h0), (1, .int u1), (2, .int u2)] := hl
                      refine lv_goto (tgt := 46) hx hb dX12_agree_225 (by decide) ?_
                      have hm44879 := pc_end v44866 (by omega) hr6 hpw (by omega)
                      exact ih46 i44877 y44137 y44138 y44139 (by omega) (by omega) (by omega) (bs_next v44142 (by omega) (by omega) (sm_end v44864 (by omega)) (sm_end v44865 (by omega)) rfl (by first | exact (if_pos (by omega)).symm | exact ((if_neg (by omega)).trans (if_neg (by omega))).symm)) (by omega) (by omega) _ _ _ hW hF (lv_sub hl [0, 5, 6, 7, 8, 9, 10] rfl)
                    · refine lv_iload hx hb dX12_agree_197 (lv_at hl 2 rfl) ?_
                      refine lv_iload_n hx hb dX12_agree_199 rfl (lv_at hl 10 rfl) ?_
                      refine q_icmp_lt (tgt := 222) hx hb dX12_agree_200 (by decide) rfl rfl (fun c44880 => ?_) (fun c44880 => ?_)
                      · refine q_iinc hx hb dX12_agree_222 hl (k := 4) rfl rfl rfl (by omega) (by decide) (fun i44881 ls h44882 hl => ?_)
                        have hl : lv_has ls 11 [(6, .int i44881), (10, .int 1), (9, .int y44860), (8, .int y44861), (7, .int y44862), (5, .int y44137), (4, .int y44138), (3, .int y44139), (0, .ref h0), (1, .int u1), (2, .int u2)] := hl
                        refine lv_goto (tgt := 46) hx hb dX12_agree_225 (by decide) ?_
                        have hm44883 := pc_end v44866 (by omega) hr6 hpw (by omega)
                        exact ih46 i44881 y44137 y44138 y44139 (by omega) (by omega) (by omega) (bs_next v44142 (by omega) (by omega) (sm_end v44864 (by omega)) (sm_end v44865 (by omega)) rfl (by first | exact (if_pos (by omega)).symm | exact ((if_neg (by omega)).trans (if_neg (by omega))).symm)) (by omega) (by omega) _ _ _ hW hF (lv_sub hl [0, 5, 6, 7, 8, 9, 10] rfl)
                      · refine lv_iload hx hb dX12_agree_203 (lv_at hl 0 rfl) ?_
                        refine q_if_eq (X := 1) (tgt := 222) hx hb dX12_agree_205 (by decide) rfl (fun c => absurd c (by decide)) (fun _ => ?_)
                        refine lv_iload hx hb dX12_agree_208 (lv_at hl 4 rfl) ?_
                        refine lv_istore_n (lv' := [(3, .int y44135), (10, .int 1), (9, .int y44860), (8, .int y44861), (7, .int y44862), (6, .int y44135), (5, .int y44137), (4, .int y44138), (0, .ref h0), (1, .int u1), (2, .int u2)]) hx hb dX12_agree_210 rfl hl (by decide) rfl (fun ls hl => ?_)
                        refine lv_iload hx hb dX12_agree_211 (lv_at hl 2 rfl) ?_
                        refine lv_istore (lv' := [(4, .int y44860), (3, .int y44135), (10, .int 1), (9, .int y44860), (8, .int y44861), (7, .int y44862), (6, .int y44135), (5, .int y44137), (0, .ref h0), (1, .int u1), (2, .int u2)]) hx hb dX12_agree_213 hl (by decide) rfl (fun ls hl => ?_)
                        refine lv_iload hx hb dX12_agree_215 (lv_at hl 5 rfl) ?_
                        refine lv_iload hx hb dX12_agree_217 (lv_at hl 4 rfl) ?_
                        refine x_iadd hx hb dX12_agree_219 (fun x44884 e44885 => ?_)
                        refine lv_istore (lv' := [(5, .int x44884), (4, .int y44860), (3, .int y44135), (10, .int 1), (9, .int y44860), (8, .int y44861), (7, .int y44862), (6, .int y44135), (0, .ref h0), (1, .int u1), (2, .int u2)]) hx hb dX12_agree_220 hl (by decide) rfl (fun ls hl => ?_)
                        refine q_iinc hx hb dX12_agree_222 hl (k := 7) rfl rfl rfl (by omega) (by decide) (fun i44886 ls h44887 hl => ?_)
                        have hl : lv_has ls 11 [(6, .int i44886), (5, .int x44884), (4, .int y44860), (3, .int y44135), (10, .int 1), (9, .int y44860), (8, .int y44861), (7, .int y44862), (0, .ref h0), (1, .int u1), (2, .int u2)] := hl
                        refine lv_goto (tgt := 46) hx hb dX12_agree_225 (by decide) ?_
                        have hm44888 := pc_end v44866 (by omega) hr6 hpw (by omega)
                        exact ih46 i44886 x44884 y44860 y44135 (by omega) (by omega) (by omega) (bs_next v44142 (by omega) (by omega) (sm_end v44864 (by omega)) (sm_end v44865 (by omega)) e44885 ((if_neg (by omega)).trans (if_pos (by omega))).symm) (by omega) (by omega) _ _ _ hW hF (lv_sub hl [0, 1, 2, 3, 8, 9, 10] rfl)
                  · refine lv_iload hx hb dX12_agree_160 (lv_at hl 1 rfl) ?_
                    refine lv_iload hx hb dX12_agree_162 (lv_at hl 6 rfl) ?_
                    refine q_icmp_lt (tgt := 184) hx hb dX12_agree_164 (by decide) rfl rfl (fun c44889 => ?_) (fun c44889 => ?_)
                    · have hb44890 : y44860.toInt ≤ 2147483646 := by have := i32_b y44138; omega
                      have hb44891 : -2147483647 ≤ y44138.toInt := by have := i32_b y44860; omega
                      refine lv_iconst (v := 1) hx hb dX12_agree_184 (by decide) ?_
                      refine lv_goto (tgt := 189) hx hb dX12_agree_185 (by decide) ?_
                      refine lv_istore (lv' := [(10, .int 1), (9, .int y44860), (8, .int y44861), (7, .int y44862), (6, .int y44135), (5, .int y44137), (4, .int y44138), (3, .int y44139), (0, .ref h0), (1, .int u1), (2, .int u2)]) hx hb dX12_agree_189 hl (by decide) rfl (fun ls hl => ?_)
                      refine lv_iload hx hb dX12_agree_191 (lv_at hl 3 rfl) ?_
                      refine lv_iload_n hx hb dX12_agree_193 rfl (lv_at hl 9 rfl) ?_
                      refine q_icmp_lt (tgt := 222) hx hb dX12_agree_194 (by decide) rfl rfl (fun c44892 => ?_) (fun c44892 => ?_)
                      · refine q_iinc hx hb dX12_agree_222 hl (k := 4) rfl rfl rfl (by omega) (by decide) (fun i44893 ls h44894 hl => ?_)
                        have hl : lv_has ls 11 [(6, .int i44893), (10, .int 1), (9, .int y44860), (8, .int y44861), (7, .int y44862), (5, .int y44137), (4, .int y44138), (3, .int y44139), (0, .ref h0), (1, .int u1), (2, .int u2)] := hl
                        refine lv_goto (tgt := 46) hx hb dX12_agree_225 (by decide) ?_
                        have hm44895 := pc_end v44866 (by omega) hr6 hpw (by omega)
                        exact ih46 i44893 y44137 y44138 y44139 (by omega) (by omega) (by omega) (bs_next v44142 (by omega) (by omega) (sm_end v44864 (by omega)) (sm_end v44865 (by omega)) rfl (by first | exact (if_pos (by omega)).symm | exact ((if_neg (by omega)).trans (if_neg (by omega))).symm)) (by omega) (by omega) _ _ _ hW hF (lv_sub hl [0, 5, 6, 7, 8, 9, 10] rfl)
                      · refine lv_iload hx hb dX12_agree_197 (lv_at hl 2 rfl) ?_
                        refine lv_iload_n hx hb dX12_agree_199 rfl (lv_at hl 10 rfl) ?_
                        refine q_icmp_lt (tgt := 222) hx hb dX12_agree_200 (by decide) rfl rfl (fun c44896 => ?_) (fun c44896 => ?_)
                        · refine q_iinc hx hb dX12_agree_222 hl (k := 4) rfl rfl rfl (by omega) (by decide) (fun i44897 ls h44898 hl => ?_)
                          have hl : lv_has ls 11 [(6, .int i44897), (10, .int 1), (9, .int y44860), (8, .int y44861), (7, .int y44862), (5, .int y44137), (4, .int y44138), (3, .int y44139), (0, .ref h0), (1, .int u1), (2, .int u2)] := hl
                          refine lv_goto (tgt := 46) hx hb dX12_agree_225 (by decide) ?_
                          have hm44899 := pc_end v44866 (by omega) hr6 hpw (by omega)
                          exact ih46 i44897 y44137 y44138 y44139 (by omega) (by omega) (by omega) (bs_next v44142 (by omega) (by omega) (sm_end v44864 (by omega)) (sm_end v44865 (by omega)) rfl (by first | exact (if_pos (by omega)).symm | exact ((if_neg (by omega)).trans (if_neg (by omega))).symm)) (by omega) (by omega) _ _ _ hW hF (lv_sub hl [0, 5, 6, 7, 8, 9, 10] rfl)
                        · refine lv_iload hx hb dX12_agree_203 (lv_at hl 0 rfl) ?_
                          refine q_if_eq (X := 1) (tgt := 222) hx hb dX12_agree_205 (by decide) rfl (fun c => absurd c (by decide)) (fun _ => ?_)
                          refine lv_iload hx hb dX12_agree_208 (lv_at hl 4 rfl) ?_
                          refine lv_istore_n (lv' := [(3, .int y44135), (10, .int 1), (9, .int y44860), (8, .int y44861), (7, .int y44862), (6, .int y44135), (5, .int y44137), (4, .int y44138), (0, .ref h0), (1, .int u1), (2, .int u2)]) hx hb dX12_agree_210 rfl hl (by decide) rfl (fun ls hl => ?_)
                          refine lv_iload hx hb dX12_agree_211 (lv_at hl 2 rfl) ?_
                          refine lv_istore (lv' := [(4, .int y44860), (3, .int y44135), (10, .int 1), (9, .int y44860), (8, .int y44861), (7, .int y44862), (6, .int y44135), (5, .int y44137), (0, .ref h0), (1, .int u1), (2, .int u2)]) hx hb dX12_agree_213 hl (by decide) rfl (fun ls hl => ?_)
                          refine lv_iload hx hb dX12_agree_215 (lv_at hl 5 rfl) ?_
                          refine lv_iload hx hb dX12_agree_217 (lv_at hl 4 rfl) ?_
                          refine x_iadd hx hb dX12_agree_219 (fun x44900 e44901 => ?_)
                          refine lv_istore (lv' := [(5, .int x44900), (4, .int y44860), (3, .int y44135), (10, .int 1), (9, .int y44860), (8, .int y44861), (7, .int y44862), (6, .int y44135), (0, .ref h0), (1, .int u1), (2, .int u2)]) hx hb dX12_agree_220 hl (by decide) rfl (fun ls hl => ?_)
                          refine q_iinc hx hb dX12_agree_222 hl (k := 7) rfl rfl rfl (by omega) (by decide) (fun i44902 ls h44903 hl => ?_)
                          have hl : lv_has ls 11 [(6, .int i44902), (5, .int x44900), (4, .int y44860), (3, .int y44135), (10, .int 1), (9, .int y44860), (8, .int y44861), (7, .int y44862), (0, .ref h0), (1, .int u1), (2, .int u2)] := hl
                          refine lv_goto (tgt := 46) hx hb dX12_agree_225 (by decide) ?_
                          have hm44904 := pc_end v44866 (by omega) hr6 hpw (by omega)
                          exact ih46 i44902 x44900 y44860 y44135 (by omega) (by omega) (by omega) (bs_next v44142 (by omega) (by omega) (sm_end v44864 (by omega)) (sm_end v44865 (by omega)) e44901 ((if_neg (by omega)).trans (if_pos (by omega))).symm) (by omega) (by omega) _ _ _ hW hF (lv_sub hl [0, 1, 2, 3, 8, 9, 10] rfl)
                    · refine lv_iload hx hb dX12_agree_167 (lv_at hl 1 rfl) ?_
                      refine lv_iload hx hb dX12_agree_169 (lv_at hl 6 rfl) ?_
                      refine q_icmp_ne (tgt := 188) hx hb dX12_agree_171 (by decide) rfl rfl (fun c44905 => ?_) (fun c44905 => ?_)
                      · refine lv_iconst (v := 0) hx hb dX12_agree_188 (by decide) ?_
                        refine lv_istore (lv' := [(10, .int 0), (9, .int y44860), (8, .int y44861), (7, .int y44862), (6, .int y44135), (5, .int y44137), (4, .int y44138), (3, .int y44139), (0, .ref h0), (1, .int u1), (2, .int u2)]) hx hb dX12_agree_189 hl (by decide) rfl (fun ls hl => ?_)
                        refine lv_iload hx hb dX12_agree_191 (lv_at hl 3 rfl) ?_
                        refine lv_iload_n hx hb dX12_agree_193 rfl (lv_at hl 9 rfl) ?_
                        refine q_icmp_lt (tgt := 222) hx hb dX12_agree_194 (by decide) rfl rfl (fun c44906 => ?_) (fun c44906 => ?_)
                        · refine q_iinc hx hb dX12_agree_222 hl (k := 4) rfl rfl rfl (by omega) (by decide) (fun i44907 ls h44908 hl => ?_)
                          have hl : lv_has ls 11 [(6, .int i44907), (10, .int 0), (9, .int y44860), (8, .int y44861), (7, .int y44862), (5, .int y44137), (4, .int y44138), (3, .int y44139), (0, .ref h0), (1, .int u1), (2, .int u2)] := hl
                          refine lv_goto (tgt := 46) hx hb dX12_agree_225 (by decide) ?_
                          have hm44909 := pc_end v44866 (by omega) hr6 hpw (by omega)
                          exact ih46 i44907 y44137 y44138 y44139 (by omega) (by omega) (by omega) (bs_next v44142 (by omega) (by omega) (sm_end v44864 (by omega)) (sm_end v44865 (by omega)) rfl (by first | exact (if_pos (by omega)).symm | exact ((if_neg (by omega)).trans (if_neg (by omega))).symm)) (by omega) (by omega) _ _ _ hW hF (lv_sub hl [0, 5, 6, 7, 8, 9, 10] rfl)
                        · refine lv_iload hx hb dX12_agree_197 (lv_at hl 2 rfl) ?_
                          refine lv_iload_n hx hb dX12_agree_199 rfl (lv_at hl 10 rfl) ?_
                          refine q_icmp_lt (tgt := 222) hx hb dX12_agree_200 (by decide) rfl rfl (fun c44910 => ?_) (fun c44910 => ?_)
                          · refine q_iinc hx hb dX12_agree_222 hl (k := 4) rfl rfl rfl (by omega) (by decide) (fun i44911 ls h44912 hl => ?_)
                            have hl : lv_has ls 11 [(6, .int i44911), (10, .int 0), (9, .int y44860), (8, .int y44861), (7, .int y44862), (5, .int y44137), (4, .int y44138), (3, .int y44139), (0, .ref h0), (1, .int u1), (2, .int u2)] := hl
                            refine lv_goto (tgt := 46) hx hb dX12_agree_225 (by decide) ?_
                            have hm44913 := pc_end v44866 (by omega) hr6 hpw (by omega)
                            exact ih46 i44911 y44137 y44138 y44139 (by omega) (by omega) (by omega) (bs_next v44142 (by omega) (by omega) (sm_end v44864 (by omega)) (sm_end v44865 (by omega)) rfl (by first | exact (if_pos (by omega)).symm | exact ((if_neg (by omega)).trans (if_neg (by omega))).symm)) (by omega) (by omega) _ _ _ hW hF (lv_sub hl [0, 5, 6, 7, 8, 9, 10] rfl)
                          · refine lv_iload hx hb dX12_agree_203 (lv_at hl 0 rfl) ?_
                            refine q_if_eq (X := 0) (tgt := 222) hx hb dX12_agree_205 (by decide) rfl (fun _ => ?_) (fun c => absurd c (by decide))
                            refine q_iinc hx hb dX12_agree_222 hl (k := 4) rfl rfl rfl (by omega) (by decide) (fun i44914 ls h44915 hl => ?_)
                            have hl : lv_has ls 11 [(6, .int i44914), (10, .int 0), (9, .int y44860), (8, .int y44861), (7, .int y44862), (5, .int y44137), (4, .int y44138), (3, .int y44139), (0, .ref h0), (1, .int u1), (2, .int u2)] := hl
                            refine lv_goto (tgt := 46) hx hb dX12_agree_225 (by decide) ?_
                            have hm44916 := pc_end v44866 (by omega) hr6 hpw (by omega)
                            exact ih46 i44914 y44137 y44138 y44139 (by omega) (by omega) (by omega) (bs_next v44142 (by omega) (by omega) (sm_end v44864 (by omega)) (sm_end v44865 (by omega)) rfl (by first | exact (if_pos (by omega)).symm | exact ((if_neg (by omega)).trans (if_neg (by omega))).symm)) (by omega) (by omega) _ _ _ hW hF (lv_sub hl [0, 5, 6, 7, 8, 9, 10] rfl)
                      · refine lv_iload hx hb dX12_agree_174 (lv_at hl 3 rfl) ?_
                        refine lv_iload hx hb dX12_agree_176 (lv_at hl 2 rfl) ?_
                        refine x_iadd hx hb dX12_agree_178 (fun x44917 e44918 => ?_)
                        refine lv_iload hx hb dX12_agree_179 (lv_at hl 5 rfl) ?_
                        refine q_icmp_le (tgt := 188) hx hb dX12_agree_181 (by decide) rfl rfl (fun c44919 => ?_) (fun c44919 => ?_)
                        · refine lv_iconst (v := 0) hx hb dX12_agree_188 (by decide) ?_
                          refine lv_istore (lv' := [(10, .int 0), (9, .int y44860), (8, .int y44861), (7, .int y44862), (6, .int y44135), (5, .int y44137), (4, .int y44138), (3, .int y44139), (0, .ref h0), (1, .int u1), (2, .int u2)]) hx hb dX12_agree_189 hl (by decide) rfl (fun ls hl => ?_)
                          refine lv_iload hx hb dX12_agree_191 (lv_at hl 3 rfl) ?_
                          refine lv_iload_n hx hb dX12_agree_193 rfl (lv_at hl 9 rfl) ?_
                          refine q_icmp_lt (tgt := 222) hx hb dX12_agree_194 (by decide) rfl rfl (fun c44920 => ?_) (fun c44920 => ?_)
                          · refine q_iinc hx hb dX12_agree_222 hl (k := 4) rfl rfl rfl (by omega) (by decide) (fun i44921 ls h44922 hl => ?_)
                            have hl : lv_has ls 11 [(6, .int i44921), (10, .int 0), (9, .int y44860), (8, .int y44861), (7, .int y44862), (5, .int y44137), (4, .int y44138), (3, .int y44139), (0, .ref h0), (1, .int u1), (2, .int u2)] := hl
                            refine lv_goto (tgt := 46) hx hb dX12_agree_225 (by decide) ?_
                            have hm44923 := pc_end v44866 (by omega) hr6 hpw (by omega)
                            exact ih46 i44921 y44137 y44138 y44139 (by omega) (by omega) (by omega) (bs_next v44142 (by omega) (by omega) (sm_end v44864 (by omega)) (sm_end v44865 (by omega)) e44918 (by first | exact (if_pos (by omega)).symm | exact ((if_neg (by omega)).trans (if_neg (by omega))).symm)) (by omega) (by omega) _ _ _ hW hF (lv_sub hl [0, 5, 6, 7, 8, 9, 10] rfl)
                          · refine lv_iload hx hb dX12_agree_197 (lv_at hl 2 rfl) ?_
                            refine lv_iload_n hx hb dX12_agree_199 rfl (lv_at hl 10 rfl) ?_
                            refine q_icmp_lt (tgt := 222) hx hb dX12_agree_200 (by decide) rfl rfl (fun c44924 => ?_) (fun c44924 => ?_)
                            · refine q_iinc hx hb dX12_agree_222 hl (k := 4) rfl rfl rfl (by omega) (by decide) (fun i44925 ls h44926 hl => ?_)
                              have hl : lv_has ls 11 [(6, .int i44925), (10, .int 0), (9, .int y44860), (8, .int y44861), (7, .int y44862), (5, .int y44137), (4, .int y44138), (3, .int y44139), (0, .ref h0), (1, .int u1), (2, .int u2)] := hl
                              refine lv_goto (tgt := 46) hx hb dX12_agree_225 (by decide) ?_
                              have hm44927 := pc_end v44866 (by omega) hr6 hpw (by omega)
                              exact ih46 i44925 y44137 y44138 y44139 (by omega) (by omega) (by omega) (bs_next v44142 (by omega) (by omega) (sm_end v44864 (by omega)) (sm_end v44865 (by omega)) e44918 (by first | exact (if_pos (by omega)).symm | exact ((if_neg (by omega)).trans (if_neg (by omega))).symm)) (by omega) (by omega) _ _ _ hW hF (lv_sub hl [0, 5, 6, 7, 8, 9, 10] rfl)
                            · refine lv_iload hx hb dX12_agree_203 (lv_at hl 0 rfl) ?_
                              refine q_if_eq (X := 0) (tgt := 222) hx hb dX12_agree_205 (by decide) rfl (fun _ => ?_) (fun c => absurd c (by decide))
                              refine q_iinc hx hb dX12_agree_222 hl (k := 4) rfl rfl rfl (by omega) (by decide) (fun i44928 ls h44929 hl => ?_)
                              have hl : lv_has ls 11 [(6, .int i44928), (10, .int 0), (9, .int y44860), (8, .int y44861), (7, .int y44862), (5, .int y44137), (4, .int y44138), (3, .int y44139), (0, .ref h0), (1, .int u1), (2, .int u2)] := hl
                              refine lv_goto (tgt := 46) hx hb dX12_agree_225 (by decide) ?_
                              have hm44930 := pc_end v44866 (by omega) hr6 hpw (by omega)
                              exact ih46 i44928 y44137 y44138 y44139 (by omega) (by omega) (by omega) (bs_next v44142 (by omega) (by omega) (sm_end v44864 (by omega)) (sm_end v44865 (by omega)) e44918 (by first | exact (if_pos (by omega)).symm | exact ((if_neg (by omega)).trans (if_neg (by omega))).symm)) (by omega) (by omega) _ _ _ hW hF (lv_sub hl [0, 5, 6, 7, 8, 9, 10] rfl)
                        · have hb44931 : y44137.toInt ≤ 2147483646 := by have := i32_b x44917; omega
                          have hb44932 : -2147483647 ≤ x44917.toInt := by have := i32_b y44137; omega
                          refine lv_iconst (v := 1) hx hb dX12_agree_184 (by decide) ?_
                          refine lv_goto (tgt := 189) hx hb dX12_agree_185 (by decide) ?_
                          refine lv_istore (lv' := [(10, .int 1), (9, .int y44860), (8, .int y44861), (7, .int y44862), (6, .int y44135), (5, .int y44137), (4, .int y44138), (3, .int y44139), (0, .ref h0), (1, .int u1), (2, .int u2)]) hx hb dX12_agree_189 hl (by decide) rfl (fun ls hl => ?_)
                          refine lv_iload hx hb dX12_agree_191 (lv_at hl 3 rfl) ?_
                          refine lv_iload_n hx hb dX12_agree_193 rfl (lv_at hl 9 rfl) ?_
                          refine q_icmp_lt (tgt := 222) hx hb dX12_agree_194 (by decide) rfl rfl (fun c44933 => ?_) (fun c44933 => ?_)
                          · refine q_iinc hx hb dX12_agree_222 hl (k := 4) rfl rfl rfl (by omega) (by decide) (fun i44934 ls h44935 hl => ?_)
                            have hl : lv_has ls 11 [(6, .int i44934), (10, .int 1), (9, .int y44860), (8, .int y44861), (7, .int y44862), (5, .int y44137), (4, .int y44138), (3, .int y44139), (0, .ref h0), (1, .int u1), (2, .int u2)] := hl
                            refine lv_goto (tgt := 46) hx hb dX12_agree_225 (by decide) ?_
                            have hm44936 := pc_end v44866 (by omega) hr6 hpw (by omega)
                            exact ih46 i44934 y44137 y44138 y44139 (by omega) (by omega) (by omega) (bs_next v44142 (by omega) (by omega) (sm_end v44864 (by omega)) (sm_end v44865 (by omega)) e44918 (by first | exact (if_pos (by omega)).symm | exact ((if_neg (by omega)).trans (if_neg (by omega))).symm)) (by omega) (by omega) _ _ _ hW hF (lv_sub hl [0, 5, 6, 7, 8, 9, 10] rfl)
                          · refine lv_iload hx hb dX12_agree_197 (lv_at hl 2 rfl) ?_
                            refine lv_iload_n hx hb dX12_agree_199 rfl (lv_at hl 10 rfl) ?_
                            refine q_icmp_lt (tgt := 222) hx hb dX12_agree_200 (by decide) rfl rfl (fun c44937 => ?_) (fun c44937 => ?_)
                            · refine q_iinc hx hb dX12_agree_222 hl (k := 4) rfl rfl rfl (by omega) (by decide) (fun i44938 ls h44939 hl => ?_)
                              have hl : lv_has ls 11 [(6, .int i44938), (10, .int 1), (9, .int y44860), (8, .int y44861), (7, .int y44862), (5, .int y44137), (4, .int y44138), (3, .int y44139), (0, .ref h0), (1, .int u1), (2, .int u2)] := hl
                              refine lv_goto (tgt := 46) hx hb dX12_agree_225 (by decide) ?_
                              have hm44940 := pc_end v44866 (by omega) hr6 hpw (by omega)
                              exact ih46 i44938 y44137 y44138 y44139 (by omega) (by omega) (by omega) (bs_next v44142 (by omega) (by omega) (sm_end v44864 (by omega)) (sm_end v44865 (by omega)) e44918 (by first | exact (if_pos (by omega)).symm | exact ((if_neg (by omega)).trans (if_neg (by omega))).symm)) (by omega) (by omega) _ _ _ hW hF (lv_sub hl [0, 5, 6, 7, 8, 9, 10] rfl)
                            · refine lv_iload hx hb dX12_agree_203 (lv_at hl 0 rfl) ?_
                              refine q_if_eq (X := 1) (tgt := 222) hx hb dX12_agree_205 (by decide) rfl (fun c => absurd c (by decide)) (fun _ => ?_)
                              refine lv_iload hx hb dX12_agree_208 (lv_at hl 4 rfl) ?_
                              refine lv_istore_n (lv' := [(3, .int y44135), (10, .int 1), (9, .int y44860), (8, .int y44861), (7, .int y44862), (6, .int y44135), (5, .int y44137), (4, .int y44138), (0, .ref h0), (1, .int u1), (2, .int u2)]) hx hb dX12_agree_210 rfl hl (by decide) rfl (fun ls hl => ?_)
                              refine lv_iload hx hb dX12_agree_211 (lv_at hl 2 rfl) ?_
                              refine lv_istore (lv' := [(4, .int y44860), (3, .int y44135), (10, .int 1), (9, .int y44860), (8, .int y44861), (7, .int y44862), (6, .int y44135), (5, .int y44137), (0, .ref h0), (1, .int u1), (2, .int u2)]) hx hb dX12_agree_213 hl (by decide) rfl (fun ls hl => ?_)
                              refine lv_iload hx hb dX12_agree_215 (lv_at hl 5 rfl) ?_
                              refine lv_iload hx hb dX12_agree_217 (lv_at hl 4 rfl) ?_
                              refine x_iadd hx hb dX12_agree_219 (fun x44941 e44942 => ?_)
                              refine lv_istore (lv' := [(5, .int x44941), (4, .int y44860), (3, .int y44135), (10, .int 1), (9, .int y44860), (8, .int y44861), (7, .int y44862), (6, .int y44135), (0, .ref h0), (1, .int u1), (2, .int u2)]) hx hb dX12_agree_220 hl (by decide) rfl (fun ls hl => ?_)
                              refine q_iinc hx hb dX12_agree_222 hl (k := 7) rfl rfl rfl (by omega) (by decide) (fun i44943 ls h44944 hl => ?_)
                              have hl : lv_has ls 11 [(6, .int i44943), (5, .int x44941), (4, .int y44860), (3, .int y44135), (10, .int 1), (9, .int y44860), (8, .int y44861), (7, .int y44862), (0, .ref h0), (1, .int u1), (2, .int u2)] := hl
                              refine lv_goto (tgt := 46) hx hb dX12_agree_225 (by decide) ?_
                              have h44945 : x44917.toInt = x44941.toInt := congrArg Int32.toInt (e44918.trans e44942.symm)
                              have hm44946 := pc_end v44866 (by omega) hr6 hpw (by omega)
                              exact ih46 i44943 x44941 y44860 y44135 (by omega) (by omega) (by omega) (bs_next v44142 (by omega) (by omega) (sm_end v44864 (by omega)) (sm_end v44865 (by omega)) e44942 ((if_neg (by omega)).trans (if_pos (by omega))).symm) (by omega) (by omega) _ _ _ hW hF (lv_sub hl [0, 1, 2, 3, 8, 9, 10] rfl)
                · refine lv_iload hx hb dX12_agree_84 (lv_at hl 3 rfl) ?_
                  refine lv_iload hx hb dX12_agree_86 (lv_at hl 4 rfl) ?_
                  refine lv_iload hx hb dX12_agree_88 (lv_at hl 0 rfl) ?_
                  refine x_ishr hx hb dX12_agree_90 (fun x44947 e44948 => ?_)
                  refine lv_iconst (v := 1) hx hb dX12_agree_91 (by decide) ?_
                  refine x_iand hx hb dX12_agree_92 (fun x44949 e44950 => ?_)
                  have q44951 := bit_1 (by omega) (by omega) e44948 e44950
                  have b44952 := bit_01 q44951
                  refine lv_aload_n hx hb dX12_agree_93 rfl (lv_at hl 8 rfl) ?_
                  refine fg_RX12_8 E hW rh0 dX12_agree_94 (fun a44953 m44954 r44955 => ?_)
                  obtain rfl : pR = a44953 := (m44869).symm.trans m44954
                  refine lv_sipush (v := 1164) hx hb dX12_agree_97 (by decide) ?_
                  refine lv_iconst (v := 2) hx hb dX12_agree_100 (by decide) ?_
                  refine lv_iload hx hb dX12_agree_101 (lv_at hl 0 rfl) ?_
                  refine q_imul (X := 2) hx hb dX12_agree_103 rfl rfl (by omega) (fun x44956 h44957 => ?_)
                  refine q_iadd (X := 1164) hx hb dX12_agree_104 rfl rfl (by omega) (fun x44958 h44959 => ?_)
                  refine gl_822 E hW rR ⟨by omega, by omega⟩ dX12_agree_105 (fun y44960 m44961 b44962 => ?_)
                  have z44963 : aI (f0 pR) (x44958 : Int32).toNatClampNeg = y44960 := ((congrFun m27 _).symm.trans m44961)
                  refine x_imul hx hb dX12_agree_106 (fun x44964 e44965 => ?_)
                  refine x_iadd hx hb dX12_agree_107 (fun x44966 e44967 => ?_)
                  refine lv_istore (lv' := [(7, .int x44966), (10, .int y44858), (9, .int y44860), (8, .int y44861), (6, .int y44135), (5, .int y44137), (4, .int y44138), (3, .int y44139), (0, .ref h0), (1, .int u1), (2, .int u2)]) hx hb dX12_agree_108 hl (by decide) rfl (fun ls hl => ?_)
                  refine lv_iload hx hb dX12_agree_110 (lv_at hl 3 rfl) ?_
                  refine lv_iload hx hb dX12_agree_112 (lv_at hl 4 rfl) ?_
                  refine lv_iload hx hb dX12_agree_114 (lv_at hl 1 rfl) ?_
                  refine x_ishr hx hb dX12_agree_116 (fun x44968 e44969 => ?_)
                  refine lv_iconst (v := 1) hx hb dX12_agree_117 (by decide) ?_
                  refine x_iand hx hb dX12_agree_118 (fun x44970 e44971 => ?_)
                  have q44972 := bit_1 (by omega) (by omega) e44969 e44971
                  have b44973 := bit_01 q44972
                  refine lv_aload_n hx hb dX12_agree_119 rfl (lv_at hl 8 rfl) ?_
                  refine fg_RX12_8 E hW rh0 dX12_agree_120 (fun a44974 m44975 r44976 => ?_)
                  obtain rfl : pR = a44974 := (m44954).symm.trans m44975
                  refine lv_sipush (v := 1164) hx hb dX12_agree_123 (by decide) ?_
                  refine lv_iconst (v := 2) hx hb dX12_agree_126 (by decide) ?_
                  refine lv_iload hx hb dX12_agree_127 (lv_at hl 1 rfl) ?_
                  refine q_imul (X := 2) hx hb dX12_agree_129 rfl rfl (by omega) (fun x44977 h44978 => ?_)
                  refine q_iadd (X := 1164) hx hb dX12_agree_130 rfl rfl (by omega) (fun x44979 h44980 => ?_)
                  refine lv_iconst (v := 1) hx hb dX12_agree_131 (by decide) ?_
                  refine q_iadd (Y := 1) hx hb dX12_agree_132 rfl rfl (by omega) (fun x44981 h44982 => ?_)
                  refine gl_822 E hW rR ⟨by omega, by omega⟩ dX12_agree_133 (fun y44983 m44984 b44985 => ?_)
                  have z44986 : aI (f0 pR) (x44981 : Int32).toNatClampNeg = y44983 := ((congrFun m27 _).symm.trans m44984)
                  refine x_imul hx hb dX12_agree_134 (fun x44987 e44988 => ?_)
                  refine x_iadd hx hb dX12_agree_135 (fun x44989 e44990 => ?_)
                  refine lv_istore (lv' := [(8, .int x44989), (7, .int x44966), (10, .int y44858), (9, .int y44860), (6, .int y44135), (5, .int y44137), (4, .int y44138), (3, .int y44139), (0, .ref h0), (1, .int u1), (2, .int u2)]) hx hb dX12_agree_136 hl (by decide) rfl (fun ls hl => ?_)
                  refine lv_iload hx hb dX12_agree_138 (lv_at hl 3 rfl) ?_
                  refine lv_iload hx hb dX12_agree_140 (lv_at hl 4 rfl) ?_
                  refine lv_iload hx hb dX12_agree_142 (lv_at hl 2 rfl) ?_
                  refine x_ishr hx hb dX12_agree_144 (fun x44991 e44992 => ?_)
                  refine lv_iconst (v := 1) hx hb dX12_agree_145 (by decide) ?_
                  refine x_iand hx hb dX12_agree_146 (fun x44993 e44994 => ?_)
                  have q44995 := bit_1 (by omega) (by omega) e44992 e44994
                  have b44996 := bit_01 q44995
                  refine x_iadd hx hb dX12_agree_147 (fun x44997 e44998 => ?_)
                  refine lv_istore (lv' := [(9, .int x44997), (8, .int x44989), (7, .int x44966), (10, .int y44858), (6, .int y44135), (5, .int y44137), (4, .int y44138), (3, .int y44139), (0, .ref h0), (1, .int u1), (2, .int u2)]) hx hb dX12_agree_148 hl (by decide) rfl (fun ls hl => ?_)
                  refine q_iinc hx hb dX12_agree_150 hl (k := 3) rfl rfl rfl (by omega) (by decide) (fun i44999 ls h45000 hl => ?_)
                  have hl : lv_has ls 11 [(10, .int i44999), (9, .int x44997), (8, .int x44989), (7, .int x44966), (6, .int y44135), (5, .int y44137), (4, .int y44138), (3, .int y44139), (0, .ref h0), (1, .int u1), (2, .int u2)] := hl
                  refine lv_goto (tgt := 72) hx hb dX12_agree_153 (by decide) ?_
                  exact ih72 i44999 x44997 x44989 x44966 (by omega) (by omega) (sm_m (gl := (fun j : Nat => aI (f0 pR) (1164 + 2 * j))) v44864 q44951 (g1_at z44963 (by omega) (by omega)) e44965 e44967 (by omega) (by omega)) (sm_m (gl := (fun j : Nat => aI (f0 pR) (1165 + 2 * j))) v44865 q44972 (g2_at z44986 (by omega) (by omega)) e44988 e44990 (by omega) (by omega)) (pc_m v44866 q44995 e44998 (by omega) (by omega)) (by omega) _ _ _ hW hF (lv_sub hl [0, 1, 2, 3, 4, 5, 6, 7, 8, 9, 10] rfl)
            have hk45001 : (0 : Int32).toInt = 0 := rfl
            have hk45002 : (0 : Int32).toInt = 0 := rfl
            have hk45003 : (0 : Int32).toInt = 0 := rfl
            have hk45004 : (0 : Int32).toInt = 0 := rfl
            exact L44867 10 0 0 0 0 (by decide) (by omega) rfl rfl rfl (by omega) _ _ _ hW hF (lv_sub hl [0, 1, 2, 3, 4, 5, 6, 7, 8, 9, 10] rfl)
      have hk45005 : (0 : Int32).toInt = 0 := rfl
      have hk45006 : (0 : Int32).toInt = 0 := rfl
      have hk45007 : (0 : Int32).toInt = 0 := rfl
      have hk45008 : ((-1) : Int32).toInt = -1 := rfl
      exact L44144 513 0 0 0 (-1) (by decide) (by decide) (by omega) rfl (Or.inl (by decide)) (by omega) _ _ _ hW hF (lv_sub hl [0, 1, 2, 3, 4, 5, 6] rfl)
    · have q45009 : (x18.toInt < (-10000 : Int) ∨ (10000 : Int) < x18.toInt) := by omega
      clear p26
      refine lv_iconst (v := (-1)) hx hb dX12_agree_33 (by decide) ?_
      exact e_I E hW rfl ⟨⟨_, rfl, (by rw [mR, mp6]; exact gAgree_0 (by omega))⟩, hF⟩ dX12_agree_34
