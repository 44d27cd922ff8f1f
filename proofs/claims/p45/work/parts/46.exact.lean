
def ms_X12_image_x : List (Nat × Nat) := [(12, 0), (12, 1), (823, 0), (825, 0)]
def po_X12_image_x (kp : Nat → Nat) (L : List Nat) (f0 : Nat → va_E) (h0 : Nat) (u1 : Int32) : Option Value → (Nat → va_E) → Prop := fun v f => (∃ r : Int32, v = some (.int r) ∧ ((r.toInt = 0 ∧ (0 ≤ u1.toInt ∧ u1.toInt ≤ 1)) ∨ (r.toInt = -1 ∧ ¬ (0 ≤ u1.toInt ∧ u1.toInt ≤ 1)))) ∧ FM kp L ms_X12_image_x f0 f ∧ (((0 ≤ u1.toInt ∧ u1.toInt ≤ 1) ∧ CP (aI (f0 (oR (f0 h0) 2))) (aI (f (oR (f0 h0) 3))) 0 (35942 * u1.toInt) 35942 ∧ ∀ j : Nat, ((j : Int) < 35942 * u1.toInt ∨ 35942 * u1.toInt + 35942 ≤ (j : Int)) → aI (f (oR (f0 h0) 3)) j = aI (f0 (oR (f0 h0) 3)) j) ∨ aI (f (oR (f0 h0) 3)) = aI (f0 (oR (f0 h0) 3)))
set_option maxHeartbeats 4000000 in
set_option maxRecDepth 100000 in
theorem c_X12_image_x (l : Launch) (G : va_G) (cI cJ cZ cD cR cT : ClassId) (kp : Nat → Nat) (L : List Nat) (f0 : Nat → va_E) (hTH : TH cI cJ cZ cD cR cT kp L f0) (sz : Nat) (h0 : Nat) (u1 : Int32) (rh0 : RK kp L h0 12) : Met l yX12_image (Cond.code yX12_image cX12_image 3 (some .int) :: wTab) ({ frames := 2, cells := 0, slots := 0, locals := 65 }) (va_Pc [.ref h0, .int u1] (PreW G (tys6 cI cJ cZ cD cR cT) (va_pl L f0) sz)) (QT (po_X12_image_x kp L f0 h0 u1) G cI cJ cZ cD cR cT (va_A (va_pl L f0) sz) kp L) 0 0 (va_A (va_pl L f0) sz) := by
  refine metT (by decide) (Nat.le_of_ble_eq_true rfl) hTH ?_
  intro p e s m below meth c A ls E hW hl
  obtain ⟨hx, hb, -, hml, hown, hts, -, -, -⟩ := id E
  have hF : FM kp L ms_X12_image_x f0 f0 := FM.rf
  have hl : lv_has ls 3 [(0, .ref h0), (1, .int u1)] := hl
  obtain ⟨pR, mR⟩ : ∃ x : Nat, oR (f0 h0) 2 = x := ⟨_, rfl⟩
  have rR : RK kp L pR 822 := by rw [← mR]; exact th_ref hTH rh0 (by decide) (by decide) rfl
  obtain ⟨pI, mI⟩ : ∃ x : Nat, oR (f0 h0) 3 = x := ⟨_, rfl⟩
  have rI : RK kp L pI 823 := by rw [← mI]; exact th_ref hTH rh0 (by decide) (by decide) rfl
  refine lv_aload_n hx hb dX12_image_0 rfl (lv_at hl 0 rfl) ?_
  refine lv_iconst (v := 0) hx hb dX12_image_1 (by decide) ?_
  refine fp_RX12_82 E hW rh0 dX12_image_2 (fun f1 H locs e2 n3 g4 hW => ?_)
  have hF := FM.tr hF g4 rfl
  refine lv_iload_n hx hb dX12_image_5 rfl (lv_at hl 1 rfl) ?_
  refine q_i2l hx hb dX12_image_6 rfl (fun x5 h6 => ?_)
  have hb7 : -2147483648 ≤ x5.toInt ∧ x5.toInt ≤ 2147483647 := by have := i32_b u1; omega
  refine lv_lconst (v := 0) hx hb dX12_image_7 (by decide) ?_
  refine lv_lconst (v := 1) hx hb dX12_image_8 (by decide) ?_
  refine t_callS (As := [.long x5, .long 0, .long 1]) (rest := []) E hW (c_X12_in l G cI cJ cZ cD cR cT kp L f1 hW.2.2.2 _ x5 0 1) wk_X12_in tw_1554 rfl ⟨Nat.le_of_ble_eq_true rfl, Nat.le_of_ble_eq_true rfl⟩ ⟨rfl, rfl⟩ hl.1 rfl (Nat.le_of_ble_eq_true rfl) dX12_image_9 ⟨Nat.le_of_ble_eq_true rfl, Nat.le_of_ble_eq_true rfl⟩ (fun v8 f9 H locs q10 hW => ?_)
  obtain ⟨⟨x12, rfl, p13⟩, g11⟩ := q10
  have p13 : (x12.toInt = 1 ∧ 0 ≤ x5.toInt ∧ x5.toInt ≤ 1) ∨ (x12.toInt = 0 ∧ (x5.toInt < 0 ∨ 1 < x5.toInt)) := p13
  have hF := FM.tr hF g11 rfl
  refine q_if_ne (tgt := 21) hx hb dX12_image_12 (by decide) rfl (fun c14 => ?_) (fun c14 => ?_)
  · have q15 : 0 ≤ x5.toInt ∧ x5.toInt ≤ 1 := by omega
    clear p13
    refine lv_iconst (v := 0) hx hb dX12_image_21 (by decide) ?_
    refine lv_istore_n (lv' := [(2, .int 0), (0, .ref h0), (1, .int u1)]) hx hb dX12_image_22 rfl hl (by decide) rfl (fun ls hl => ?_)
    have L1677 : ∀ (n : Nat), ∀ (f1669 : Nat → va_E) (y1673 : Int32) (m1670 : oI (f1669 h0) 0 = 0) (m1671 : oR (f1669 h0) 2 = pR) (m1672 : oR (f1669 h0) 3 = pI) (b1674 : (0 : Int) ≤ y1673.toInt ∧ y1673.toInt ≤ 35942) (v1675 : CP (aI (f0 pR)) (aI (f1669 pI)) (0) (35942 * u1.toInt) y1673.toInt) (v1676 : ∀ j : Nat, ((j : Int) < 35942 * u1.toInt ∨ 35942 * u1.toInt + 35942 ≤ (j : Int)) → aI (f1669 pI) j = aI (f0 pI) j) (hm : (35943 : Int) - y1673.toInt ≤ n) (H : Heap) (locs : List Loc) (ls : Array Slot), WS G cI cJ cZ cD cR cT A kp L f1669 s H locs → FM kp L ms_X12_image_x f0 f1669 → lv_has ls 3 [(2, .int y1673), (0, .ref h0), (1, .int u1)] → W p l e ({ frames := 2, cells := 0, slots := 0, locals := 65 }) s m ([.ref h0, .int u1] : List Value).toArray below meth c H locs 0 0 (MQ below (QT (po_X12_image_x kp L f0 h0 u1) G cI cJ cZ cD cR cT A kp L) ([.ref h0, .int u1] : List Value).toArray s 0 0 A) (F0 m 23 ls []) := by
      intro n
      induction n with
      | zero =>
        intro f1669 y1673 m1670 m1671 m1672 b1674 v1675 v1676 hm H locs ls hW hF hl
        have hz := i32_b y1673
        exfalso; omega
      | succ n ih =>
        intro f1669 y1673 m1670 m1671 m1672 b1674 v1675 v1676 hm H locs ls hW hF hl
        clear c14
        have ih23 := ih
        refine lv_iload_n hx hb dX12_image_23 rfl (lv_at hl 0 rfl) ?_
        refine lv_ldc (v := 35942) hx hb hown (hts _ tw_1390) dX12_image_24 ?_
        refine q_icmp_ge (Y := 35942) (tgt := 52) hx hb dX12_image_26 (by decide) rfl rfl (fun c1678 => ?_) (fun c1678 => ?_)
        · refine lv_aload_n hx hb dX12_image_52 rfl (lv_at hl 1 rfl) ?_
          refine fg_RX12_21 E hW rh0 dX12_image_53 (fun a1679 m1680 r1681 => ?_)
          refine lv_iload_n hx hb dX12_image_56 rfl (lv_at hl 2 rfl) ?_
          refine lv_iconst (v := 1) hx hb dX12_image_57 (by decide) ?_
          refine gs_825 E hW r1681 ⟨by omega, by omega⟩ (by decide) dX12_image_58 (fun f1682 H locs e1683 n1684 g1685 hW => ?_)
          have hF := FM.tr hF g1685 rfl
          refine lv_aload_n hx hb dX12_image_59 rfl (lv_at hl 1 rfl) ?_
          refine lv_iconst (v := 0) hx hb dX12_image_60 (by decide) ?_
          refine t_callV (As := [.int 0]) (rest := []) E hW (c_X12_told_x l G cI cJ cZ cD cR cT kp L f1682 hW.2.2.2 _ h0 0 rh0) rh0 (by decide) rfl wk_X12_told tw_1557 rfl ⟨Nat.le_of_ble_eq_true rfl, Nat.le_of_ble_eq_true rfl⟩ ⟨rfl, rfl⟩ hl.1 rfl (Nat.le_of_ble_eq_true rfl) dX12_image_61 ⟨Nat.le_of_ble_eq_true rfl, Nat.le_of_ble_eq_true rfl⟩ (fun v1686 f1687 H locs q1688 hW => ?_)
          obtain ⟨⟨x1690, rfl, p1691⟩, g1689⟩ := q1688
          have p1691 : x1690.toInt = 0 := p1691
          have hF := FM.tr hF g1689 rfl
          exact e_I E hW rfl ⟨⟨_, rfl, (by first | omega | trivial)⟩, hF, (Or.inl ⟨by omega, by rw [mR, mI]; rw [((congrArg aI (fm_A g1689 rI (by decide) rfl)).trans ((congrArg aI (fm_A g1685 rI (by decide) rfl)).trans rfl))]; exact cp_le v1675 (by omega), by rw [mI]; rw [((congrArg aI (fm_A g1689 rI (by decide) rfl)).trans ((congrArg aI (fm_A g1685 rI (by decide) rfl)).trans rfl))]; exact v1676⟩)⟩ dX12_image_64
        · refine lv_aload_n hx hb dX12_image_29 rfl (lv_at hl 1 rfl) ?_
          refine fg_RX12_15 E hW rh0 dX12_image_30 (fun a1692 m1693 r1694 => ?_)
          obtain rfl : pI = a1692 := (m1672).symm.trans m1693
          refine lv_ldc (v := 35942) hx hb hown (hts _ tw_1390) dX12_image_33 ?_
          refine lv_iload_n hx hb dX12_image_35 rfl (lv_at hl 2 rfl) ?_
          refine q_imul (X := 35942) hx hb dX12_image_36 rfl rfl (by omega) (fun x1695 h1696 => ?_)
          refine lv_iload_n hx hb dX12_image_37 rfl (lv_at hl 0 rfl) ?_
          refine q_iadd hx hb dX12_image_38 rfl rfl (by omega) (fun x1697 h1698 => ?_)
          refine lv_aload_n hx hb dX12_image_39 rfl (lv_at hl 1 rfl) ?_
          refine fg_RX12_8 E hW rh0 dX12_image_40 (fun a1699 m1700 r1701 => ?_)
          obtain rfl : pR = a1699 := (m1671).symm.trans m1700
          refine lv_iload_n hx hb dX12_image_43 rfl (lv_at hl 0 rfl) ?_
          refine gl_822 E hW rR ⟨by omega, by omega⟩ dX12_image_44 (fun y1702 m1703 b1704 => ?_)
          have m1705 : aI (f0 pR) (y1673 : Int32).toNatClampNeg = y1702 := by rw [← fm_A hF rR (by decide) rfl]; exact m1703
          refine gs_823 E hW rI ⟨by omega, by omega⟩ (fun hc => img_up (k := u1) (i := y1673) hc (by omega) (by omega) (by omega) (rr_at (show RowInv (aI (f0 pR)) from th_row hTH rR) m1705 (by omega))) dX12_image_45 (fun f1706 H locs e1707 n1708 g1709 hW => ?_)
          have hF := FM.tr hF g1709 rfl
          refine q_iinc hx hb dX12_image_46 hl (k := 0) rfl rfl rfl (by omega) (by decide) (fun i1710 ls h1711 hl => ?_)
          have hl : lv_has ls 3 [(2, .int i1710), (0, .ref h0), (1, .int u1)] := hl
          refine lv_goto (tgt := 23) hx hb dX12_image_49 (by decide) ?_
          exact ih23 f1706 i1710 ((fm_I g1709 rh0 rfl).trans m1670) ((fm_R g1709 rh0 rfl).trans m1700) ((fm_R g1709 rh0 rfl).trans m1693) (by omega) (cp_st v1675 e1707 m1705 (by omega) (by omega) (by omega) (by omega)) (cp_fr v1676 e1707 (by omega)) (by omega) _ _ _ hW hF (lv_sub hl [0, 1, 2] rfl)
    have hk1712 : (0 : Int32).toInt = 0 := rfl
    exact L1677 35943 f9 0 ((fm_I g11 rh0 rfl).trans e2) ((fm_R g11 rh0 rfl).trans ((fm_R g4 rh0 rfl).trans mR)) ((fm_R g11 rh0 rfl).trans ((fm_R g4 rh0 rfl).trans mI)) (by decide) (by have hk : (0 : Int32).toInt = 0 := rfl; rw [hk]; exact cp_0) (fun j _ => by rw [((congrArg aI (fm_A g11 rI (by decide) rfl)).trans ((congrArg aI (fm_A g4 rI (by decide) rfl)).trans rfl))]) (by omega) _ _ _ hW hF (lv_sub hl [0, 1, 2] rfl)
  · have q1713 : (x5.toInt < 0 ∨ 1 < x5.toInt) := by omega
    clear p13
    refine lv_aload_n hx hb dX12_image_15 rfl (lv_at hl 0 rfl) ?_
    refine lv_iconst (v := (-1)) hx hb dX12_image_16 (by decide) ?_
    refine t_callV (As := [.int (-1)]) (rest := []) E hW (c_X12_told_x l G cI cJ cZ cD cR cT kp L f9 hW.2.2.2 _ h0 (-1) rh0) rh0 (by decide) rfl wk_X12_told tw_1557 rfl ⟨Nat.le_of_ble_eq_true rfl, Nat.le_of_ble_eq_true rfl⟩ ⟨rfl, rfl⟩ hl.1 rfl (Nat.le_of_ble_eq_true rfl) dX12_image_17 ⟨Nat.le_of_ble_eq_true rfl, Nat.le_of_ble_eq_true rfl⟩ (fun v1714 f1715 H locs q1716 hW => ?_)
    obtain ⟨⟨x1718, rfl, p1719⟩, g1717⟩ := q1716
    have p1719 : x1718.toInt = (-1) := p1719
    have hF := FM.tr hF g1717 rfl
    exact e_I E hW rfl ⟨⟨_, rfl, (by first | omega | trivial)⟩, hF, (Or.inr (by rw [mI]; exact ((congrArg aI (fm_A g1717 rI (by decide) rfl)).trans ((congrArg aI (fm_A g11 rI (by decide) rfl)).trans ((congrArg aI (fm_A g4 rI (by decide) rfl)).trans rfl)))))⟩ dX12_image_20
def ms_X11_image_x : List (Nat × Nat) := [(0, 6), (0, 9), (0, 12), (0, 13), (1, 0), (1, 8), (1, 12), (1, 13), (1, 14), (2, 0), (3, 0), (3, 1), (3, 2), (3, 3), (4, 0), (10, 0), (10, 7), (11, 4), (11, 5), (11, 15), (108, 0), (161, 0), (162, 0), (163, 0), (164, 0), (165, 0), (166, 0), (167, 0), (169, 0), (170, 0), (171, 0), (221, 0), (284, 0), (285, 0), (341, 0), (342, 0), (343, 0), (344, 0), (345, 0), (346, 0), (347, 0), (348, 0), (520, 0), (521, 0), (701, 0), (702, 0), (703, 0), (704, 0), (705, 0), (706, 0), (708, 0), (709, 0), (710, 0)]
def po_X11_image_x (kp : Nat → Nat) (L : List Nat) (f0 : Nat → va_E) (h0 : Nat) (u1 : Int32) : Option Value → (Nat → va_E) → Prop := fun v f => (∃ r : Int32, v = some (.int r) ∧ ((r.toInt = 0 ∧ (0 ≤ u1.toInt ∧ u1.toInt ≤ 1)) ∨ (r.toInt = -1 ∧ ¬ (0 ≤ u1.toInt ∧ u1.toInt ≤ 1)))) ∧ FM kp L ms_X11_image_x f0 f
set_option maxHeartbeats 4000000 in
set_option maxRecDepth 100000 in
theorem c_X11_image_x (l : Launch) (G : va_G) (cI cJ cZ cD cR cT : ClassId) (kp : Nat → Nat) (L : List Nat) (f0 : Nat → va_E) (hTH : TH cI cJ cZ cD cR cT kp L f0) (sz : Nat) (h0 : Nat) (u1 : Int32) (rh0 : RK kp L h0 11) : Met l yX11_image (Cond.code yX11_image cX11_image 2 (some .int) :: wTab) ({ frames := 3, cells := 0, slots := 0, locals := 103 }) (va_Pc [.ref h0, .int u1] (PreW G (tys6 cI cJ cZ cD cR cT) (va_pl L f0) sz)) (QT (po_X11_image_x kp L f0 h0 u1) G cI cJ cZ cD cR cT (va_A (va_pl L f0) sz) kp L) 0 0 (va_A (va_pl L f0) sz) := by
  refine metT (by decide) (Nat.le_of_ble_eq_true rfl) hTH ?_
  intro p e s m below meth c A ls E hW hl
  obtain ⟨hx, hb, -, hml, hown, hts, -, -, -⟩ := id E
  have hF : FM kp L ms_X11_image_x f0 f0 := FM.rf
  have hl : lv_has ls 2 [(0, .ref h0), (1, .int u1)] := hl
  refine lv_iload_n hx hb dX11_image_0 rfl (lv_at hl 1 rfl) ?_
  refine lv_iconst (v := 0) hx hb dX11_image_1 (by decide) ?_
  refine lv_iconst (v := 1) hx hb dX11_image_2 (by decide) ?_
  refine t_callS (As := [.int u1, .int 0, .int 1]) (rest := []) E hW (c_X11_within l G cI cJ cZ cD cR cT kp L f0 hW.2.2.2 _ u1 0 1 (by decide)) wk_X11_within tw_599 rfl ⟨Nat.le_of_ble_eq_true rfl, Nat.le_of_ble_eq_true rfl⟩ ⟨rfl, rfl⟩ hl.1 rfl (Nat.le_of_ble_eq_true rfl) dX11_image_3 ⟨Nat.le_of_ble_eq_true rfl, Nat.le_of_ble_eq_true rfl⟩ (fun v1 f2 H locs q3 hW => ?_)
  obtain ⟨⟨x5, rfl, p6⟩, g4⟩ := q3
  have p6 : (x5.toInt = 1 ∧ 0 ≤ u1.toInt ∧ u1.toInt ≤ 1) ∨ (x5.toInt = 0 ∧ (u1.toInt < 0 ∨ 1 < u1.toInt)) := p6
  have hF := FM.tr hF g4 rfl
  refine q_if_ne (tgt := 15) hx hb dX11_image_6 (by decide) rfl (fun c7 => ?_) (fun c7 => ?_)
  · have q8 : 0 ≤ u1.toInt ∧ u1.toInt ≤ 1 := by omega
    clear p6
    refine lv_iload_n hx hb dX11_image_15 rfl (lv_at hl 1 rfl) ?_
    refine q_if_ne (tgt := 38) hx hb dX11_image_16 (by decide) rfl (fun c9 => ?_) (fun c9 => ?_)
    · refine lv_aload_n hx hb dX11_image_38 rfl (lv_at hl 0 rfl) ?_
      refine fg_RX11_24 E hW rh0 dX11_image_39 (fun a10 m11 r12 => ?_)
      refine lv_aload_n hx hb dX11_image_42 rfl (lv_at hl 0 rfl) ?_
      refine fg_RX11_12 E hW rh0 dX11_image_43 (fun a13 m14 r15 => ?_)
      refine t_callV (As := [.ref a13]) (rest := []) E hW (c_X0_copyFrom l G cI cJ cZ cD cR cT kp L f2 hW.2.2.2 _ a10 a13 r12 r15) r12 (by decide) rfl wk_X0_copyFrom tw_1285 rfl ⟨Nat.le_of_ble_eq_true rfl, Nat.le_of_ble_eq_true rfl⟩ ⟨rfl, rfl⟩ hl.1 rfl (Nat.le_of_ble_eq_true rfl) dX11_image_46 ⟨Nat.le_of_ble_eq_true rfl, Nat.le_of_ble_eq_true rfl⟩ (fun v16 f17 H locs q18 hW => ?_)
      obtain ⟨rfl, g19⟩ := q18
      have hF := FM.tr hF g19 rfl
      refine lv_aload_n hx hb dX11_image_49 rfl (lv_at hl 0 rfl) ?_
      refine lv_iconst (v := 1) hx hb dX11_image_50 (by decide) ?_
      refine fp_RX11_353 E hW rh0 (by decide) dX11_image_51 (fun f20 H locs e21 n22 g23 hW => ?_)
      have hF := FM.tr hF g23 rfl
      refine lv_aload_n hx hb dX11_image_54 rfl (lv_at hl 0 rfl) ?_
      refine lv_iconst (v := 0) hx hb dX11_image_55 (by decide) ?_
      refine t_callV (As := [.int 0]) (rest := []) E hW (c_X11_accept_x l G cI cJ cZ cD cR cT kp L f20 hW.2.2.2 _ h0 0 rh0) rh0 (by decide) rfl wk_X11_accept tw_611 rfl ⟨Nat.le_of_ble_eq_true rfl, Nat.le_of_ble_eq_true rfl⟩ ⟨rfl, rfl⟩ hl.1 rfl (Nat.le_of_ble_eq_true rfl) dX11_image_56 ⟨Nat.le_of_ble_eq_true rfl, Nat.le_of_ble_eq_true rfl⟩ (fun v24 f25 H locs q26 hW => ?_)
      obtain ⟨⟨x28, rfl, p29⟩, g27⟩ := q26
      have p29 : x28.toInt = 0 := p29
      have hF := FM.tr hF g27 rfl
      exact e_I E hW rfl ⟨⟨_, rfl, (by first | omega | trivial)⟩, hF⟩ dX11_image_59
    · refine lv_aload_n hx hb dX11_image_19 rfl (lv_at hl 0 rfl) ?_
      refine fg_RX11_21 E hW rh0 dX11_image_20 (fun a30 m31 r32 => ?_)
      refine lv_aload_n hx hb dX11_image_23 rfl (lv_at hl 0 rfl) ?_
      refine fg_RX11_12 E hW rh0 dX11_image_24 (fun a33 m34 r35 => ?_)
      refine t_callV (As := [.ref a33]) (rest := []) E hW (c_X0_copyFrom l G cI cJ cZ cD cR cT kp L f2 hW.2.2.2 _ a30 a33 r32 r35) r32 (by decide) rfl wk_X0_copyFrom tw_1285 rfl ⟨Nat.le_of_ble_eq_true rfl, Nat.le_of_ble_eq_true rfl⟩ ⟨rfl, rfl⟩ hl.1 rfl (Nat.le_of_ble_eq_true rfl) dX11_image_27 ⟨Nat.le_of_ble_eq_true rfl, Nat.le_of_ble_eq_true rfl⟩ (fun v36 f37 H locs q38 hW => ?_)
      obtain ⟨rfl, g39⟩ := q38
      have hF := FM.tr hF g39 rfl
      refine lv_aload_n hx hb dX11_image_30 rfl (lv_at hl 0 rfl) ?_
      refine lv_iconst (v := 1) hx hb dX11_image_31 (by decide) ?_
      refine fp_RX11_349 E hW rh0 (by decide) dX11_image_32 (fun f40 H locs e41 n42 g43 hW => ?_)
      have hF := FM.tr hF g43 rfl
      refine lv_goto (tgt := 54) hx hb dX11_image_35 (by decide) ?_
      refine lv_aload_n hx hb dX11_image_54 rfl (lv_at hl 0 rfl) ?_
      refine lv_iconst (v := 0) hx hb dX11_image_55 (by decide) ?_
      refine t_callV (As := [.int 0]) (rest := []) E hW (c_X11_accept_x l G cI cJ cZ cD cR cT kp L f40 hW.2.2.2 _ h0 0 rh0) rh0 (by decide) rfl wk_X11_accept tw_611 rfl ⟨Nat.le_of_ble_eq_true rfl, Nat.le_of_ble_eq_true rfl⟩ ⟨rfl, rfl⟩ hl.1 rfl (Nat.le_of_ble_eq_true rfl) dX11_image_56 ⟨Nat.le_of_ble_eq_true rfl, Nat.le_of_ble_eq_true rfl⟩ (fun v44 f45 H locs q46 hW => ?_)
      obtain ⟨⟨x48, rfl, p49⟩, g47⟩ := q46
      have p49 : x48.toInt = 0 := p49
      have hF := FM.tr hF g47 rfl
      exact e_I E hW rfl ⟨⟨_, rfl, (by first | omega | trivial)⟩, hF⟩ dX11_image_59
  · have q50 : (u1.toInt < 0 ∨ 1 < u1.toInt) := by omega
    clear p6
    refine lv_aload_n hx hb dX11_image_9 rfl (lv_at hl 0 rfl) ?_
    refine lv_iconst (v := (-1)) hx hb dX11_image_10 (by decide) ?_
    refine t_callV (As := [.int (-1)]) (rest := []) E hW (c_X11_refuse_x l G cI cJ cZ cD cR cT kp L f2 hW.2.2.2 _ h0 (-1) rh0 (by decide)) rh0 (by decide) rfl wk_X11_refuse tw_603 rfl ⟨Nat.le_of_ble_eq_true rfl, Nat.le_of_ble_eq_true rfl⟩ ⟨rfl, rfl⟩ hl.1 rfl (Nat.le_of_ble_eq_true rfl) dX11_image_11 ⟨Nat.le_of_ble_eq_true rfl, Nat.le_of_ble_eq_true rfl⟩ (fun v51 f52 H locs q53 hW => ?_)
    obtain ⟨⟨x55, rfl, p56⟩, g54⟩ := q53
    have p56 : x55.toInt = (-1) := p56
    have hF := FM.tr hF g54 rfl
    exact e_I E hW rfl ⟨⟨_, rfl, (by first | omega | trivial)⟩, hF⟩ dX11_image_14
def ms_X11_crops_x : List (Nat × Nat) := [(11, 12), (11, 15), (770, 0), (771, 0)]
def po_X11_crops_x (kp : Nat → Nat) (L : List Nat) (f0 : Nat → va_E) (h0 : Nat) (u1 : Int32) (u2 : Int32) : Option Value → (Nat → va_E) → Prop := fun v f => (∃ r : Int32, v = some (.int r) ∧ ((r.toInt = -1 ∧ ¬ ((0 ≤ u1.toInt ∧ u1.toInt ≤ 10000) ∧ 0 ≤ u2.toInt ∧ u2.toInt ≤ 10000) ∧ (oI (f h0) 12).toInt = (oI (f0 h0) 12).toInt) ∨ (r.toInt = -5 ∧ ((0 ≤ u1.toInt ∧ u1.toInt ≤ 10000) ∧ 0 ≤ u2.toInt ∧ u2.toInt ≤ 10000) ∧ 3 ≤ (oI (f0 h0) 12).toInt ∧ (oI (f h0) 12).toInt = (oI (f0 h0) 12).toInt) ∨ (r.toInt = (oI (f0 h0) 12).toInt + 1 ∧ ((0 ≤ u1.toInt ∧ u1.toInt ≤ 10000) ∧ 0 ≤ u2.toInt ∧ u2.toInt ≤ 10000) ∧ (oI (f0 h0) 12).toInt < 3 ∧ (oI (f h0) 12).toInt = r.toInt))) ∧ FM kp L ms_X11_crops_x f0 f
set_option maxHeartbeats 4000000 in
set_option maxRecDepth 100000 in
theorem c_X11_crops_x (l : Launch) (G : va_G) (cI cJ cZ cD cR cT : ClassId) (kp : Nat → Nat) (L : List Nat) (f0 : Nat → va_E) (hTH : TH cI cJ cZ cD cR cT kp L f0) (sz : Nat) (h0 : Nat) (u1 : Int32) (u2 : Int32) (rh0 : RK kp L h0 11) : Met l yX11_crops (Cond.code yX11_crops cX11_crops 3 (some .int) :: wTab) ({ frames := 2, cells := 0, slots := 0, locals := 62 }) (va_Pc [.ref h0, .int u1, .int u2] (PreW G (tys6 cI cJ cZ cD cR cT) (va_pl L f0) sz)) (QT (po_X11_crops_x kp L f0 h0 u1 u2) G cI cJ cZ cD cR cT (va_A (va_pl L f0) sz) kp L) 0 0 (va_A (va_pl L f0) sz) := by
  refine metT (by decide) (Nat.le_of_ble_eq_true rfl) hTH ?_
  intro p e s m below meth c A ls E hW hl
  obtain ⟨hx, hb, -, hml, hown, hts, -, -, -⟩ := id E
  have hF : FM kp L ms_X11_crops_x f0 f0 := FM.rf
  have hl : lv_has ls 3 [(0, .ref h0), (1, .int u1), (2, .int u2)] := hl
  obtain ⟨pf12, mpf12⟩ : ∃ x : Int32, oI (f0 h0) 12 = x := ⟨_, rfl⟩
  refine lv_iload_n hx hb dX11_crops_0 rfl (lv_at hl 1 rfl) ?_
  refine lv_iconst (v := 0) hx hb dX11_crops_1 (by decide) ?_
  refine lv_sipush (v := 10000) hx hb dX11_crops_2 (by decide) ?_
  refine t_callS (As := [.int u1, .int 0, .int 10000]) (rest := []) E hW (c_X11_within l G cI cJ cZ cD cR cT kp L f0 hW.2.2.2 _ u1 0 10000 (by decide)) wk_X11_within tw_599 rfl ⟨Nat.le_of_ble_eq_true rfl, Nat.le_of_ble_eq_true rfl⟩ ⟨rfl, rfl⟩ hl.1 rfl (Nat.le_of_ble_eq_true rfl) dX11_crops_5 ⟨Nat.le_of_ble_eq_true rfl, Nat.le_of_ble_eq_true rfl⟩ (fun v1 f2 H locs q3 hW => ?_)
  obtain ⟨⟨x5, rfl, p6⟩, g4⟩ := q3
  have p6 : (x5.toInt = 1 ∧ 0 ≤ u1.toInt ∧ u1.toInt ≤ 10000) ∨ (x5.toInt = 0 ∧ (u1.toInt < 0 ∨ 10000 < u1.toInt)) := p6
  have hF := FM.tr hF g4 rfl
  refine q_if_eq (tgt := 22) hx hb dX11_crops_8 (by decide) rfl (fun c7 => ?_) (fun c7 => ?_)
  · have q8 : (u1.toInt < 0 ∨ 10000 < u1.toInt) := by omega
    clear p6
    refine lv_aload_n hx hb dX11_crops_22 rfl (lv_at hl 0 rfl) ?_
    refine lv_iconst (v := (-1)) hx hb dX11_crops_23 (by decide) ?_
    refine t_callV (As := [.int (-1)]) (rest := []) E hW (c_X11_refuse_x l G cI cJ cZ cD cR cT kp L f2 hW.2.2.2 _ h0 (-1) rh0 (by decide)) rh0 (by decide) rfl wk_X11_refuse tw_603 rfl ⟨Nat.le_of_ble_eq_true rfl, Nat.le_of_ble_eq_true rfl⟩ ⟨rfl, rfl⟩ hl.1 rfl (Nat.le_of_ble_eq_true rfl) dX11_crops_24 ⟨Nat.le_of_ble_eq_true rfl, Nat.le_of_ble_eq_true rfl⟩ (fun v9 f10 H locs q11 hW => ?_)
    obtain ⟨⟨x13, rfl, p14⟩, g12⟩ := q11
    have p14 : x13.toInt = (-1) := p14
    have hF := FM.tr hF g12 rfl
    exact e_I E hW rfl ⟨⟨_, rfl, (by rw [((fm_I g12 rh0 rfl).trans ((fm_I g4 rh0 rfl).trans mpf12)), mpf12]; omega)⟩, hF⟩ dX11_crops_27
  · have q15 : 0 ≤ u1.toInt ∧ u1.toInt ≤ 10000 := by omega
    clear p6
    refine lv_iload_n hx hb dX11_crops_11 rfl (lv_at hl 2 rfl) ?_
    refine lv_iconst (v := 0) hx hb dX11_crops_12 (by decide) ?_
    refine lv_sipush (v := 10000) hx hb dX11_crops_13 (by decide) ?_
    refine t_callS (As := [.int u2, .int 0, .int 10000]) (rest := []) E hW (c_X11_within l G cI cJ cZ cD cR cT kp L f2 hW.2.2.2 _ u2 0 10000 (by decide)) wk_X11_within tw_599 rfl ⟨Nat.le_of_ble_eq_true rfl, Nat.le_of_ble_eq_true rfl⟩ ⟨rfl, rfl⟩ hl.1 rfl (Nat.le_of_ble_eq_true rfl) dX11_crops_16 ⟨Nat.le_of_ble_eq_true rfl, Nat.le_of_ble_eq_true rfl⟩ (fun v16 f17 H locs q18 hW => ?_)
    obtain ⟨⟨x20, rfl, p21⟩, g19⟩ := q18
    have p21 : (x20.toInt = 1 ∧ 0 ≤ u2.toInt ∧ u2.toInt ≤ 10000) ∨ (x20.toInt = 0 ∧ (u2.toInt < 0 ∨ 10000 < u2.toInt)) := p21
    have hF := FM.tr hF g19 rfl
    refine q_if_ne (tgt := 28) hx hb dX11_crops_19 (by decide) rfl (fun c22 => ?_) (fun c22 => ?_)
    · have q23 : 0 ≤ u2.toInt ∧ u2.toInt ≤ 10000 := by omega
      clear p21
      refine lv_aload_n hx hb dX11_crops_28 rfl (lv_at hl 0 rfl) ?_
      refine fg_RX11_312 E hW rh0 dX11_crops_29 (fun y24 m25 b26 => ?_)
      obtain rfl : pf12 = y24 := (((fm_I g19 rh0 rfl).trans ((fm_I g4 rh0 rfl).trans mpf12))).symm.trans m25
      refine lv_iconst (v := 3) hx hb dX11_crops_32 (by decide) ?_
      refine q_icmp_lt (Y := 3) (tgt := 43) hx hb dX11_crops_33 (by decide) rfl rfl (fun c27 => ?_) (fun c27 => ?_)
      · refine lv_aload_n hx hb dX11_crops_43 rfl (lv_at hl 0 rfl) ?_
        refine fg_RX11_45 E hW rh0 dX11_crops_44 (fun a28 m29 r30 => ?_)
        refine lv_aload_n hx hb dX11_crops_47 rfl (lv_at hl 0 rfl) ?_
        refine fg_RX11_312 E hW rh0 dX11_crops_48 (fun y31 m32 b33 => ?_)
        obtain rfl : pf12 = y31 := (m25).symm.trans m32
        refine lv_iload_n hx hb dX11_crops_51 rfl (lv_at hl 1 rfl) ?_
        refine gs_770 E hW r30 ⟨by omega, by omega⟩ dX11_crops_52 (fun f34 H locs e35 n36 g37 hW => ?_)
        have hF := FM.tr hF g37 rfl
        refine lv_aload_n hx hb dX11_crops_53 rfl (lv_at hl 0 rfl) ?_
        refine fg_RX11_48 E hW rh0 dX11_crops_54 (fun a38 m39 r40 => ?_)
        refine lv_aload_n hx hb dX11_crops_57 rfl (lv_at hl 0 rfl) ?_
        refine fg_RX11_312 E hW rh0 dX11_crops_58 (fun y41 m42 b43 => ?_)
        obtain rfl : pf12 = y41 := (((fm_I g37 rh0 rfl).trans m32)).symm.trans m42
        refine lv_iload_n hx hb dX11_crops_61 rfl (lv_at hl 2 rfl) ?_
        refine gs_771 E hW r40 ⟨by omega, by omega⟩ dX11_crops_62 (fun f44 H locs e45 n46 g47 hW => ?_)
        have hF := FM.tr hF g47 rfl
        refine lv_aload_n hx hb dX11_crops_63 rfl (lv_at hl 0 rfl) ?_
        refine lv_dup hx hb dX11_crops_64 rfl ?_
        refine fg_RX11_312 E hW rh0 dX11_crops_65 (fun y48 m49 b50 => ?_)
        obtain rfl : pf12 = y48 := (((fm_I g47 rh0 rfl).trans m42)).symm.trans m49
        refine lv_iconst (v := 1) hx hb dX11_crops_68 (by decide) ?_
        refine q_iadd (Y := 1) hx hb dX11_crops_69 rfl rfl (by omega) (fun x51 h52 => ?_)
        refine fp_RX11_312 E hW rh0 (by omega) dX11_crops_70 (fun f53 H locs e54 n55 g56 hW => ?_)
        have m57 : aI (f53 a28) (pf12 : Int32).toNatClampNeg = u1 := ((congrArg (fun z => aI z (pf12 : Int32).toNatClampNeg) (fm_A g56 r30 (by decide) rfl)).trans ((congrArg (fun z => aI z (pf12 : Int32).toNatClampNeg) (fm_A g47 r30 (by decide) rfl)).trans (show aI (f34 a28) (pf12 : Int32).toNatClampNeg = u1 from by rw [e35]; exact up_s)))
        have hF := FM.tr hF g56 rfl
        refine lv_aload_n hx hb dX11_crops_73 rfl (lv_at hl 0 rfl) ?_
        refine lv_aload_n hx hb dX11_crops_74 rfl (lv_at hl 0 rfl) ?_
        refine fg_RX11_312 E hW rh0 dX11_crops_75 (fun y58 m59 b60 => ?_)
        obtain rfl : x51 = y58 := (e54).symm.trans m59
        refine t_callV (As := [.int x51]) (rest := []) E hW (c_X11_accept_x l G cI cJ cZ cD cR cT kp L f53 hW.2.2.2 _ h0 x51 rh0) rh0 (by decide) rfl wk_X11_accept tw_611 rfl ⟨Nat.le_of_ble_eq_true rfl, Nat.le_of_ble_eq_true rfl⟩ ⟨rfl, rfl⟩ hl.1 rfl (Nat.le_of_ble_eq_true rfl) dX11_crops_78 ⟨Nat.le_of_ble_eq_true rfl, Nat.le_of_ble_eq_true rfl⟩ (fun v61 f62 H locs q63 hW => ?_)
        obtain ⟨⟨x65, rfl, p66⟩, g64⟩ := q63
        have m67 : aI (f62 a38) (pf12 : Int32).toNatClampNeg = u2 := ((congrArg (fun z => aI z (pf12 : Int32).toNatClampNeg) (fm_A g64 r40 (by decide) rfl)).trans ((congrArg (fun z => aI z (pf12 : Int32).toNatClampNeg) (fm_A g56 r40 (by decide) rfl)).trans (show aI (f44 a38) (pf12 : Int32).toNatClampNeg = u2 from by rw [e45]; exact up_s)))
        have hF := FM.tr hF g64 rfl
        exact e_I E hW rfl ⟨⟨_, rfl, (by rw [((fm_I g64 rh0 rfl).trans m59), mpf12]; omega)⟩, hF⟩ dX11_crops_81
      · refine lv_aload_n hx hb dX11_crops_36 rfl (lv_at hl 0 rfl) ?_
        refine lv_bipush (v := (-5)) hx hb dX11_crops_37 (by decide) ?_
        refine t_callV (As := [.int (-5)]) (rest := []) E hW (c_X11_refuse_x l G cI cJ cZ cD cR cT kp L f17 hW.2.2.2 _ h0 (-5) rh0 (by decide)) rh0 (by decide) rfl wk_X11_refuse tw_603 rfl ⟨Nat.le_of_ble_eq_true rfl, Nat.le_of_ble_eq_true rfl⟩ ⟨rfl, rfl⟩ hl.1 rfl (Nat.le_of_ble_eq_true rfl) dX11_crops_39 ⟨Nat.le_of_ble_eq_true rfl, Nat.le_of_ble_eq_true rfl⟩ (fun v68 f69 H locs q70 hW => ?_)
        obtain ⟨⟨x72, rfl, p73⟩, g71⟩ := q70
        have p73 : x72.toInt = (-5) := p73
        have hF := FM.tr hF g71 rfl
        exact e_I E hW rfl ⟨⟨_, rfl, (by rw [((fm_I g71 rh0 rfl).trans m25), mpf12]; omega)⟩, hF⟩ dX11_crops_42
    · have q74 : (u2.toInt < 0 ∨ 10000 < u2.toInt) := by omega
      clear p21
      refine lv_aload_n hx hb dX11_crops_22 rfl (lv_at hl 0 rfl) ?_
      refine lv_iconst (v := (-1)) hx hb dX11_crops_23 (by decide) ?_
      refine t_callV (As := [.int (-1)]) (rest := []) E hW (c_X11_refuse_x l G cI cJ cZ cD cR cT kp L f17 hW.2.2.2 _ h0 (-1) rh0 (by decide)) rh0 (by decide) rfl wk_X11_refuse tw_603 rfl ⟨Nat.le_of_ble_eq_true rfl, Nat.le_of_ble_eq_true rfl⟩ ⟨rfl, rfl⟩ hl.1 rfl (Nat.le_of_ble_eq_true rfl) dX11_crops_24 ⟨Nat.le_of_ble_eq_true rfl, Nat.le_of_ble_eq_true rfl⟩ (fun v75 f76 H locs q77 hW => ?_)
      obtain ⟨⟨x79, rfl, p80⟩, g78⟩ := q77
      have p80 : x79.toInt = (-1) := p80
      have hF := FM.tr hF g78 rfl
      exact e_I E hW rfl ⟨⟨_, rfl, (by rw [((fm_I g78 rh0 rfl).trans ((fm_I g19 rh0 rfl).trans ((fm_I g4 rh0 rfl).trans mpf12))), mpf12]; omega)⟩, hF⟩ dX11_crops_27
def ms_X12_crops_x : List (Nat × Nat) := [(12, 0), (12, 1), (12, 43), (864, 0), (865, 0)]
def po_X12_crops_x (kp : Nat → Nat) (L : List Nat) (f0 : Nat → va_E) (h0 : Nat) (u1 : Int32) (u2 : Int32) : Option Value → (Nat → va_E) → Prop := fun v f => (∃ r : Int32, v = some (.int r) ∧ ((r.toInt = -1 ∧ ¬ ((0 ≤ u1.toInt ∧ u1.toInt ≤ 10000) ∧ 0 ≤ u2.toInt ∧ u2.toInt ≤ 10000) ∧ (oI (f h0) 43).toInt = (oI (f0 h0) 43).toInt) ∨ (r.toInt = -5 ∧ ((0 ≤ u1.toInt ∧ u1.toInt ≤ 10000) ∧ 0 ≤ u2.toInt ∧ u2.toInt ≤ 10000) ∧ 3 ≤ (oI (f0 h0) 43).toInt ∧ (oI (f h0) 43).toInt = (oI (f0 h0) 43).toInt) ∨ (r.toInt = (oI (f0 h0) 43).toInt + 1 ∧ ((0 ≤ u1.toInt ∧ u1.toInt ≤ 10000) ∧ 0 ≤ u2.toInt ∧ u2.toInt ≤ 10000) ∧ (oI (f0 h0) 43).toInt < 3 ∧ (oI (f h0) 43).toInt = r.toInt))) ∧ FM kp L ms_X12_crops_x f0 f
set_option maxHeartbeats 4000000 in
set_option maxRecDepth 100000 in
theorem c_X12_crops_x (l : Launch) (G : va_G) (cI cJ cZ cD cR cT : ClassId) (kp : Nat → Nat) (L : List Nat) (f0 : Nat → va_E) (hTH : TH cI cJ cZ cD cR cT kp L f0) (sz : Nat) (h0 : Nat) (u1 : Int32) (u2 : Int32) (rh0 : RK kp L h0 12) : Met l yX12_crops (Cond.code yX12_crops cX12_crops 3 (some .int) :: wTab) ({ frames := 2, cells := 0, slots := 0, locals := 65 }) (va_Pc [.ref h0, .int u1, .int u2] (PreW G (tys6 cI cJ cZ cD cR cT) (va_pl L f0) sz)) (QT (po_X12_crops_x kp L f0 h0 u1 u2) G cI cJ cZ cD cR cT (va_A (va_pl L f0) sz) kp L) 0 0 (va_A (va_pl L f0) sz) := by
  refine metT (by decide) (Nat.le_of_ble_eq_true rfl) hTH ?_
  intro p e s m below meth c A ls E hW hl
  obtain ⟨hx, hb, -, hml, hown, hts, -, -, -⟩ := id E
  have hF : FM kp L ms_X12_crops_x f0 f0 := FM.rf
  have hl : lv_has ls 3 [(0, .ref h0), (1, .int u1), (2, .int u2)] := hl
  obtain ⟨pR, mR⟩ : ∃ x : Nat, oR (f0 h0) 2 = x := ⟨_, rfl⟩
  have rR : RK kp L pR 822 := by rw [← mR]; exact th_ref hTH rh0 (by decide) (by decide) rfl
  obtain ⟨pf43, mpf43⟩ : ∃ x : Int32, oI (f0 h0) 43 = x := ⟨_, rfl⟩
  refine lv_aload_n hx hb dX12_crops_0 rfl (lv_at hl 0 rfl) ?_
  refine lv_iconst (v := 0) hx hb dX12_crops_1 (by decide) ?_
  refine fp_RX12_82 E hW rh0 dX12_crops_2 (fun f1 H locs e2 n3 g4 hW => ?_)
  have hF := FM.tr hF g4 rfl
  refine lv_iload_n hx hb dX12_crops_5 rfl (lv_at hl 1 rfl) ?_
  refine q_i2l hx hb dX12_crops_6 rfl (fun x5 h6 => ?_)
  have hb7 : -2147483648 ≤ x5.toInt ∧ x5.toInt ≤ 2147483647 := by have := i32_b u1; omega
  refine lv_lconst (v := 0) hx hb dX12_crops_7 (by decide) ?_
  refine lv_ldc2 (v := 10000) hx hb hown (hts _ tw_1723) dX12_crops_8 ?_
  refine t_callS (As := [.long x5, .long 0, .long 10000]) (rest := []) E hW (c_X12_in l G cI cJ cZ cD cR cT kp L f1 hW.2.2.2 _ x5 0 10000) wk_X12_in tw_1554 rfl ⟨Nat.le_of_ble_eq_true rfl, Nat.le_of_ble_eq_true rfl⟩ ⟨rfl, rfl⟩ hl.1 rfl (Nat.le_of_ble_eq_true rfl) dX12_crops_11 ⟨Nat.le_of_ble_eq_true rfl, Nat.le_of_ble_eq_true rfl⟩ (fun v8 f9 H locs q10 hW => ?_)
  obtain ⟨⟨x12, rfl, p13⟩, g11⟩ := q10
  have p13 : (x12.toInt = 1 ∧ 0 ≤ x5.toInt ∧ x5.toInt ≤ 10000) ∨ (x12.toInt = 0 ∧ (x5.toInt < 0 ∨ 10000 < x5.toInt)) := p13
  have hF := FM.tr hF g11 rfl
  refine q_if_eq (tgt := 29) hx hb dX12_crops_14 (by decide) rfl (fun c14 => ?_) (fun c14 => ?_)
  · have q15 : (x5.toInt < 0 ∨ 10000 < x5.toInt) := by omega
    clear p13
    refine lv_aload_n hx hb dX12_crops_29 rfl (lv_at hl 0 rfl) ?_
    refine lv_iconst (v := (-1)) hx hb dX12_crops_30 (by decide) ?_
    refine t_callV (As := [.int (-1)]) (rest := []) E hW (c_X12_told_x l G cI cJ cZ cD cR cT kp L f9 hW.2.2.2 _ h0 (-1) rh0) rh0 (by decide) rfl wk_X12_told tw_1557 rfl ⟨Nat.le_of_ble_eq_true rfl, Nat.le_of_ble_eq_true rfl⟩ ⟨rfl, rfl⟩ hl.1 rfl (Nat.le_of_ble_eq_true rfl) dX12_crops_31 ⟨Nat.le_of_ble_eq_true rfl, Nat.le_of_ble_eq_true rfl⟩ (fun v16 f17 H locs q18 hW => ?_)
    obtain ⟨⟨x20, rfl, p21⟩, g19⟩ := q18
    have p21 : x20.toInt = (-1) := p21
    have hF := FM.tr hF g19 rfl
    exact e_I E hW rfl ⟨⟨_, rfl, (by rw [((fm_I g19 rh0 rfl).trans ((fm_I g11 rh0 rfl).trans ((fm_I g4 rh0 rfl).trans mpf43))), mpf43]; omega)⟩, hF⟩ dX12_crops_34
  · have q22 : 0 ≤ x5.toInt ∧ x5.toInt ≤ 10000 := by omega
    clear p13
    refine lv_iload_n hx hb dX12_crops_17 rfl (lv_at hl 2 rfl) ?_
    refine q_i2l hx hb dX12_crops_18 rfl (fun x23 h24 => ?_)
    have hb25 : -2147483648 ≤ x23.toInt ∧ x23.toInt ≤ 2147483647 := by have := i32_b u2; omega
    refine lv_lconst (v := 0) hx hb dX12_crops_19 (by decide) ?_
    refine lv_ldc2 (v := 10000) hx hb hown (hts _ tw_1723) dX12_crops_20 ?_
    refine t_callS (As := [.long x23, .long 0, .long 10000]) (rest := []) E hW (c_X12_in l G cI cJ cZ cD cR cT kp L f9 hW.2.2.2 _ x23 0 10000) wk_X12_in tw_1554 rfl ⟨Nat.le_of_ble_eq_true rfl, Nat.le_of_ble_eq_true rfl⟩ ⟨rfl, rfl⟩ hl.1 rfl (Nat.le_of_ble_eq_true rfl) dX12_crops_23 ⟨Nat.le_of_ble_eq_true rfl, Nat.le_of_ble_eq_true rfl⟩ (fun v26 f27 H locs q28 hW => ?_)
    obtain ⟨⟨x30, rfl, p31⟩, g29⟩ := q28
    have p31 : (x30.toInt = 1 ∧ 0 ≤ x23.toInt ∧ x23.toInt ≤ 10000) ∨ (x30.toInt = 0 ∧ (x23.toInt < 0 ∨ 10000 < x23.toInt)) := p31
    have hF := FM.tr hF g29 rfl
    refine q_if_ne (tgt := 35) hx hb dX12_crops_26 (by decide) rfl (fun c32 => ?_) (fun c32 => ?_)
    · have q33 : 0 ≤ x23.toInt ∧ x23.toInt ≤ 10000 := by omega
      clear p31
      refine lv_aload_n hx hb dX12_crops_35 rfl (lv_at hl 0 rfl) ?_
      refine fg_RX12_504 E hW rh0 dX12_crops_36 (fun y34 m35 b36 => ?_)
      obtain rfl : pf43 = y34 := (((fm_I g29 rh0 rfl).trans ((fm_I g11 rh0 rfl).trans ((fm_I g4 rh0 rfl).trans mpf43)))).symm.trans m35
      refine lv_iconst (v := 3) hx hb dX12_crops_39 (by decide) ?_
      refine q_icmp_ne (Y := 3) (tgt := 50) hx hb dX12_crops_40 (by decide) rfl rfl (fun c37 => ?_) (fun c37 => ?_)
      · refine lv_aload_n hx hb dX12_crops_50 rfl (lv_at hl 0 rfl) ?_
        refine fg_RX12_76 E hW rh0 dX12_crops_51 (fun a38 m39 r40 => ?_)
        refine lv_aload_n hx hb dX12_crops_54 rfl (lv_at hl 0 rfl) ?_
        refine fg_RX12_504 E hW rh0 dX12_crops_55 (fun y41 m42 b43 => ?_)
        obtain rfl : pf43 = y41 := (m35).symm.trans m42
        refine lv_iload_n hx hb dX12_crops_58 rfl (lv_at hl 1 rfl) ?_
        refine gs_864 E hW r40 ⟨by omega, by omega⟩ dX12_crops_59 (fun f44 H locs e45 n46 g47 hW => ?_)
        have hF := FM.tr hF g47 rfl
        refine lv_aload_n hx hb dX12_crops_60 rfl (lv_at hl 0 rfl) ?_
        refine fg_RX12_79 E hW rh0 dX12_crops_61 (fun a48 m49 r50 => ?_)
        refine lv_aload_n hx hb dX12_crops_64 rfl (lv_at hl 0 rfl) ?_
        refine fg_RX12_504 E hW rh0 dX12_crops_65 (fun y51 m52 b53 => ?_)
        obtain rfl : pf43 = y51 := (((fm_I g47 rh0 rfl).trans m42)).symm.trans m52
        refine lv_iload_n hx hb dX12_crops_68 rfl (lv_at hl 2 rfl) ?_
        refine gs_865 E hW r50 ⟨by omega, by omega⟩ dX12_crops_69 (fun f54 H locs e55 n56 g57 hW => ?_)
        have hF := FM.tr hF g57 rfl
        refine lv_aload_n hx hb dX12_crops_70 rfl (lv_at hl 0 rfl) ?_
        refine lv_dup hx hb dX12_crops_71 rfl ?_
        refine fg_RX12_504 E hW rh0 dX12_crops_72 (fun y58 m59 b60 => ?_)
        obtain rfl : pf43 = y58 := (((fm_I g57 rh0 rfl).trans m52)).symm.trans m59
        refine lv_iconst (v := 1) hx hb dX12_crops_75 (by decide) ?_
        refine q_iadd (Y := 1) hx hb dX12_crops_76 rfl rfl (by omega) (fun x61 h62 => ?_)
        refine fp_RX12_504 E hW rh0 (by omega) dX12_crops_77 (fun f63 H locs e64 n65 g66 hW => ?_)
        have m67 : aI (f63 a38) (pf43 : Int32).toNatClampNeg = u1 := ((congrArg (fun z => aI z (pf43 : Int32).toNatClampNeg) (fm_A g66 r40 (by decide) rfl)).trans ((congrArg (fun z => aI z (pf43 : Int32).toNatClampNeg) (fm_A g57 r40 (by decide) rfl)).trans (show aI (f44 a38) (pf43 : Int32).toNatClampNeg = u1 from by rw [e45]; exact up_s)))
        have hF := FM.tr hF g66 rfl
        refine lv_aload_n hx hb dX12_crops_80 rfl (lv_at hl 0 rfl) ?_
        refine lv_aload_n hx hb dX12_crops_81 rfl (lv_at hl 0 rfl) ?_
        refine fg_RX12_504 E hW rh0 dX12_crops_82 (fun y68 m69 b70 => ?_)
        obtain rfl : x61 = y68 := (e64).symm.trans m69
        refine t_callV (As := [.int x61]) (rest := []) E hW (c_X12_told_x l G cI cJ cZ cD cR cT kp L f63 hW.2.2.2 _ h0 x61 rh0) rh0 (by decide) rfl wk_X12_told tw_1557 rfl ⟨Nat.le_of_ble_eq_true rfl, Nat.le_of_ble_eq_true rfl⟩ ⟨rfl, rfl⟩ hl.1 rfl (Nat.le_of_ble_eq_true rfl) dX12_crops_85 ⟨Nat.le_of_ble_eq_true rfl, Nat.le_of_ble_eq_true rfl⟩ (fun v71 f72 H locs q73 hW => ?_)
        obtain ⟨⟨x75, rfl, p76⟩, g74⟩ := q73
        have m77 : oR (f72 h0) 2 = pR := ((fm_R g74 rh0 rfl).trans ((fm_R g66 rh0 rfl).trans ((fm_R g57 rh0 rfl).trans ((fm_R g47 rh0 rfl).trans ((fm_R g29 rh0 rfl).trans ((fm_R g11 rh0 rfl).trans ((fm_R g4 rh0 rfl).trans mR)))))))
        have m78 : aI (f72 a48) (pf43 : Int32).toNatClampNeg = u2 := ((congrArg (fun z => aI z (pf43 : Int32).toNatClampNeg) (fm_A g74 r50 (by decide) rfl)).trans ((congrArg (fun z => aI z (pf43 : Int32).toNatClampNeg) (fm_A g66 r50 (by decide) rfl)).trans (show aI (f54 a48) (pf43 : Int32).toNatClampNeg = u2 from by rw [e55]; exact up_s)))
        have hF := FM.tr hF g74 rfl
        exact e_I E hW rfl ⟨⟨_, rfl, (by rw [((fm_I g74 rh0 rfl).trans m69), mpf43]; omega)⟩, hF⟩ dX12_crops_88
      · refine lv_aload_n hx hb dX12_crops_43 rfl (lv_at hl 0 rfl) ?_
        refine lv_bipush (v := (-5)) hx hb dX12_crops_44 (by decide) ?_
        refine t_callV (As := [.int (-5)]) (rest := []) E hW (c_X12_told_x l G cI cJ cZ cD cR cT kp L f27 hW.2.2.2 _ h0 (-5) rh0) rh0 (by decide) rfl wk_X12_told tw_1557 rfl ⟨Nat.le_of_ble_eq_true rfl, Nat.le_of_ble_eq_true rfl⟩ ⟨rfl, rfl⟩ hl.1 rfl (Nat.le_of_ble_eq_true rfl) dX12_crops_46 ⟨Nat.le_of_ble_eq_true rfl, Nat.le_of_ble_eq_true rfl⟩ (fun v79 f80 H locs q81 hW => ?_)
        obtain ⟨⟨x83, rfl, p84⟩, g82⟩ := q81
        have p84 : x83.toInt = (-5) := p84
        have hF := FM.tr hF g82 rfl
        exact e_I E hW rfl ⟨⟨_, rfl, (by rw [((fm_I g82 rh0 rfl).trans m35), mpf43]; omega)⟩, hF⟩ dX12_crops_49
    · have q85 : (x23.toInt < 0 ∨ 10000 < x23.toInt) := by omega
      clear p31
      refine lv_aload_n hx hb dX12_crops_29 rfl (lv_at hl 0 rfl) ?_
      refine lv_iconst (v := (-1)) hx hb dX12_crops_30 (by decide) ?_
      refine t_callV (As := [.int (-1)]) (rest := []) E hW (c_X12_told_x l G cI cJ cZ cD cR cT kp L f27 hW.2.2.2 _ h0 (-1) rh0) rh0 (by decide) rfl wk_X12_told tw_1557 rfl ⟨Nat.le_of_ble_eq_true rfl, Nat.le_of_ble_eq_true rfl⟩ ⟨rfl, rfl⟩ hl.1 rfl (Nat.le_of_ble_eq_true rfl) dX12_crops_31 ⟨Nat.le_of_ble_eq_true rfl, Nat.le_of_ble_eq_true rfl⟩ (fun v86 f87 H locs q88 hW => ?_)
      obtain ⟨⟨x90, rfl, p91⟩, g89⟩ := q88
      have p91 : x90.toInt = (-1) := p91
      have hF := FM.tr hF g89 rfl
      exact e_I E hW rfl ⟨⟨_, rfl, (by rw [((fm_I g89 rh0 rfl).trans ((fm_I g29 rh0 rfl).trans ((fm_I g11 rh0 rfl).trans ((fm_I g4 rh0 rfl).trans mpf43)))), mpf43]; omega)⟩, hF⟩ dX12_crops_34
def ms_X11_clear_x : List (Nat × Nat) := [(11, 9), (11, 12)]
def po_X11_clear_x (kp : Nat → Nat) (L : List Nat) (f0 : Nat → va_E) (h0 : Nat) : Option Value → (Nat → va_E) → Prop := fun v f => (∃ r : Int32, v = some (.int r) ∧ ((0 : Int) ≤ r.toInt ∧ r.toInt ≤ 6)) ∧ FM kp L ms_X11_clear_x f0 f ∧ ((oI (f h0) 12).toInt = 0)
set_option maxHeartbeats 4000000 in
set_option maxRecDepth 100000 in
theorem c_X11_clear_x (l : Launch) (G : va_G) (cI cJ cZ cD cR cT : ClassId) (kp : Nat → Nat) (L : List Nat) (f0 : Nat → va_E) (hTH : TH cI cJ cZ cD cR cT kp L f0) (sz : Nat) (h0 : Nat) (rh0 : RK kp L h0 11) : Met l yX11_clear (Cond.code yX11_clear cX11_clear 2 (some .int) :: wTab) ({ frames := 1, cells := 0, slots := 0, locals := 40 }) (va_Pc [.ref h0] (PreW G (tys6 cI cJ cZ cD cR cT) (va_pl L f0) sz)) (QT (po_X11_clear_x kp L f0 h0) G cI cJ cZ cD cR cT (va_A (va_pl L f0) sz) kp L) 0 0 (va_A (va_pl L f0) sz) := by
  refine metT (by decide) (Nat.le_of_ble_eq_true rfl) hTH ?_
  intro p e s m below meth c A ls E hW hl
  obtain ⟨hx, hb, -, hml, hown, hts, -, -, -⟩ := id E
  have hF : FM kp L ms_X11_clear_x f0 f0 := FM.rf
  have hl : lv_has ls 2 [(0, .ref h0)] := hl
  refine lv_aload_n hx hb dX11_clear_0 rfl (lv_at hl 0 rfl) ?_
  refine fg_RX11_309 E hW rh0 dX11_clear_1 (fun y1 m2 b3 => ?_)
  refine lv_istore_n (lv' := [(1, .int y1), (0, .ref h0)]) hx hb dX11_clear_4 rfl hl (by decide) rfl (fun ls hl => ?_)
  refine lv_aload_n hx hb dX11_clear_5 rfl (lv_at hl 1 rfl) ?_
  refine lv_iconst (v := 0) hx hb dX11_clear_6 (by decide) ?_
  refine fp_RX11_309 E hW rh0 (by decide) dX11_clear_7 (fun f4 H locs e5 n6 g7 hW => ?_)
  have hF := FM.tr hF g7 rfl
  refine lv_aload_n hx hb dX11_clear_10 rfl (lv_at hl 1 rfl) ?_
  refine lv_iconst (v := 0) hx hb dX11_clear_11 (by decide) ?_
  refine fp_RX11_312 E hW rh0 (by decide) dX11_clear_12 (fun f8 H locs e9 n10 g11 hW => ?_)
  have hF := FM.tr hF g11 rfl
  refine lv_iload_n hx hb dX11_clear_15 rfl (lv_at hl 0 rfl) ?_
  exact e_I E hW rfl ⟨⟨_, rfl, (by first | omega | trivial)⟩, hF, (by rw [e9]; rfl)⟩ dX11_clear_16
def ms_X12_clear_x : List (Nat × Nat) := [(12, 0), (12, 41), (12, 43)]
def po_X12_clear_x (kp : Nat → Nat) (L : List Nat) (f0 : Nat → va_E) (h0 : Nat) : Option Value → (Nat → va_E) → Prop := fun v f => (∃ r : Int32, v = some (.int r) ∧ ((0 : Int) ≤ r.toInt ∧ r.toInt ≤ 6)) ∧ FM kp L ms_X12_clear_x f0 f ∧ ((oI (f h0) 43).toInt = 0)
set_option maxHeartbeats 4000000 in
set_option maxRecDepth 100000 in
theorem c_X12_clear_x (l : Launch) (G : va_G) (cI cJ cZ cD cR cT : ClassId) (kp : Nat → Nat) (L : List Nat) (f0 : Nat → va_E) (hTH : TH cI cJ cZ cD cR cT kp L f0) (sz : Nat) (h0 : Nat) (rh0 : RK kp L h0 12) : Met l yX12_clear (Cond.code yX12_clear cX12_clear 2 (some .int) :: wTab) ({ frames := 1, cells := 0, slots := 0, locals := 40 }) (va_Pc [.ref h0] (PreW G (tys6 cI cJ cZ cD cR cT) (va_pl L f0) sz)) (QT (po_X12_clear_x kp L f0 h0) G cI cJ cZ cD cR cT (va_A (va_pl L f0) sz) kp L) 0 0 (va_A (va_pl L f0) sz) := by
  refine metT (by decide) (Nat.le_of_ble_eq_true rfl) hTH ?_
  intro p e s m below meth c A ls E hW hl
  obtain ⟨hx, hb, -, hml, hown, hts, -, -, -⟩ := id E
  have hF : FM kp L ms_X12_clear_x f0 f0 := FM.rf
  have hl : lv_has ls 2 [(0, .ref h0)] := hl
  obtain ⟨pR, mR⟩ : ∃ x : Nat, oR (f0 h0) 2 = x := ⟨_, rfl⟩
  have rR : RK kp L pR 822 := by rw [← mR]; exact th_ref hTH rh0 (by decide) (by decide) rfl
  refine lv_aload_n hx hb dX12_clear_0 rfl (lv_at hl 0 rfl) ?_
  refine lv_iconst (v := 0) hx hb dX12_clear_1 (by decide) ?_
  refine fp_RX12_82 E hW rh0 dX12_clear_2 (fun f1 H locs e2 n3 g4 hW => ?_)
  have hF := FM.tr hF g4 rfl
  refine lv_aload_n hx hb dX12_clear_5 rfl (lv_at hl 0 rfl) ?_
  refine fg_RX12_446 E hW rh0 dX12_clear_6 (fun y5 m6 b7 => ?_)
  refine lv_istore_n (lv' := [(1, .int y5), (0, .ref h0)]) hx hb dX12_clear_9 rfl hl (by decide) rfl (fun ls hl => ?_)
  refine lv_aload_n hx hb dX12_clear_10 rfl (lv_at hl 1 rfl) ?_
  refine lv_iconst (v := 0) hx hb dX12_clear_11 (by decide) ?_
  refine fp_RX12_446 E hW rh0 (by decide) dX12_clear_12 (fun f8 H locs e9 n10 g11 hW => ?_)
  have hF := FM.tr hF g11 rfl
  refine lv_aload_n hx hb dX12_clear_15 rfl (lv_at hl 1 rfl) ?_
  refine lv_iconst (v := 0) hx hb dX12_clear_16 (by decide) ?_
  refine fp_RX12_504 E hW rh0 (by decide) dX12_clear_17 (fun f12 H locs e13 n14 g15 hW => ?_)
  have hF := FM.tr hF g15 rfl
  refine lv_iload_n hx hb dX12_clear_20 rfl (lv_at hl 0 rfl) ?_
  exact e_I E hW rfl ⟨⟨_, rfl, (by first | omega | trivial)⟩, hF, (by rw [e13]; rfl)⟩ dX12_clear_21
