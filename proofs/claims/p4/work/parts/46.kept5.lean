
def rw_X12_back_x : List (Nat × Nat) := [(0, 35941)]
def ms_X12_back_x : List (Nat × Nat) := [(12, 0), (12, 1), (822, 0)]
def po_X12_back_x (kp : Nat → Nat) (L : List Nat) (f0 : Nat → va_E) (h0 : Nat) (u1 : Int32) : Option Value → (Nat → va_E) → Prop := fun v f => (∃ r : Int32, v = some (.int r) ∧ ((r.toInt = -1 ∧ ¬ (0 ≤ u1.toInt ∧ u1.toInt ≤ 1)) ∨ (r.toInt = -2 ∧ (0 ≤ u1.toInt ∧ u1.toInt ≤ 1) ∧ (aI (f0 (oR (f0 h0) 5)) u1.toNatClampNeg).toInt = 0) ∨ (r.toInt = 0 ∧ (0 ≤ u1.toInt ∧ u1.toInt ≤ 1) ∧ ¬ (aI (f0 (oR (f0 h0) 5)) u1.toNatClampNeg).toInt = 0))) ∧ FM kp L ms_X12_back_x f0 f ∧ (((0 ≤ u1.toInt ∧ u1.toInt ≤ 1) ∧ ¬ (aI (f0 (oR (f0 h0) 5)) u1.toNatClampNeg).toInt = 0 ∧ CP (aI (f0 (oR (f0 h0) 3))) (aI (f (oR (f0 h0) 2))) (35942 * u1.toInt) 0 35942) ∨ (¬ ((0 ≤ u1.toInt ∧ u1.toInt ≤ 1) ∧ ¬ (aI (f0 (oR (f0 h0) 5)) u1.toNatClampNeg).toInt = 0) ∧ aI (f (oR (f0 h0) 2)) = aI (f0 (oR (f0 h0) 2)))) ∧ (RF rw_X12_back_x f0 f h0)
set_option maxHeartbeats 4000000 in
set_option maxRecDepth 100000 in
theorem c_X12_back_x (l : Launch) (G : va_G) (cI cJ cZ cD cR cT : ClassId) (kp : Nat → Nat) (L : List Nat) (f0 : Nat → va_E) (hTH : TH cI cJ cZ cD cR cT kp L f0) (sz : Nat) (h0 : Nat) (u1 : Int32) (rh0 : RK kp L h0 12) : Met l yX12_back (Cond.code yX12_back cX12_back 3 (some .int) :: wTab) ({ frames := 2, cells := 0, slots := 0, locals := 65 }) (va_Pc [.ref h0, .int u1] (PreW G (tys6 cI cJ cZ cD cR cT) (va_pl L f0) sz)) (QT (po_X12_back_x kp L f0 h0 u1) G cI cJ cZ cD cR cT (va_A (va_pl L f0) sz) kp L) 0 0 (va_A (va_pl L f0) sz) := by
  refine metT (by decide) (Nat.le_of_ble_eq_true rfl) hTH ?_
  intro p e s m below meth c A ls E hW hl
  obtain ⟨hx, hb, -, hml, hown, hts, -, -, -⟩ := id E
  have hF : FM kp L ms_X12_back_x f0 f0 := FM.rf
  have hl : lv_has ls 3 [(0, .ref h0), (1, .int u1)] := hl
  obtain ⟨pR, mR⟩ : ∃ x : Nat, oR (f0 h0) 2 = x := ⟨_, rfl⟩
  have rR : RK kp L pR 822 := by rw [← mR]; exact th_ref hTH rh0 (by decide) (by decide) rfl
  obtain ⟨pI, mI⟩ : ∃ x : Nat, oR (f0 h0) 3 = x := ⟨_, rfl⟩
  have rI : RK kp L pI 823 := by rw [← mI]; exact th_ref hTH rh0 (by decide) (by decide) rfl
  obtain ⟨pK, mK⟩ : ∃ x : Nat, oR (f0 h0) 5 = x := ⟨_, rfl⟩
  have rK : RK kp L pK 825 := by rw [← mK]; exact th_ref hTH rh0 (by decide) (by decide) rfl
  obtain ⟨pk, mpk⟩ : ∃ x : Int32, aI (f0 pK) u1.toNatClampNeg = x := ⟨_, rfl⟩
  refine lv_aload_n hx hb dX12_back_0 rfl (lv_at hl 0 rfl) ?_
  refine lv_iconst (v := 0) hx hb dX12_back_1 (by decide) ?_
  refine fp_RX12_82 E hW rh0 dX12_back_2 (fun f1 H locs e2 n3 g4 hW => ?_)
  have z5 : RF rw_X12_back_x f0 f1 h0 := rf_fm hTH rf_rf g4 rh0 rfl
  have hF := FM.tr hF g4 rfl
  refine lv_iload_n hx hb dX12_back_5 rfl (lv_at hl 1 rfl) ?_
  refine q_i2l hx hb dX12_back_6 rfl (fun x6 h7 => ?_)
  have hb8 : -2147483648 ≤ x6.toInt ∧ x6.toInt ≤ 2147483647 := by have := i32_b u1; omega
  refine lv_lconst (v := 0) hx hb dX12_back_7 (by decide) ?_
  refine lv_lconst (v := 1) hx hb dX12_back_8 (by decide) ?_
  refine t_callS (As := [.long x6, .long 0, .long 1]) (rest := []) E hW (c_X12_in l G cI cJ cZ cD cR cT kp L f1 hW.2.2.2 _ x6 0 1) wk_X12_in tw_1554 rfl ⟨Nat.le_of_ble_eq_true rfl, Nat.le_of_ble_eq_true rfl⟩ ⟨rfl, rfl⟩ hl.1 rfl (Nat.le_of_ble_eq_true rfl) dX12_back_9 ⟨Nat.le_of_ble_eq_true rfl, Nat.le_of_ble_eq_true rfl⟩ (fun v9 f10 H locs q11 hW => ?_)
  obtain ⟨⟨x13, rfl, p14⟩, g12⟩ := q11
  have p14 : (x13.toInt = 1 ∧ 0 ≤ x6.toInt ∧ x6.toInt ≤ 1) ∨ (x13.toInt = 0 ∧ (x6.toInt < 0 ∨ 1 < x6.toInt)) := p14
  have m15 : aI (f10 pK) (u1 : Int32).toNatClampNeg = pk := ((congrArg (fun z => aI z (u1 : Int32).toNatClampNeg) (fm_A g12 rK (by decide) rfl)).trans ((congrArg (fun z => aI z (u1 : Int32).toNatClampNeg) (fm_A g4 rK (by decide) rfl)).trans mpk))
  have z16 : RF rw_X12_back_x f0 f10 h0 := rf_fm hTH z5 g12 rh0 rfl
  have hF := FM.tr hF g12 rfl
  refine q_if_ne (tgt := 21) hx hb dX12_back_12 (by decide) rfl (fun c17 => ?_) (fun c17 => ?_)
  · have q18 : 0 ≤ x6.toInt ∧ x6.toInt ≤ 1 := by omega
    clear p14
    refine lv_aload_n hx hb dX12_back_21 rfl (lv_at hl 0 rfl) ?_
    refine fg_RX12_21 E hW rh0 dX12_back_22 (fun a19 m20 r21 => ?_)
    obtain rfl : pK = a19 := (((fm_R g12 rh0 rfl).trans ((fm_R g4 rh0 rfl).trans mK))).symm.trans m20
    refine lv_iload_n hx hb dX12_back_25 rfl (lv_at hl 1 rfl) ?_
    refine gl_825 E hW rK ⟨by omega, by omega⟩ dX12_back_26 (fun y22 m23 b24 => ?_)
    obtain rfl : pk = y22 := (m15).symm.trans m23
    refine q_if_ne (tgt := 37) hx hb dX12_back_27 (by decide) rfl (fun c25 => ?_) (fun c25 => ?_)
    · refine lv_iconst (v := 0) hx hb dX12_back_37 (by decide) ?_
      refine lv_istore_n (lv' := [(2, .int 0), (0, .ref h0), (1, .int u1)]) hx hb dX12_back_38 rfl hl (by decide) rfl (fun ls hl => ?_)
      have L1865 : ∀ (n : Nat), ∀ (f1855 : Nat → va_E) (y1860 : Int32) (m1856 : oI (f1855 h0) 0 = 0) (m1857 : oR (f1855 h0) 2 = pR) (m1858 : oR (f1855 h0) 3 = pI) (m1859 : oR (f1855 h0) 5 = pK) (b1861 : (0 : Int) ≤ y1860.toInt ∧ y1860.toInt ≤ 35942) (z1862 : RF rw_X12_back_x f0 f1855 h0) (v1863 : CP (aI (f0 pI)) (aI (f1855 pR)) (35942 * u1.toInt) (0) y1860.toInt) (v1864 : ∀ j : Nat, ((j : Int) < 0 ∨ 0 + 35942 ≤ (j : Int)) → aI (f1855 pR) j = aI (f0 pR) j) (hm : (35943 : Int) - y1860.toInt ≤ n) (H : Heap) (locs : List Loc) (ls : Array Slot), WS G cI cJ cZ cD cR cT A kp L f1855 s H locs → FM kp L ms_X12_back_x f0 f1855 → lv_has ls 3 [(2, .int y1860), (0, .ref h0), (1, .int u1)] → W p l e ({ frames := 2, cells := 0, slots := 0, locals := 65 }) s m ([.ref h0, .int u1] : List Value).toArray below meth c H locs 0 0 (MQ below (QT (po_X12_back_x kp L f0 h0 u1) G cI cJ cZ cD cR cT A kp L) ([.ref h0, .int u1] : List Value).toArray s 0 0 A) (F0 m 39 ls []) := by
        intro n
        induction n with
        | zero =>
          intro f1855 y1860 m1856 m1857 m1858 m1859 b1861 z1862 v1863 v1864 hm H locs ls hW hF hl
          have hz := i32_b y1860
          exfalso; omega
        | succ n ih =>
          intro f1855 y1860 m1856 m1857 m1858 m1859 b1861 z1862 v1863 v1864 hm H locs ls hW hF hl
          clear c17
          have ih39 := ih
          refine lv_iload_n hx hb dX12_back_39 rfl (lv_at hl 0 rfl) ?_
          refine lv_ldc (v := 35942) hx hb hown (hts _ tw_1390) dX12_back_40 ?_
          refine q_icmp_ge (Y := 35942) (tgt := 68) hx hb dX12_back_42 (by decide) rfl rfl (fun c1866 => ?_) (fun c1866 => ?_)
          · refine lv_aload_n hx hb dX12_back_68 rfl (lv_at hl 1 rfl) ?_
            refine lv_iconst (v := 0) hx hb dX12_back_69 (by decide) ?_
            refine t_callV (As := [.int 0]) (rest := []) E hW (c_X12_told_x l G cI cJ cZ cD cR cT kp L f1855 hW.2.2.2 _ h0 0 rh0) rh0 (by decide) rfl wk_X12_told tw_1557 rfl ⟨Nat.le_of_ble_eq_true rfl, Nat.le_of_ble_eq_true rfl⟩ ⟨rfl, rfl⟩ hl.1 rfl (Nat.le_of_ble_eq_true rfl) dX12_back_70 ⟨Nat.le_of_ble_eq_true rfl, Nat.le_of_ble_eq_true rfl⟩ (fun v1867 f1868 H locs q1869 hW => ?_)
            obtain ⟨⟨x1871, rfl, p1872⟩, g1870⟩ := q1869
            have p1872 : x1871.toInt = 0 := p1872
            have z1873 : RF rw_X12_back_x f0 f1868 h0 := rf_fm hTH z1862 g1870 rh0 rfl
            have hF := FM.tr hF g1870 rfl
            exact e_I E hW rfl ⟨⟨_, rfl, (by rw [mK, mpk]; omega)⟩, hF, (Or.inl ⟨by omega, by rw [mK, mpk]; omega, by rw [mI, mR]; rw [((congrArg aI (fm_A g1870 rR (by decide) rfl)).trans rfl)]; exact cp_le v1863 (by omega)⟩), z1873⟩ dX12_back_73
          · refine lv_aload_n hx hb dX12_back_45 rfl (lv_at hl 1 rfl) ?_
            refine fg_RX12_8 E hW rh0 dX12_back_46 (fun a1874 m1875 r1876 => ?_)
            obtain rfl : pR = a1874 := (m1857).symm.trans m1875
            refine lv_iload_n hx hb dX12_back_49 rfl (lv_at hl 0 rfl) ?_
            refine lv_aload_n hx hb dX12_back_50 rfl (lv_at hl 1 rfl) ?_
            refine fg_RX12_15 E hW rh0 dX12_back_51 (fun a1877 m1878 r1879 => ?_)
            obtain rfl : pI = a1877 := (m1858).symm.trans m1878
            refine lv_ldc (v := 35942) hx hb hown (hts _ tw_1390) dX12_back_54 ?_
            refine lv_iload_n hx hb dX12_back_56 rfl (lv_at hl 2 rfl) ?_
            refine q_imul (X := 35942) hx hb dX12_back_57 rfl rfl (by omega) (fun x1880 h1881 => ?_)
            refine lv_iload_n hx hb dX12_back_58 rfl (lv_at hl 0 rfl) ?_
            refine q_iadd hx hb dX12_back_59 rfl rfl (by omega) (fun x1882 h1883 => ?_)
            refine gl_823 E hW rI ⟨by omega, by omega⟩ dX12_back_60 (fun y1884 m1885 b1886 => ?_)
            have m1887 : aI (f0 pI) (x1882 : Int32).toNatClampNeg = y1884 := by rw [← fm_A hF rI (by decide) rfl]; exact m1885
            refine gs_822 E hW rR ⟨by omega, by omega⟩ (fun hc => rr_up2 hc (by omega) (img_at (k := u1) (i := y1860) (show ImgInv (aI (f0 pI)) from th_img hTH rI) m1887 (by omega) (by omega) (by omega))) dX12_back_61 (fun f1888 H locs e1889 n1890 g1891 hW => ?_)
            have z1892 : RF rw_X12_back_x f0 f1888 h0 := rf_st (lo := 0) (hi := 35941) z1862 mR e1889 (by omega) rfl
            have hF := FM.tr hF g1891 rfl
            refine q_iinc hx hb dX12_back_62 hl (k := 0) rfl rfl rfl (by omega) (by decide) (fun i1893 ls h1894 hl => ?_)
            have hl : lv_has ls 3 [(2, .int i1893), (0, .ref h0), (1, .int u1)] := hl
            refine lv_goto (tgt := 39) hx hb dX12_back_65 (by decide) ?_
            exact ih39 f1888 i1893 ((fm_I g1891 rh0 rfl).trans m1856) ((fm_R g1891 rh0 rfl).trans m1875) ((fm_R g1891 rh0 rfl).trans m1878) ((fm_R g1891 rh0 rfl).trans m1859) (by omega) z1892 (cp_st v1863 e1889 m1887 (by omega) (by omega) (by omega) (by omega)) (cp_fr v1864 e1889 (by omega)) (by omega) _ _ _ hW hF (lv_sub hl [0, 1, 2] rfl)
      have hk1895 : (0 : Int32).toInt = 0 := rfl
      exact L1865 35943 f10 0 ((fm_I g12 rh0 rfl).trans e2) ((fm_R g12 rh0 rfl).trans ((fm_R g4 rh0 rfl).trans mR)) ((fm_R g12 rh0 rfl).trans ((fm_R g4 rh0 rfl).trans mI)) m20 (by decide) z16 (by have hk : (0 : Int32).toInt = 0 := rfl; rw [hk]; exact cp_0) (fun j _ => by rw [((congrArg aI (fm_A g12 rR (by decide) rfl)).trans ((congrArg aI (fm_A g4 rR (by decide) rfl)).trans rfl))]) (by omega) _ _ _ hW hF (lv_sub hl [0, 1, 2] rfl)
    · refine lv_aload_n hx hb dX12_back_30 rfl (lv_at hl 0 rfl) ?_
      refine lv_bipush (v := (-2)) hx hb dX12_back_31 (by decide) ?_
      refine t_callV (As := [.int (-2)]) (rest := []) E hW (c_X12_told_x l G cI cJ cZ cD cR cT kp L f10 hW.2.2.2 _ h0 (-2) rh0) rh0 (by decide) rfl wk_X12_told tw_1557 rfl ⟨Nat.le_of_ble_eq_true rfl, Nat.le_of_ble_eq_true rfl⟩ ⟨rfl, rfl⟩ hl.1 rfl (Nat.le_of_ble_eq_true rfl) dX12_back_33 ⟨Nat.le_of_ble_eq_true rfl, Nat.le_of_ble_eq_true rfl⟩ (fun v1896 f1897 H locs q1898 hW => ?_)
      obtain ⟨⟨x1900, rfl, p1901⟩, g1899⟩ := q1898
      have p1901 : x1900.toInt = (-2) := p1901
      have z1902 : RF rw_X12_back_x f0 f1897 h0 := rf_fm hTH z16 g1899 rh0 rfl
      have hF := FM.tr hF g1899 rfl
      exact e_I E hW rfl ⟨⟨_, rfl, (by rw [mK, mpk]; omega)⟩, hF, (Or.inr ⟨by rw [mK, mpk]; omega, (by rw [mR]; exact ((congrArg aI (fm_A g1899 rR (by decide) rfl)).trans ((congrArg aI (fm_A g12 rR (by decide) rfl)).trans ((congrArg aI (fm_A g4 rR (by decide) rfl)).trans rfl))))⟩), z1902⟩ dX12_back_36
  · have q1903 : (x6.toInt < 0 ∨ 1 < x6.toInt) := by omega
    clear p14
    refine lv_aload_n hx hb dX12_back_15 rfl (lv_at hl 0 rfl) ?_
    refine lv_iconst (v := (-1)) hx hb dX12_back_16 (by decide) ?_
    refine t_callV (As := [.int (-1)]) (rest := []) E hW (c_X12_told_x l G cI cJ cZ cD cR cT kp L f10 hW.2.2.2 _ h0 (-1) rh0) rh0 (by decide) rfl wk_X12_told tw_1557 rfl ⟨Nat.le_of_ble_eq_true rfl, Nat.le_of_ble_eq_true rfl⟩ ⟨rfl, rfl⟩ hl.1 rfl (Nat.le_of_ble_eq_true rfl) dX12_back_17 ⟨Nat.le_of_ble_eq_true rfl, Nat.le_of_ble_eq_true rfl⟩ (fun v1904 f1905 H locs q1906 hW => ?_)
    obtain ⟨⟨x1908, rfl, p1909⟩, g1907⟩ := q1906
    have p1909 : x1908.toInt = (-1) := p1909
    have z1910 : RF rw_X12_back_x f0 f1905 h0 := rf_fm hTH z16 g1907 rh0 rfl
    have hF := FM.tr hF g1907 rfl
    exact e_I E hW rfl ⟨⟨_, rfl, (by rw [mK, mpk]; omega)⟩, hF, (Or.inr ⟨by rw [mK, mpk]; omega, (by rw [mR]; exact ((congrArg aI (fm_A g1907 rR (by decide) rfl)).trans ((congrArg aI (fm_A g12 rR (by decide) rfl)).trans ((congrArg aI (fm_A g4 rR (by decide) rfl)).trans rfl))))⟩), z1910⟩ dX12_back_20
def ms_X12_image_x : List (Nat × Nat) := [(12, 0), (12, 1), (823, 0), (825, 0)]
def ms_X12_imL : List (Nat × Nat) := [(12, 0), (12, 1), (823, 0)]
def po_X12_image_x (kp : Nat → Nat) (L : List Nat) (f0 : Nat → va_E) (h0 : Nat) (u1 : Int32) : Option Value → (Nat → va_E) → Prop := fun v f => (∃ r : Int32, v = some (.int r) ∧ ((r.toInt = 0 ∧ (0 ≤ u1.toInt ∧ u1.toInt ≤ 1)) ∨ (r.toInt = -1 ∧ ¬ (0 ≤ u1.toInt ∧ u1.toInt ≤ 1)))) ∧ FM kp L ms_X12_image_x f0 f ∧ (((0 ≤ u1.toInt ∧ u1.toInt ≤ 1) ∧ CP (aI (f0 (oR (f0 h0) 2))) (aI (f (oR (f0 h0) 3))) 0 (35942 * u1.toInt) 35942 ∧ ∀ j : Nat, ((j : Int) < 35942 * u1.toInt ∨ 35942 * u1.toInt + 35942 ≤ (j : Int)) → aI (f (oR (f0 h0) 3)) j = aI (f0 (oR (f0 h0) 3)) j) ∨ (¬ (0 ≤ u1.toInt ∧ u1.toInt ≤ 1) ∧ aI (f (oR (f0 h0) 3)) = aI (f0 (oR (f0 h0) 3)))) ∧ (((0 ≤ u1.toInt ∧ u1.toInt ≤ 1) ∧ aI (f (oR (f0 h0) 5)) = upd (aI (f0 (oR (f0 h0) 5))) u1.toNatClampNeg 1) ∨ (¬ (0 ≤ u1.toInt ∧ u1.toInt ≤ 1) ∧ aI (f (oR (f0 h0) 5)) = aI (f0 (oR (f0 h0) 5))))
set_option maxHeartbeats 4000000 in
set_option maxRecDepth 100000 in
theorem c_X12_image_x (l : Launch) (G : va_G) (cI cJ cZ cD cR cT : ClassId) (kp : Nat → Nat) (L : List Nat) (f0 : Nat → va_E) (hTH : TH cI cJ cZ cD cR cT kp L f0) (sz : Nat) (h0 : Nat) (u1 : Int32) (rh0 : RK kp L h0 12) : Met l yX12_image (Cond.code yX12_image cX12_image 3 (some .int) :: wTab) ({ frames := 2, cells := 0, slots := 0, locals := 65 }) (va_Pc [.ref h0, .int u1] (PreW G (tys6 cI cJ cZ cD cR cT) (va_pl L f0) sz)) (QT (po_X12_image_x kp L f0 h0 u1) G cI cJ cZ cD cR cT (va_A (va_pl L f0) sz) kp L) 0 0 (va_A (va_pl L f0) sz) := by
  refine metT (by decide) (Nat.le_of_ble_eq_true rfl) hTH ?_
  intro p e s m below meth c A ls E hW hl
  obtain ⟨hx, hb, -, hml, hown, hts, -, -, -⟩ := id E
  have hF : FM kp L ms_X12_imL f0 f0 := FM.rf
  have hl : lv_has ls 3 [(0, .ref h0), (1, .int u1)] := hl
  obtain ⟨pK, mK⟩ : ∃ x : Nat, oR (f0 h0) 5 = x := ⟨_, rfl⟩
  have rK : RK kp L pK 825 := by rw [← mK]; exact th_ref hTH rh0 (by decide) (by decide) rfl
  obtain ⟨pR, mR⟩ : ∃ x : Nat, oR (f0 h0) 2 = x := ⟨_, rfl⟩
  have rR : RK kp L pR 822 := by rw [← mR]; exact th_ref hTH rh0 (by decide) (by decide) rfl
  obtain ⟨pI, mI⟩ : ∃ x : Nat, oR (f0 h0) 3 = x := ⟨_, rfl⟩
  have rI : RK kp L pI 823 := by rw [← mI]; exact th_ref hTH rh0 (by decide) (by decide) rfl
  refine lv_aload_n hx hb dX12_image_0 rfl (lv_at hl 0 rfl) ?_
  refine lv_iconst (v := 0) hx hb dX12_image_1 (by decide) ?_
  refine fp_RX12_82 E hW rh0 dX12_image_2 (fun f1 H locs e2 n3 g4 hW => ?_)
  have hF := FM.tr hF g4 rfl
  refine lv_iload_n hx hb dX12_image_5 rfl (lv_at hl 1 rfl) ?_
  refine q_i2l hx hb dX12_image_6 rfl (fun x5 h6 => ?_)
  have hb7 : -2147483648 ≤ x5.toInt ∧ x5.toInt ≤ 2147483647 := by have := i32_b u1; omega
  refine lv_lconst (v := 0) hx hb dX12_image_7 (by decide) ?_
  refine lv_lconst (v := 1) hx hb dX12_image_8 (by decide) ?_
  refine t_callS (As := [.long x5, .long 0, .long 1]) (rest := []) E hW (c_X12_in l G cI cJ cZ cD cR cT kp L f1 hW.2.2.2 _ x5 0 1) wk_X12_in tw_1554 rfl ⟨Nat.le_of_ble_eq_true rfl, Nat.le_of_ble_eq_true rfl⟩ ⟨rfl, rfl⟩ hl.1 rfl (Nat.le_of_ble_eq_true rfl) dX12_image_9 ⟨Nat.le_of_ble_eq_true rfl, Nat.le_of_ble_eq_true rfl⟩ (fun v8 f9 H locs q10 hW => ?_)
  obtain ⟨⟨x12, rfl, p13⟩, g11⟩ := q10
  have p13 : (x12.toInt = 1 ∧ 0 ≤ x5.toInt ∧ x5.toInt ≤ 1) ∨ (x12.toInt = 0 ∧ (x5.toInt < 0 ∨ 1 < x5.toInt)) := p13
  have hF := FM.tr hF g11 rfl
  refine q_if_ne (tgt := 21) hx hb dX12_image_12 (by decide) rfl (fun c14 => ?_) (fun c14 => ?_)
  · have q15 : 0 ≤ x5.toInt ∧ x5.toInt ≤ 1 := by omega
    clear p13
    refine lv_iconst (v := 0) hx hb dX12_image_21 (by decide) ?_
    refine lv_istore_n (lv' := [(2, .int 0), (0, .ref h0), (1, .int u1)]) hx hb dX12_image_22 rfl hl (by decide) rfl (fun ls hl => ?_)
    have L1677 : ∀ (n : Nat), ∀ (f1669 : Nat → va_E) (y1673 : Int32) (m1670 : oI (f1669 h0) 0 = 0) (m1671 : oR (f1669 h0) 2 = pR) (m1672 : oR (f1669 h0) 3 = pI) (b1674 : (0 : Int) ≤ y1673.toInt ∧ y1673.toInt ≤ 35942) (v1675 : CP (aI (f0 pR)) (aI (f1669 pI)) (0) (35942 * u1.toInt) y1673.toInt) (v1676 : ∀ j : Nat, ((j : Int) < 35942 * u1.toInt ∨ 35942 * u1.toInt + 35942 ≤ (j : Int)) → aI (f1669 pI) j = aI (f0 pI) j) (hm : (35943 : Int) - y1673.toInt ≤ n) (H : Heap) (locs : List Loc) (ls : Array Slot), WS G cI cJ cZ cD cR cT A kp L f1669 s H locs → FM kp L ms_X12_imL f0 f1669 → lv_has ls 3 [(2, .int y1673), (0, .ref h0), (1, .int u1)] → W p l e ({ frames := 2, cells := 0, slots := 0, locals := 65 }) s m ([.ref h0, .int u1] : List Value).toArray below meth c H locs 0 0 (MQ below (QT (po_X12_image_x kp L f0 h0 u1) G cI cJ cZ cD cR cT A kp L) ([.ref h0, .int u1] : List Value).toArray s 0 0 A) (F0 m 23 ls []) := by
      intro n
      induction n with
      | zero =>
        intro f1669 y1673 m1670 m1671 m1672 b1674 v1675 v1676 hm H locs ls hW hF hl
        have hz := i32_b y1673
        exfalso; omega
      | succ n ih =>
        intro f1669 y1673 m1670 m1671 m1672 b1674 v1675 v1676 hm H locs ls hW hF hl
        clear c14
        have ih23 := ih
        refine lv_iload_n hx hb dX12_image_23 rfl (lv_at hl 0 rfl) ?_
        refine lv_ldc (v := 35942) hx hb hown (hts _ tw_1390) dX12_image_24 ?_
        refine q_icmp_ge (Y := 35942) (tgt := 52) hx hb dX12_image_26 (by decide) rfl rfl (fun c1678 => ?_) (fun c1678 => ?_)
        · refine lv_aload_n hx hb dX12_image_52 rfl (lv_at hl 1 rfl) ?_
          refine fg_RX12_21 E hW rh0 dX12_image_53 (fun a1679 m1680 r1681 => ?_)
          obtain rfl : pK = a1679 := ((fm_R hF rh0 rfl).trans mK).symm.trans m1680
          refine lv_iload_n hx hb dX12_image_56 rfl (lv_at hl 2 rfl) ?_
          refine lv_iconst (v := 1) hx hb dX12_image_57 (by decide) ?_
          have hK0 : aI (f1669 pK) = aI (f0 pK) := congrArg aI (fm_A hF rK (by decide) rfl)
          have hF : FM kp L ms_X12_image_x f0 f1669 := FM.tr FM.rf hF (by decide +kernel)
          refine gs_825 E hW r1681 ⟨by omega, by omega⟩ (by decide) dX12_image_58 (fun f1682 H locs e1683 n1684 g1685 hW => ?_)
          have hF := FM.tr hF g1685 rfl
          refine lv_aload_n hx hb dX12_image_59 rfl (lv_at hl 1 rfl) ?_
          refine lv_iconst (v := 0) hx hb dX12_image_60 (by decide) ?_
          refine t_callV (As := [.int 0]) (rest := []) E hW (c_X12_told_x l G cI cJ cZ cD cR cT kp L f1682 hW.2.2.2 _ h0 0 rh0) rh0 (by decide) rfl wk_X12_told tw_1557 rfl ⟨Nat.le_of_ble_eq_true rfl, Nat.le_of_ble_eq_true rfl⟩ ⟨rfl, rfl⟩ hl.1 rfl (Nat.le_of_ble_eq_true rfl) dX12_image_61 ⟨Nat.le_of_ble_eq_true rfl, Nat.le_of_ble_eq_true rfl⟩ (fun v1686 f1687 H locs q1688 hW => ?_)
          obtain ⟨⟨x1690, rfl, p1691⟩, g1689⟩ := q1688
          have p1691 : x1690.toInt = 0 := p1691
          have hF := FM.tr hF g1689 rfl
          exact e_I E hW rfl ⟨⟨_, rfl, (by first | omega | trivial)⟩, hF, (Or.inl ⟨by omega, by rw [mR, mI]; rw [((congrArg aI (fm_A g1689 rI (by decide) rfl)).trans ((congrArg aI (fm_A g1685 rI (by decide) rfl)).trans rfl))]; exact cp_le v1675 (by omega), by rw [mI]; rw [((congrArg aI (fm_A g1689 rI (by decide) rfl)).trans ((congrArg aI (fm_A g1685 rI (by decide) rfl)).trans rfl))]; exact v1676⟩), (Or.inl ⟨by omega, by rw [mK, fm_A g1689 rK (by decide) rfl, e1683, hK0]; rfl⟩)⟩ dX12_image_64
        · refine lv_aload_n hx hb dX12_image_29 rfl (lv_at hl 1 rfl) ?_
          refine fg_RX12_15 E hW rh0 dX12_image_30 (fun a1692 m1693 r1694 => ?_)
          obtain rfl : pI = a1692 := (m1672).symm.trans m1693
          refine lv_ldc (v := 35942) hx hb hown (hts _ tw_1390) dX12_image_33 ?_
          refine lv_iload_n hx hb dX12_image_35 rfl (lv_at hl 2 rfl) ?_
          refine q_imul (X := 35942) hx hb dX12_image_36 rfl rfl (by omega) (fun x1695 h1696 => ?_)
          refine lv_iload_n hx hb dX12_image_37 rfl (lv_at hl 0 rfl) ?_
          refine q_iadd hx hb dX12_image_38 rfl rfl (by omega) (fun x1697 h1698 => ?_)
          refine lv_aload_n hx hb dX12_image_39 rfl (lv_at hl 1 rfl) ?_
          refine fg_RX12_8 E hW rh0 dX12_image_40 (fun a1699 m1700 r1701 => ?_)
          obtain rfl : pR = a1699 := (m1671).symm.trans m1700
          refine lv_iload_n hx hb dX12_image_43 rfl (lv_at hl 0 rfl) ?_
          refine gl_822 E hW rR ⟨by omega, by omega⟩ dX12_image_44 (fun y1702 m1703 b1704 => ?_)
          have m1705 : aI (f0 pR) (y1673 : Int32).toNatClampNeg = y1702 := by rw [← fm_A hF rR (by decide) rfl]; exact m1703
          refine gs_823 E hW rI ⟨by omega, by omega⟩ (fun hc => img_up (k := u1) (i := y1673) hc (by omega) (by omega) (by omega) (rr_at (show RowInv (aI (f0 pR)) from th_row hTH rR) m1705 (by omega))) dX12_image_45 (fun f1706 H locs e1707 n1708 g1709 hW => ?_)
          have hF := FM.tr hF g1709 rfl
          refine q_iinc hx hb dX12_image_46 hl (k := 0) rfl rfl rfl (by omega) (by decide) (fun i1710 ls h1711 hl => ?_)
          have hl : lv_has ls 3 [(2, .int i1710), (0, .ref h0), (1, .int u1)] := hl
          refine lv_goto (tgt := 23) hx hb dX12_image_49 (by decide) ?_
          exact ih23 f1706 i1710 ((fm_I g1709 rh0 rfl).trans m1670) ((fm_R g1709 rh0 rfl).trans m1700) ((fm_R g1709 rh0 rfl).trans m1693) (by omega) (cp_st v1675 e1707 m1705 (by omega) (by omega) (by omega) (by omega)) (cp_fr v1676 e1707 (by omega)) (by omega) _ _ _ hW hF (lv_sub hl [0, 1, 2] rfl)
    have hk1712 : (0 : Int32).toInt = 0 := rfl
    exact L1677 35943 f9 0 ((fm_I g11 rh0 rfl).trans e2) ((fm_R g11 rh0 rfl).trans ((fm_R g4 rh0 rfl).trans mR)) ((fm_R g11 rh0 rfl).trans ((fm_R g4 rh0 rfl).trans mI)) (by decide) (by have hk : (0 : Int32).toInt = 0 := rfl; rw [hk]; exact cp_0) (fun j _ => by rw [((congrArg aI (fm_A g11 rI (by decide) rfl)).trans ((congrArg aI (fm_A g4 rI (by decide) rfl)).trans rfl))]) (by omega) _ _ _ hW hF (lv_sub hl [0, 1, 2] rfl)
  · have q1713 : (x5.toInt < 0 ∨ 1 < x5.toInt) := by omega
    clear p13
    refine lv_aload_n hx hb dX12_image_15 rfl (lv_at hl 0 rfl) ?_
    refine lv_iconst (v := (-1)) hx hb dX12_image_16 (by decide) ?_
    refine t_callV (As := [.int (-1)]) (rest := []) E hW (c_X12_told_x l G cI cJ cZ cD cR cT kp L f9 hW.2.2.2 _ h0 (-1) rh0) rh0 (by decide) rfl wk_X12_told tw_1557 rfl ⟨Nat.le_of_ble_eq_true rfl, Nat.le_of_ble_eq_true rfl⟩ ⟨rfl, rfl⟩ hl.1 rfl (Nat.le_of_ble_eq_true rfl) dX12_image_17 ⟨Nat.le_of_ble_eq_true rfl, Nat.le_of_ble_eq_true rfl⟩ (fun v1714 f1715 H locs q1716 hW => ?_)
    obtain ⟨⟨x1718, rfl, p1719⟩, g1717⟩ := q1716
    have p1719 : x1718.toInt = (-1) := p1719
    have hF := FM.tr hF g1717 rfl
    exact e_I E hW rfl ⟨⟨_, rfl, (by first | omega | trivial)⟩, FM.tr FM.rf hF (by decide +kernel), (Or.inr ⟨by omega, (by rw [mI]; exact ((congrArg aI (fm_A g1717 rI (by decide) rfl)).trans ((congrArg aI (fm_A g11 rI (by decide) rfl)).trans ((congrArg aI (fm_A g4 rI (by decide) rfl)).trans rfl))))⟩), (Or.inr ⟨by omega, by rw [mK, fm_A hF rK (by decide) rfl]⟩)⟩ dX12_image_20
