
def ms_X11_whyNoRow_x : List (Nat × Nat) := []
def po_X11_whyNoRow_x (kp : Nat → Nat) (L : List Nat) (f0 : Nat → va_E) (h0 : Nat) (u1 : Int32) (u2 : Int32) : Option Value → (Nat → va_E) → Prop := fun v f => (∃ r : Int32, v = some (.int r) ∧ ((r.toInt = 0 ∧ (0 ≤ u1.toInt ∧ u1.toInt ≤ 399) ∧ 0 ≤ u2.toInt ∧ u2.toInt ≤ 39) ∨ (-6 ≤ r.toInt ∧ r.toInt < 0))) ∧ FM kp L ms_X11_whyNoRow_x f0 f
set_option maxHeartbeats 4000000 in
set_option maxRecDepth 100000 in
theorem c_X11_whyNoRow_x (l : Launch) (G : va_G) (cI cJ cZ cD cR cT : ClassId) (kp : Nat → Nat) (L : List Nat) (f0 : Nat → va_E) (hTH : TH cI cJ cZ cD cR cT kp L f0) (sz : Nat) (h0 : Nat) (u1 : Int32) (u2 : Int32) (rh0 : RK kp L h0 11) : Met l yX11_whyNoRow (Cond.code yX11_whyNoRow cX11_whyNoRow 4 (some .int) :: wTab) ({ frames := 2, cells := 0, slots := 0, locals := 61 }) (va_Pc [.ref h0, .int u1, .int u2] (PreW G (tys6 cI cJ cZ cD cR cT) (va_pl L f0) sz)) (QT (po_X11_whyNoRow_x kp L f0 h0 u1 u2) G cI cJ cZ cD cR cT (va_A (va_pl L f0) sz) kp L) 0 0 (va_A (va_pl L f0) sz) := by
  refine metT (by decide) (Nat.le_of_ble_eq_true rfl) hTH ?_
  intro p e s m below meth c A ls E hW hl
  obtain ⟨hx, hb, -, hml, hown, hts, -, -, -⟩ := id E
  have hF : FM kp L ms_X11_whyNoRow_x f0 f0 := FM.rf
  have hl : lv_has ls 4 [(0, .ref h0), (1, .int u1), (2, .int u2)] := hl
  refine lv_iload_n hx hb dX11_whyNoRow_0 rfl (lv_at hl 1 rfl) ?_
  refine t_callS (As := [.int u1]) (rest := []) E hW (c_X11_isWeek l G cI cJ cZ cD cR cT kp L f0 hW.2.2.2 _ u1) wk_X11_isWeek tw_780 rfl ⟨Nat.le_of_ble_eq_true rfl, Nat.le_of_ble_eq_true rfl⟩ ⟨rfl, rfl⟩ hl.1 rfl (Nat.le_of_ble_eq_true rfl) dX11_whyNoRow_1 ⟨Nat.le_of_ble_eq_true rfl, Nat.le_of_ble_eq_true rfl⟩ (fun v1 f2 H locs q3 hW => ?_)
  obtain ⟨⟨x5, rfl, p6⟩, g4⟩ := q3
  have hF := FM.tr hF g4 rfl
  refine q_if_ne (tgt := 9) hx hb dX11_whyNoRow_4 (by decide) rfl (fun c7 => ?_) (fun c7 => ?_)
  · have q8 : 0 ≤ u1.toInt ∧ u1.toInt ≤ 399 := by omega
    clear p6
    refine lv_aload_n hx hb dX11_whyNoRow_9 rfl (lv_at hl 0 rfl) ?_
    refine fg_RX11_12 E hW rh0 dX11_whyNoRow_10 (fun a9 m10 r11 => ?_)
    refine fg_RX11_114 E hW r11 dX11_whyNoRow_13 (fun a12 m13 r14 => ?_)
    refine lv_iload_n hx hb dX11_whyNoRow_16 rfl (lv_at hl 2 rfl) ?_
    refine t_callV (As := [.int u2]) (rest := []) E hW (c_X1_has l G cI cJ cZ cD cR cT kp L f2 hW.2.2.2 _ a12 u2 r14) r14 (by decide) rfl wk_X1_has tw_683 rfl ⟨Nat.le_of_ble_eq_true rfl, Nat.le_of_ble_eq_true rfl⟩ ⟨rfl, rfl⟩ hl.1 rfl (Nat.le_of_ble_eq_true rfl) dX11_whyNoRow_17 ⟨Nat.le_of_ble_eq_true rfl, Nat.le_of_ble_eq_true rfl⟩ (fun v15 f16 H locs q17 hW => ?_)
    obtain ⟨⟨x19, rfl, p20⟩, g18⟩ := q17
    have hF := FM.tr hF g18 rfl
    refine q_if_ne (tgt := 26) hx hb dX11_whyNoRow_20 (by decide) rfl (fun c21 => ?_) (fun c21 => ?_)
    · have q22 : 0 ≤ u2.toInt ∧ u2.toInt ≤ 39 := by omega
      clear p20
      refine lv_iload_n hx hb dX11_whyNoRow_26 rfl (lv_at hl 1 rfl) ?_
      refine lv_aload_n hx hb dX11_whyNoRow_27 rfl (lv_at hl 0 rfl) ?_
      refine fg_RX11_12 E hW rh0 dX11_whyNoRow_28 (fun a23 m24 r25 => ?_)
      obtain rfl : a9 = a23 := (((fm_R g18 rh0 rfl).trans m10)).symm.trans m24
      refine fg_RX11_255 E hW r11 dX11_whyNoRow_31 (fun y26 m27 b28 => ?_)
      refine q_icmp_ge (tgt := 40) hx hb dX11_whyNoRow_34 (by decide) rfl rfl (fun c29 => ?_) (fun c29 => ?_)
      · refine lv_aload_n hx hb dX11_whyNoRow_40 rfl (lv_at hl 0 rfl) ?_
        refine fg_RX11_12 E hW rh0 dX11_whyNoRow_41 (fun a30 m31 r32 => ?_)
        obtain rfl : a9 = a30 := (m24).symm.trans m31
        refine fg_RX11_194 E hW r11 dX11_whyNoRow_44 (fun a33 m34 r35 => ?_)
        refine fg_RX11_359 E hW r35 dX11_whyNoRow_47 (fun a36 m37 r38 => ?_)
        refine lv_iload_n hx hb dX11_whyNoRow_50 rfl (lv_at hl 1 rfl) ?_
        refine gl_521 E hW r38 ⟨by omega, by omega⟩ dX11_whyNoRow_51 (fun o39 m41 k40 => ?_)
        rcases o39 with _ | a42
        · have hl : lv_has ls 4 [(0, .ref h0), (1, .int u1), (2, .int u2)] := hl
          show W p l e ({ frames := 2, cells := 0, slots := 0, locals := 61 }) s m ([.ref h0, .int u1, .int u2] : List Value).toArray below meth c _ _ 0 0 (MQ below (QT (po_X11_whyNoRow_x kp L f0 h0 u1 u2) G cI cJ cZ cD cR cT A kp L) ([.ref h0, .int u1, .int u2] : List Value).toArray s 0 0 A) (F0 m 52 ls [.null])
          refine lv_ifnullN (tgt := 58) hx hb dX11_whyNoRow_52 (by decide) ?_
          refine lv_aload_n hx hb dX11_whyNoRow_58 rfl (lv_at hl 0 rfl) ?_
          refine fg_RX11_30 E hW rh0 dX11_whyNoRow_59 (fun a44 m45 r46 => ?_)
          refine t_callV (As := []) (rest := []) E hW (c_X8_floats l G cI cJ cZ cD cR cT kp L f16 hW.2.2.2 _ a44 r46) r46 (by decide) rfl wk_X8_floats tw_791 rfl ⟨Nat.le_of_ble_eq_true rfl, Nat.le_of_ble_eq_true rfl⟩ ⟨rfl, rfl⟩ hl.1 rfl (Nat.le_of_ble_eq_true rfl) dX11_whyNoRow_62 ⟨Nat.le_of_ble_eq_true rfl, Nat.le_of_ble_eq_true rfl⟩ (fun v47 f48 H locs q49 hW => ?_)
          obtain ⟨⟨x51, rfl, p52⟩, g50⟩ := q49
          have hF := FM.tr hF g50 rfl
          refine lv_istore_n (lv' := [(3, .int x51), (0, .ref h0), (1, .int u1), (2, .int u2)]) hx hb dX11_whyNoRow_65 rfl hl (by decide) rfl (fun ls hl => ?_)
          refine lv_iload_n hx hb dX11_whyNoRow_66 rfl (lv_at hl 0 rfl) ?_
          refine q_if_eq (tgt := 86) hx hb dX11_whyNoRow_67 (by decide) rfl (fun c53 => ?_) (fun c53 => ?_)
          · refine lv_bipush (v := (-6)) hx hb dX11_whyNoRow_86 (by decide) ?_
            refine lv_goto (tgt := 92) hx hb dX11_whyNoRow_88 (by decide) ?_
            exact e_I E hW rfl ⟨⟨_, rfl, (by have hk : ((-6) : Int32).toInt = -6 := rfl; first | decide | omega)⟩, hF⟩ dX11_whyNoRow_92
          · refine lv_iload_n hx hb dX11_whyNoRow_70 rfl (lv_at hl 0 rfl) ?_
            refine lv_aload_n hx hb dX11_whyNoRow_71 rfl (lv_at hl 1 rfl) ?_
            refine fg_RX11_12 E hW rh0 dX11_whyNoRow_72 (fun a54 m55 r56 => ?_)
            obtain rfl : a9 = a54 := (((fm_R g50 rh0 rfl).trans m31)).symm.trans m55
            refine fg_RX11_114 E hW r11 dX11_whyNoRow_75 (fun a57 m58 r59 => ?_)
            obtain rfl : a12 = a57 := (((fm_R g50 r11 rfl).trans ((fm_R g18 r11 rfl).trans m13))).symm.trans m58
            refine fg_RX11_130 E hW r14 dX11_whyNoRow_78 (fun y60 m61 b62 => ?_)
            refine lv_iload_n hx hb dX11_whyNoRow_81 rfl (lv_at hl 3 rfl) ?_
            refine q_isub hx hb dX11_whyNoRow_82 rfl rfl (by omega) (fun x63 h64 => ?_)
            refine q_icmp_le (tgt := 91) hx hb dX11_whyNoRow_83 (by decide) rfl rfl (fun c65 => ?_) (fun c65 => ?_)
            · refine lv_iconst (v := 0) hx hb dX11_whyNoRow_91 (by decide) ?_
              exact e_I E hW rfl ⟨⟨_, rfl, (by have hk : (0 : Int32).toInt = 0 := rfl; first | decide | omega)⟩, hF⟩ dX11_whyNoRow_92
            · refine lv_bipush (v := (-6)) hx hb dX11_whyNoRow_86 (by decide) ?_
              refine lv_goto (tgt := 92) hx hb dX11_whyNoRow_88 (by decide) ?_
              exact e_I E hW rfl ⟨⟨_, rfl, (by have hk : ((-6) : Int32).toInt = -6 := rfl; first | decide | omega)⟩, hF⟩ dX11_whyNoRow_92
        · have r43 : RK kp L a42 6 := k40 _ rfl
          have hl : lv_has ls 4 [(0, .ref h0), (1, .int u1), (2, .int u2)] := hl
          show W p l e ({ frames := 2, cells := 0, slots := 0, locals := 61 }) s m ([.ref h0, .int u1, .int u2] : List Value).toArray below meth c _ _ 0 0 (MQ below (QT (po_X11_whyNoRow_x kp L f0 h0 u1 u2) G cI cJ cZ cD cR cT A kp L) ([.ref h0, .int u1, .int u2] : List Value).toArray s 0 0 A) (F0 m 52 ls [.ref a42])
          refine lv_ifnull hx hb dX11_whyNoRow_52 ?_
          refine lv_bipush (v := (-4)) hx hb dX11_whyNoRow_55 (by decide) ?_
          exact e_I E hW rfl ⟨⟨_, rfl, (by have hk : ((-4) : Int32).toInt = -4 := rfl; first | decide | omega)⟩, hF⟩ dX11_whyNoRow_57
      · refine lv_bipush (v := (-3)) hx hb dX11_whyNoRow_37 (by decide) ?_
        exact e_I E hW rfl ⟨⟨_, rfl, (by have hk : ((-3) : Int32).toInt = -3 := rfl; first | decide | omega)⟩, hF⟩ dX11_whyNoRow_39
    · clear p20
      refine lv_bipush (v := (-2)) hx hb dX11_whyNoRow_23 (by decide) ?_
      exact e_I E hW rfl ⟨⟨_, rfl, (by have hk : ((-2) : Int32).toInt = -2 := rfl; first | decide | omega)⟩, hF⟩ dX11_whyNoRow_25
  · have q66 : (u1.toInt < 0 ∨ 399 < u1.toInt) := by omega
    clear p6
    refine lv_iconst (v := (-1)) hx hb dX11_whyNoRow_7 (by decide) ?_
    exact e_I E hW rfl ⟨⟨_, rfl, (by have hk : ((-1) : Int32).toInt = -1 := rfl; first | decide | omega)⟩, hF⟩ dX11_whyNoRow_8
