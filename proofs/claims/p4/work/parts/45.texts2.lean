/-! a TEXT is told; another act is tried beside -/
theorem dX11_text_7 : decode cX11_text 7 = .ok (.aload_n 0, 1) := by decide +kernel
theorem dX11_text_8 : decode cX11_text 8 = .ok (.iconst (-1), 1) := by decide +kernel
theorem dX11_text_9 : decode cX11_text 9 = .ok (.invokevirtual 59, 3) := by decide +kernel
theorem dX11_text_12 : decode cX11_text 12 = .ok (.ireturn, 1) := by decide +kernel
theorem dX11_text_28 : decode cX11_text 28 = .ok (.aload_n 0, 1) := by decide +kernel
theorem dX11_text_29 : decode cX11_text 29 = .ok (.bipush (-5), 2) := by decide +kernel
theorem dX11_text_31 : decode cX11_text 31 = .ok (.invokevirtual 59, 3) := by decide +kernel
theorem dX11_text_34 : decode cX11_text 34 = .ok (.ireturn, 1) := by decide +kernel
theorem dX11_beside_0 : decode cX11_beside 0 = .ok (.aload_n 0, 1) := by decide +kernel
theorem dX11_beside_1 : decode cX11_beside 1 = .ok (.iload_n 1, 1) := by decide +kernel
theorem dX11_beside_2 : decode cX11_beside 2 = .ok (.invokevirtual 273, 3) := by decide +kernel
theorem dX11_beside_5 : decode cX11_beside 5 = .ok (.ifCond .eq 22, 3) := by decide +kernel
theorem dX11_beside_8 : decode cX11_beside 8 = .ok (.aload_n 0, 1) := by decide +kernel
theorem dX11_beside_9 : decode cX11_beside 9 = .ok (.getfield 12, 3) := by decide +kernel
theorem dX11_beside_12 : decode cX11_beside 12 = .ok (.getfield 219, 3) := by decide +kernel
theorem dX11_beside_15 : decode cX11_beside 15 = .ok (.getfield 223, 3) := by decide +kernel
theorem dX11_beside_18 : decode cX11_beside 18 = .ok (.bipush 20, 2) := by decide +kernel
theorem dX11_beside_20 : decode cX11_beside 20 = .ok (.if_icmp .ge 7, 3) := by decide +kernel
theorem dX11_beside_23 : decode cX11_beside 23 = .ok (.iconst 1, 1) := by decide +kernel
theorem dX11_beside_24 : decode cX11_beside 24 = .ok (.goto 4, 3) := by decide +kernel
theorem dX11_beside_27 : decode cX11_beside 27 = .ok (.iconst 0, 1) := by decide +kernel
theorem dX11_beside_28 : decode cX11_beside 28 = .ok (.istore_n 2, 1) := by decide +kernel
theorem dX11_beside_29 : decode cX11_beside 29 = .ok (.iload_n 2, 1) := by decide +kernel
theorem dX11_beside_30 : decode cX11_beside 30 = .ok (.ifCond .eq 24, 3) := by decide +kernel
theorem dX11_beside_33 : decode cX11_beside 33 = .ok (.aload_n 0, 1) := by decide +kernel
theorem dX11_beside_34 : decode cX11_beside 34 = .ok (.getfield 37, 3) := by decide +kernel
theorem dX11_beside_37 : decode cX11_beside 37 = .ok (.aload_n 0, 1) := by decide +kernel
theorem dX11_beside_38 : decode cX11_beside 38 = .ok (.getfield 30, 3) := by decide +kernel
theorem dX11_beside_41 : decode cX11_beside 41 = .ok (.aload_n 0, 1) := by decide +kernel
theorem dX11_beside_42 : decode cX11_beside 42 = .ok (.getfield 12, 3) := by decide +kernel
theorem dX11_beside_45 : decode cX11_beside 45 = .ok (.getfield 255, 3) := by decide +kernel
theorem dX11_beside_48 : decode cX11_beside 48 = .ok (.invokevirtual 226, 3) := by decide +kernel
theorem dX11_beside_51 : decode cX11_beside 51 = .ok (.goto 4, 3) := by decide +kernel
theorem dX11_beside_54 : decode cX11_beside 54 = .ok (.aconst_null, 1) := by decide +kernel
set_option maxHeartbeats 4000000 in
set_option maxRecDepth 100000 in
/-- a TEXT is told -/
theorem c_X11_text (l : Launch) (G : va_G) (cI cJ cZ cD cR cT : ClassId) (kp : Nat → Nat) (L : List Nat) (f0 : Nat → va_E) (hTH : TH cI cJ cZ cD cR cT kp L f0) (sz : Nat) (σ : SE) (h0 : Nat) (u1 : Int32) (rh0 : RK kp L h0 11) : Met l yX11_text (Cond.code yX11_text cX11_text 3 (some .int) :: wTab) ({ frames := 25, cells := 8, slots := 2810, locals := 640 }) (va_Pc [.ref h0, .int u1] (PreSC σ G (tys6 cI cJ cZ cD cR cT) (va_pl L f0) sz)) (QX (fun v _ _ f => (∃ r : Int32, v = some (.int r)) ∧ FM kp L ms_X11_text f0 f) G cI cJ cZ cD cR cT (va_A (va_pl L f0) sz) kp L) 8 2810 (va_A (va_pl L f0) sz) := by
  refine metTSC (by decide) (Nat.le_of_ble_eq_true rfl) hTH ?_
  intro p e s m below meth c A ls E hSX hCA hW hl
  obtain ⟨hx, hb, -, hml, hown, hts, -, -, -⟩ := id E
  have hl : lv_has ls 3 [(0, .ref h0), (1, .int u1)] := hl
  refine lv_iload_n hx hb dX11_text_0 rfl (lv_at hl 1 rfl) ?_
  refine t_callS (As := [.int u1]) (rest := []) E hW (c_X11_isWeek l G cI cJ cZ cD cR cT kp L f0 hW.2.2.2 _ u1) wk_X11_isWeek tw_780 rfl ⟨Nat.le_of_ble_eq_true rfl, Nat.le_of_ble_eq_true rfl⟩ ⟨rfl, rfl⟩ hl.1 rfl (Nat.le_of_ble_eq_true rfl) dX11_text_1 ⟨Nat.le_of_ble_eq_true rfl, Nat.le_of_ble_eq_true rfl⟩ (fun v f1 H locs q hW => ?_)
  obtain ⟨⟨x1, rfl, -⟩, g1⟩ := q
  refine q_if_ne (tgt := 13) hx hb dX11_text_4 (by decide) rfl (fun c1 => ?_) (fun c1 => ?_)
  · refine lv_aload_n hx hb dX11_text_13 rfl (lv_at hl 0 rfl) ?_
    refine fg_RX11_12 E hW rh0 dX11_text_14 (fun aC mC rC => ?_)
    refine fg_RX11_219 E hW rC dX11_text_17 (fun aL mL rL => ?_)
    refine fg_RX11_223 E hW rL dX11_text_20 (fun yc mc bc => ?_)
    refine lv_bipush (v := 20) hx hb dX11_text_23 (by decide) ?_
    refine q_icmp_lt (Y := 20) (tgt := 35) hx hb dX11_text_25 (by decide) rfl rfl (fun c2 => ?_) (fun c2 => ?_)
    · refine lv_aload_n hx hb dX11_text_35 rfl (lv_at hl 0 rfl) ?_
      refine fg_RX11_37 E hW rh0 dX11_text_36 (fun aR mR rR => ?_)
      refine lv_aload_n hx hb dX11_text_39 rfl (lv_at hl 0 rfl) ?_
      refine fg_RX11_30 E hW rh0 dX11_text_40 (fun aT mT rT => ?_)
      refine lv_iload_n hx hb dX11_text_43 rfl (lv_at hl 1 rfl) ?_
      refine t_callVSC (As := [.ref aT, .int u1]) (rest := []) E hSX hCA hW (c_X5_read l G cI cJ cZ cD cR cT kp L f1 hW.2.2.2 _ σ aR aT u1 rR rT) rR (by decide) rfl wk_X5_read tw_863 rfl ⟨Nat.le_of_ble_eq_true rfl, Nat.le_of_ble_eq_true rfl⟩ ⟨rfl, rfl⟩ hl.1 rfl (Nat.le_of_ble_eq_true rfl) dX11_text_44 ⟨Nat.le_of_ble_eq_true rfl, Nat.le_of_ble_eq_true rfl⟩ (fun v kp1 L1 f2 H locs hE q hW => ?_)
      obtain ⟨qv, g2⟩ := q
      obtain ⟨x, rfl, rx⟩ : ∃ x : Option Nat, v = some (va_rf x) ∧ ∀ b, x = some b → RK kp1 L1 b 9 := by
        rcases qv with rfl | ⟨t, rfl, rt⟩
        · exact ⟨none, rfl, fun b h => by cases h⟩
        · exact ⟨some t, rfl, fun b h => by cases h; exact rt⟩
      refine W.more (c2 := 8) (s2 := 2810) (by omega) (by omega) ?_
      exact text_tail l G cI cJ cZ cD cR cT kp1 L1 f2 p e s m below meth c A _ h0 u1 x (hE _ _ rh0) rx ls H locs E hW hl (fun pc r f ls H locs E hF hW hd => eX_I E hE hW rfl ⟨⟨r, rfl⟩, FM.tr (FM.tr (FM.tr FM.rf g1 (by decide +kernel)) g2 (by decide +kernel)) (fm_res hE hF) (by decide +kernel)⟩ hd)
    · refine lv_aload_n hx hb dX11_text_28 rfl (lv_at hl 0 rfl) ?_
      refine lv_bipush (v := -5) hx hb dX11_text_29 (by decide) ?_
      refine t_callV (As := [.int (-5)]) (rest := []) E hW (c_X11_refuse l G cI cJ cZ cD cR cT kp L f1 hW.2.2.2 _ h0 (-5) rh0 (by decide)) rh0 (by decide) rfl wk_X11_refuse tw_603 rfl ⟨Nat.le_of_ble_eq_true rfl, Nat.le_of_ble_eq_true rfl⟩ ⟨rfl, rfl⟩ hl.1 rfl (Nat.le_of_ble_eq_true rfl) dX11_text_31 ⟨Nat.le_of_ble_eq_true rfl, Nat.le_of_ble_eq_true rfl⟩ (fun v fR H locs q hW => ?_)
      obtain ⟨⟨xR, rfl, -⟩, gR⟩ := q
      refine W.widen (k := 8) (n := 2810) (Nat.le_of_ble_eq_true rfl) (Nat.le_of_ble_eq_true rfl) ?_
      exact eX_I E ext_rf hW rfl ⟨⟨xR, rfl⟩, FM.tr (FM.tr FM.rf g1 (by decide +kernel)) gR (by decide +kernel)⟩ dX11_text_34
  · refine lv_aload_n hx hb dX11_text_7 rfl (lv_at hl 0 rfl) ?_
    refine lv_iconst (v := (-1)) hx hb dX11_text_8 (by decide) ?_
    refine t_callV (As := [.int (-1)]) (rest := []) E hW (c_X11_refuse l G cI cJ cZ cD cR cT kp L f1 hW.2.2.2 _ h0 (-1) rh0 (by decide)) rh0 (by decide) rfl wk_X11_refuse tw_603 rfl ⟨Nat.le_of_ble_eq_true rfl, Nat.le_of_ble_eq_true rfl⟩ ⟨rfl, rfl⟩ hl.1 rfl (Nat.le_of_ble_eq_true rfl) dX11_text_9 ⟨Nat.le_of_ble_eq_true rfl, Nat.le_of_ble_eq_true rfl⟩ (fun v fR H locs q hW => ?_)
    obtain ⟨⟨xR, rfl, -⟩, gR⟩ := q
    refine W.widen (k := 8) (n := 2810) (Nat.le_of_ble_eq_true rfl) (Nat.le_of_ble_eq_true rfl) ?_
    exact eX_I E ext_rf hW rfl ⟨⟨xR, rfl⟩, FM.tr (FM.tr FM.rf g1 (by decide +kernel)) gR (by decide +kernel)⟩ dX11_text_12
set_option maxHeartbeats 4000000 in
set_option maxRecDepth 100000 in
/-- another act is tried beside -/
theorem c_X11_beside (l : Launch) (G : va_G) (cI cJ cZ cD cR cT : ClassId) (kp : Nat → Nat) (L : List Nat) (f0 : Nat → va_E) (hTH : TH cI cJ cZ cD cR cT kp L f0) (sz : Nat) (σ : SE) (h0 : Nat) (u1 : Int32) (rh0 : RK kp L h0 11) : Met l yX11_beside (Cond.code yX11_beside cX11_beside 4 (some .long) :: wTab) ({ frames := 25, cells := 8, slots := 2810, locals := 640 }) (va_Pc [.ref h0, .int u1] (PreSC σ G (tys6 cI cJ cZ cD cR cT) (va_pl L f0) sz)) (QX (fun v _ _ f => (∃ r : Int64, v = some (.long r)) ∧ FM kp L ms_X11_beside f0 f) G cI cJ cZ cD cR cT (va_A (va_pl L f0) sz) kp L) 8 2810 (va_A (va_pl L f0) sz) := by
  refine metTSC (by decide) (Nat.le_of_ble_eq_true rfl) hTH ?_
  intro p e s m below meth c A ls E hSX hCA hW hl
  obtain ⟨hx, hb, -, hml, hown, hts, -, -, -⟩ := id E
  have hl : lv_has ls 4 [(0, .ref h0), (1, .int u1)] := hl
  refine lv_aload_n hx hb dX11_beside_0 rfl (lv_at hl 0 rfl) ?_
  refine lv_iload_n hx hb dX11_beside_1 rfl (lv_at hl 1 rfl) ?_
  refine t_callV (As := [.int u1]) (rest := []) E hW (c_X11_canGo l G cI cJ cZ cD cR cT kp L f0 hW.2.2.2 _ h0 u1 rh0) rh0 (by decide) rfl wk_X11_canGo tw_1110 rfl ⟨Nat.le_of_ble_eq_true rfl, Nat.le_of_ble_eq_true rfl⟩ ⟨rfl, rfl⟩ hl.1 rfl (Nat.le_of_ble_eq_true rfl) dX11_beside_2 ⟨Nat.le_of_ble_eq_true rfl, Nat.le_of_ble_eq_true rfl⟩ (fun v f1 H locs q hW => ?_)
  obtain ⟨⟨x1, rfl, -⟩, g1⟩ := q
  have J : ∀ (z : Int32) (ls : Array Slot), lv_has ls 4 [(0, .ref h0), (1, .int u1)] → W p l e ({ frames := 25, cells := 8, slots := 2810, locals := 640 }) s m ([.ref h0, .int u1] : List Value).toArray below meth c H locs 0 0 (MQ below (QX (fun v _ _ f => (∃ r : Int64, v = some (.long r)) ∧ FM kp L ms_X11_beside f0 f) G cI cJ cZ cD cR cT A kp L) ([.ref h0, .int u1] : List Value).toArray s 8 2810 A) (F0 m 28 ls [.int z]) := by
    intro z ls hl
    refine lv_istore_n (lv' := [(2, .int z), (0, .ref h0), (1, .int u1)]) hx hb dX11_beside_28 rfl hl (by decide) rfl (fun ls hl => ?_)
    refine lv_iload_n hx hb dX11_beside_29 rfl (lv_at hl 0 rfl) ?_
    refine q_if_eq (tgt := 54) hx hb dX11_beside_30 (by decide) rfl (fun c1 => ?_) (fun c1 => ?_)
    · refine lv_null hx hb dX11_beside_54 ?_
      refine W.widen (k := 8) (n := 2810) (Nat.le_of_ble_eq_true rfl) (Nat.le_of_ble_eq_true rfl) ?_
      exact beside_tail l G cI cJ cZ cD cR cT kp L f1 p e s m below meth c A _ h0 u1 z none rh0 (fun b h => by cases h) ls H locs E hW (lv_sub hl [1, 2, 0] rfl) (fun pc r f ls H locs E hF hW hd => eX_J E ext_rf hW rfl ⟨⟨r, rfl⟩, FM.tr (FM.tr FM.rf g1 (by decide +kernel)) hF (by decide +kernel)⟩ hd)
    · refine lv_aload_n hx hb dX11_beside_33 rfl (lv_at hl 1 rfl) ?_
      refine fg_RX11_37 E hW rh0 dX11_beside_34 (fun aR mR rR => ?_)
      refine lv_aload_n hx hb dX11_beside_37 rfl (lv_at hl 1 rfl) ?_
      refine fg_RX11_30 E hW rh0 dX11_beside_38 (fun aT mT rT => ?_)
      refine lv_aload_n hx hb dX11_beside_41 rfl (lv_at hl 1 rfl) ?_
      refine fg_RX11_12 E hW rh0 dX11_beside_42 (fun aC mC rC => ?_)
      refine fg_RX11_255 E hW rC dX11_beside_45 (fun yn mn bn => ?_)
      refine t_callVSC (As := [.ref aT, .int yn]) (rest := []) E hSX hCA hW (c_X5_read l G cI cJ cZ cD cR cT kp L f1 hW.2.2.2 _ σ aR aT yn rR rT) rR (by decide) rfl wk_X5_read tw_863 rfl ⟨Nat.le_of_ble_eq_true rfl, Nat.le_of_ble_eq_true rfl⟩ ⟨rfl, rfl⟩ hl.1 rfl (Nat.le_of_ble_eq_true rfl) dX11_beside_48 ⟨Nat.le_of_ble_eq_true rfl, Nat.le_of_ble_eq_true rfl⟩ (fun v kp1 L1 f2 H locs hE q hW => ?_)
      obtain ⟨qv, g2⟩ := q
      obtain ⟨x, rfl, rx⟩ : ∃ x : Option Nat, v = some (va_rf x) ∧ ∀ b, x = some b → RK kp1 L1 b 9 := by
        rcases qv with rfl | ⟨t, rfl, rt⟩
        · exact ⟨none, rfl, fun b h => by cases h⟩
        · exact ⟨some t, rfl, fun b h => by cases h; exact rt⟩
      refine lv_goto (tgt := 55) hx hb dX11_beside_51 (by decide) ?_
      refine W.more (c2 := 8) (s2 := 2810) (by omega) (by omega) ?_
      exact beside_tail l G cI cJ cZ cD cR cT kp1 L1 f2 p e s m below meth c A _ h0 u1 z x (hE _ _ rh0) rx ls H locs E hW (lv_sub hl [1, 2, 0] rfl) (fun pc r f ls H locs E hF hW hd => eX_J E hE hW rfl ⟨⟨r, rfl⟩, FM.tr (FM.tr (FM.tr FM.rf g1 (by decide +kernel)) g2 (by decide +kernel)) (fm_res hE hF) (by decide +kernel)⟩ hd)
  refine q_if_eq (tgt := 27) hx hb dX11_beside_5 (by decide) rfl (fun c1 => ?_) (fun c1 => ?_)
  · refine lv_iconst (v := 0) hx hb dX11_beside_27 (by decide) ?_
    exact J 0 ls hl
  · refine lv_aload_n hx hb dX11_beside_8 rfl (lv_at hl 0 rfl) ?_
    refine fg_RX11_12 E hW rh0 dX11_beside_9 (fun aC mC rC => ?_)
    refine fg_RX11_219 E hW rC dX11_beside_12 (fun aL mL rL => ?_)
    refine fg_RX11_223 E hW rL dX11_beside_15 (fun yc mc bc => ?_)
    refine lv_bipush (v := 20) hx hb dX11_beside_18 (by decide) ?_
    refine q_icmp_ge (Y := 20) (tgt := 27) hx hb dX11_beside_20 (by decide) rfl rfl (fun c2 => ?_) (fun c2 => ?_)
    · refine lv_iconst (v := 0) hx hb dX11_beside_27 (by decide) ?_
      exact J 0 ls hl
    · refine lv_iconst (v := 1) hx hb dX11_beside_23 (by decide) ?_
      refine lv_goto (tgt := 28) hx hb dX11_beside_24 (by decide) ?_
      exact J 1 ls hl
