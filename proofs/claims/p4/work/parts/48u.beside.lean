
set_option maxHeartbeats 4000000 in
set_option maxRecDepth 100000 in
theorem beside_tail_u (l : Launch) (G : va_G) (cI cJ cZ cD cR cT : ClassId) (kp : Nat → Nat) (L : List Nat) (f0 : Nat → va_E) (p : Program) (e : Env) (s : State) (m : MethodId) (below : List Frame) (meth : Method) (c : Code) (A : Nat → Prop) (Q : State → Prop) (h0 : Nat) (u1 : Int32) (u2 : Int32) (x : Option Nat) (rh0 : RK kp L h0 11) (rx : ∀ b, x = some b → RK kp L b 9) (N1 N10 N15 N101 N103 N104 N106 N154 N155 : Nat) (mN1 : oR (f0 h0) 1 = N1) (rN1 : RK kp L N1 0) (mN10 : oR (f0 N1) 0 = N10) (rN10 : RK kp L N10 4) (mN15 : oR (f0 N1) 5 = N15) (rN15 : RK kp L N15 3) (mN101 : oR (f0 N10) 1 = N101) (rN101 : RK kp L N101 341) (mN103 : oR (f0 N10) 3 = N103) (rN103 : RK kp L N103 343) (mN104 : oR (f0 N10) 4 = N104) (rN104 : RK kp L N104 344) (mN106 : oR (f0 N10) 6 = N106) (rN106 : RK kp L N106 346) (mN154 : oR (f0 N15) 4 = N154) (rN154 : RK kp L N154 284) (mN155 : oR (f0 N15) 5 = N155) (rN155 : RK kp L N155 285) (ls : Array Slot) (H : Heap) (locs : List Loc) (E : EV G cI cJ cZ cD cR cT A cX11_beside (some .long) 4 yX11_beside.cls p s m ([.ref h0, .int u1] : List Value).toArray meth c) (hW : WS G cI cJ cZ cD cR cT A kp L f0 s H locs) (hl : lv_has ls 4 [(0, .ref h0), (1, .int u1), (2, .int u2)])
  (hend : ∀ (pc : Nat) (r : Int64) (f : Nat → va_E) (ls : Array Slot) (H : Heap) (locs : List Loc), EV G cI cJ cZ cD cR cT A cX11_beside (some .long) 4 yX11_beside.cls p s m ([.ref h0, .int u1] : List Value).toArray meth c → FM kp L ms_X11_beside f0 f → WU kp L [N10, N101, N103, N104, N106, N15, N154, N155] f0 f → WS G cI cJ cZ cD cR cT A kp L f s H locs → decode cX11_beside pc = .ok (.lreturn, 1) → W p l e ({ frames := 25, cells := 8, slots := 2810, locals := 640 }) s m ([.ref h0, .int u1] : List Value).toArray below meth c H locs 8 2810 Q (F0 m pc ls [.long r])) : W p l e ({ frames := 25, cells := 8, slots := 2810, locals := 640 }) s m ([.ref h0, .int u1] : List Value).toArray below meth c H locs 8 2810 Q (F0 m 55 ls [va_rf x]) := by
  obtain ⟨hx, hb, -, hml, hown, hts, -, -, -⟩ := id E
  have hTH := hW.2.2.2
  have hF : FM kp L ms_X11_beside f0 f0 := FM.rf
  rcases x with _ | a1
  · have hl : lv_has ls 4 [(0, .ref h0), (1, .int u1), (2, .int u2)] := hl
    show W p l e ({ frames := 25, cells := 8, slots := 2810, locals := 640 }) s m ([.ref h0, .int u1] : List Value).toArray below meth c H locs 8 2810 Q (F0 m 55 ls [.null])
    refine lv_astore_nN (lv' := [(3, .null), (0, .ref h0), (1, .int u1), (2, .int u2)]) hx hb dX11_beside_55 rfl hl (by decide) rfl (fun ls hl => ?_)
    refine lv_aload_n hx hb dX11_beside_56 rfl (lv_at hl 1 rfl) ?_
    refine fg_RX11_30 E hW rh0 dX11_beside_57 (fun a3 m4 r5 => ?_)
    refine lv_iconst (v := 0) hx hb dX11_beside_60 (by decide) ?_
    have hW0 := hW.2.2.2
    refine fp_RX11_209 E hW r5 (by decide) dX11_beside_61 (fun f6 H locs e7 n8 g9 hW => ?_)
    have z10 : WU kp L [N10, N101, N103, N104, N106, N15, N154, N155] f0 f6 := wu_fm (wu_rf : WU kp L [N10, N101, N103, N104, N106, N15, N154, N155] f0 f0) g9 rfl
    have hF := FM.tr hF g9 rfl
    refine lv_aload_nN hx hb dX11_beside_64 rfl (lv_at hl 0 rfl) ?_
    refine lv_ifnonnullN hx hb dX11_beside_65 ?_
    refine lv_ldc2 (v := (-2000000000000)) hx hb hown (hts _ tw_1335) dX11_beside_68 ?_
    refine lv_goto (tgt := 87) hx hb dX11_beside_71 (by decide) ?_
    exact hend _ _ _ _ _ _ E hF z10 hW dX11_beside_87
  · have r2 : RK kp L a1 9 := rx _ rfl
    have hl : lv_has ls 4 [(0, .ref h0), (1, .int u1), (2, .int u2)] := hl
    show W p l e ({ frames := 25, cells := 8, slots := 2810, locals := 640 }) s m ([.ref h0, .int u1] : List Value).toArray below meth c H locs 8 2810 Q (F0 m 55 ls [.ref a1])
    refine lv_astore_n (lv' := [(3, .ref a1), (0, .ref h0), (1, .int u1), (2, .int u2)]) hx hb dX11_beside_55 rfl hl (by decide) rfl (fun ls hl => ?_)
    refine lv_aload_n hx hb dX11_beside_56 rfl (lv_at hl 1 rfl) ?_
    refine fg_RX11_30 E hW rh0 dX11_beside_57 (fun a11 m12 r13 => ?_)
    refine lv_iconst (v := 0) hx hb dX11_beside_60 (by decide) ?_
    have hW0 := hW.2.2.2
    refine fp_RX11_209 E hW r13 (by decide) dX11_beside_61 (fun f14 H locs e15 n16 g17 hW => ?_)
    have z18 : WU kp L [N10, N101, N103, N104, N106, N15, N154, N155] f0 f14 := wu_fm (wu_rf : WU kp L [N10, N101, N103, N104, N106, N15, N154, N155] f0 f0) g17 rfl
    have hF := FM.tr hF g17 rfl
    refine lv_aload_n hx hb dX11_beside_64 rfl (lv_at hl 0 rfl) ?_
    refine lv_ifnonnull (tgt := 74) hx hb dX11_beside_65 (by decide) ?_
    refine lv_aload_n hx hb dX11_beside_74 rfl (lv_at hl 1 rfl) ?_
    refine lv_iload_n hx hb dX11_beside_75 rfl (lv_at hl 2 rfl) ?_
    refine lv_aload_n hx hb dX11_beside_76 rfl (lv_at hl 0 rfl) ?_
    have hW0 := hW.2.2.2
    refine t_callV (As := [.int u1, .ref a1]) (rest := []) E hW (c_X11_gotOnPaper_ut l G cI cJ cZ cD cR cT kp L f14 hW.2.2.2 _ h0 u1 a1 rh0 r2) rh0 (by decide) rfl wk_X11_gotOnPaper tw_1336 rfl ⟨Nat.le_of_ble_eq_true rfl, Nat.le_of_ble_eq_true rfl⟩ ⟨rfl, rfl⟩ hl.1 rfl (Nat.le_of_ble_eq_true rfl) dX11_beside_77 ⟨Nat.le_of_ble_eq_true rfl, Nat.le_of_ble_eq_true rfl⟩ (fun v19 f20 H locs q21 hW => ?_)
    obtain ⟨⟨x24, rfl, p25⟩, g22, h23⟩ := q21
    clear p25
    have hF := FM.tr hF g22 rfl
    have z27 : WU kp L [N10, N101, N103, N104, N106, N15, N154, N155] f0 f20 := wu_call z18 h23 (by rw [((fm_R g17 rh0 rfl).trans mN1), ((fm_R g17 rN1 rfl).trans mN10), ((fm_R g17 rN1 rfl).trans mN15), ((fm_R g17 rN10 rfl).trans mN101), ((fm_R g17 rN10 rfl).trans mN103), ((fm_R g17 rN10 rfl).trans mN104), ((fm_R g17 rN10 rfl).trans mN106), ((fm_R g17 rN15 rfl).trans mN154), ((fm_R g17 rN15 rfl).trans mN155)]; intro q h; simp only [List.mem_cons, List.not_mem_nil, or_false] at h ⊢; omega)
    refine lv_aload_n hx hb dX11_beside_80 rfl (lv_at hl 1 rfl) ?_
    refine lv_iload_n hx hb dX11_beside_81 rfl (lv_at hl 2 rfl) ?_
    refine lv_null hx hb dX11_beside_82 ?_
    have hW0 := hW.2.2.2
    refine t_callV (As := [.int u1, .null]) (rest := [.long x24]) E hW (c_X11_gotOnPaper_un l G cI cJ cZ cD cR cT kp L f20 hW.2.2.2 _ h0 u1 rh0) rh0 (by decide) rfl wk_X11_gotOnPaper tw_1336 rfl ⟨Nat.le_of_ble_eq_true rfl, Nat.le_of_ble_eq_true rfl⟩ ⟨rfl, rfl⟩ hl.1 rfl (Nat.le_of_ble_eq_true rfl) dX11_beside_83 ⟨Nat.le_of_ble_eq_true rfl, Nat.le_of_ble_eq_true rfl⟩ (fun v28 f29 H locs q30 hW => ?_)
    obtain ⟨⟨x33, rfl, p34⟩, g31, h32⟩ := q30
    clear p34
    have hF := FM.tr hF g31 rfl
    have z36 : WU kp L [N10, N101, N103, N104, N106, N15, N154, N155] f0 f29 := wu_call z27 h32 (by rw [((fm_R g22 rh0 rfl).trans ((fm_R g17 rh0 rfl).trans mN1)), ((fm_R g22 rN1 rfl).trans ((fm_R g17 rN1 rfl).trans mN10)), ((fm_R g22 rN1 rfl).trans ((fm_R g17 rN1 rfl).trans mN15)), ((fm_R g22 rN10 rfl).trans ((fm_R g17 rN10 rfl).trans mN101)), ((fm_R g22 rN10 rfl).trans ((fm_R g17 rN10 rfl).trans mN103)), ((fm_R g22 rN10 rfl).trans ((fm_R g17 rN10 rfl).trans mN104)), ((fm_R g22 rN10 rfl).trans ((fm_R g17 rN10 rfl).trans mN106)), ((fm_R g22 rN15 rfl).trans ((fm_R g17 rN15 rfl).trans mN154)), ((fm_R g22 rN15 rfl).trans ((fm_R g17 rN15 rfl).trans mN155))]; intro q h; simp only [List.mem_cons, List.not_mem_nil, or_false] at h ⊢; omega)
    refine u_lsub hx hb dX11_beside_86 (fun x37 => ?_)
    exact hend _ _ _ _ _ _ E hF z36 hW dX11_beside_87
set_option maxHeartbeats 4000000 in
set_option maxRecDepth 100000 in
/-- another act is tried beside -/
theorem c_X11_beside_u (l : Launch) (G : va_G) (cI cJ cZ cD cR cT : ClassId) (kp : Nat → Nat) (L : List Nat) (f0 : Nat → va_E) (hTH : TH cI cJ cZ cD cR cT kp L f0) (sz : Nat) (σ : SE) (h0 : Nat) (u1 : Int32) (rh0 : RK kp L h0 11) : Met l yX11_beside (Cond.code yX11_beside cX11_beside 4 (some .long) :: wTab) ({ frames := 25, cells := 8, slots := 2810, locals := 640 }) (va_Pc [.ref h0, .int u1] (PreSC σ G (tys6 cI cJ cZ cD cR cT) (va_pl L f0) sz)) (QX (fun v _ _ f => (∃ r : Int64, v = some (.long r)) ∧ FM kp L ms_X11_beside f0 f ∧ WU kp L [(oR (f0 (oR (f0 h0) 1)) 0), (oR (f0 (oR (f0 (oR (f0 h0) 1)) 0)) 1), (oR (f0 (oR (f0 (oR (f0 h0) 1)) 0)) 3), (oR (f0 (oR (f0 (oR (f0 h0) 1)) 0)) 4), (oR (f0 (oR (f0 (oR (f0 h0) 1)) 0)) 6), (oR (f0 (oR (f0 h0) 1)) 5), (oR (f0 (oR (f0 (oR (f0 h0) 1)) 5)) 4), (oR (f0 (oR (f0 (oR (f0 h0) 1)) 5)) 5)] f0 f) G cI cJ cZ cD cR cT (va_A (va_pl L f0) sz) kp L) 8 2810 (va_A (va_pl L f0) sz) := by
  refine metTSC (by decide) (Nat.le_of_ble_eq_true rfl) hTH ?_
  intro p e s m below meth c A ls E hSX hCA hW hl
  obtain ⟨hx, hb, -, hml, hown, hts, -, -, -⟩ := id E
  have hl : lv_has ls 4 [(0, .ref h0), (1, .int u1)] := hl
  obtain ⟨N1, mN1⟩ : ∃ x : Nat, oR (f0 h0) 1 = x := ⟨_, rfl⟩
  have rN1 : RK kp L N1 0 := by rw [← mN1]; exact th_ref hTH rh0 (by decide) (by decide) rfl
  obtain ⟨N10, mN10⟩ : ∃ x : Nat, oR (f0 N1) 0 = x := ⟨_, rfl⟩
  have rN10 : RK kp L N10 4 := by rw [← mN10]; exact th_ref hTH rN1 (by decide) (by decide) rfl
  obtain ⟨N15, mN15⟩ : ∃ x : Nat, oR (f0 N1) 5 = x := ⟨_, rfl⟩
  have rN15 : RK kp L N15 3 := by rw [← mN15]; exact th_ref hTH rN1 (by decide) (by decide) rfl
  obtain ⟨N101, mN101⟩ : ∃ x : Nat, oR (f0 N10) 1 = x := ⟨_, rfl⟩
  have rN101 : RK kp L N101 341 := by rw [← mN101]; exact th_ref hTH rN10 (by decide) (by decide) rfl
  obtain ⟨N103, mN103⟩ : ∃ x : Nat, oR (f0 N10) 3 = x := ⟨_, rfl⟩
  have rN103 : RK kp L N103 343 := by rw [← mN103]; exact th_ref hTH rN10 (by decide) (by decide) rfl
  obtain ⟨N104, mN104⟩ : ∃ x : Nat, oR (f0 N10) 4 = x := ⟨_, rfl⟩
  have rN104 : RK kp L N104 344 := by rw [← mN104]; exact th_ref hTH rN10 (by decide) (by decide) rfl
  obtain ⟨N106, mN106⟩ : ∃ x : Nat, oR (f0 N10) 6 = x := ⟨_, rfl⟩
  have rN106 : RK kp L N106 346 := by rw [← mN106]; exact th_ref hTH rN10 (by decide) (by decide) rfl
  obtain ⟨N154, mN154⟩ : ∃ x : Nat, oR (f0 N15) 4 = x := ⟨_, rfl⟩
  have rN154 : RK kp L N154 284 := by rw [← mN154]; exact th_ref hTH rN15 (by decide) (by decide) rfl
  obtain ⟨N155, mN155⟩ : ∃ x : Nat, oR (f0 N15) 5 = x := ⟨_, rfl⟩
  have rN155 : RK kp L N155 285 := by rw [← mN155]; exact th_ref hTH rN15 (by decide) (by decide) rfl
  refine lv_aload_n hx hb dX11_beside_0 rfl (lv_at hl 0 rfl) ?_
  refine lv_iload_n hx hb dX11_beside_1 rfl (lv_at hl 1 rfl) ?_
  refine t_callV (As := [.int u1]) (rest := []) E hW (c_X11_canGo l G cI cJ cZ cD cR cT kp L f0 hW.2.2.2 _ h0 u1 rh0) rh0 (by decide) rfl wk_X11_canGo tw_1110 rfl ⟨Nat.le_of_ble_eq_true rfl, Nat.le_of_ble_eq_true rfl⟩ ⟨rfl, rfl⟩ hl.1 rfl (Nat.le_of_ble_eq_true rfl) dX11_beside_2 ⟨Nat.le_of_ble_eq_true rfl, Nat.le_of_ble_eq_true rfl⟩ (fun v f1 H locs q hW => ?_)
  obtain ⟨⟨x1, rfl, -⟩, g1⟩ := q
  have wA : WU kp L [N10, N101, N103, N104, N106, N15, N154, N155] f0 f1 := wu_fm wu_rf g1 rfl
  have nN1 : oR (f1 h0) 1 = N1 := (fm_R g1 rh0 rfl).trans mN1
  have nN10 : oR (f1 N1) 0 = N10 := (fm_R g1 rN1 rfl).trans mN10
  have nN15 : oR (f1 N1) 5 = N15 := (fm_R g1 rN1 rfl).trans mN15
  have nN101 : oR (f1 N10) 1 = N101 := (fm_R g1 rN10 rfl).trans mN101
  have nN103 : oR (f1 N10) 3 = N103 := (fm_R g1 rN10 rfl).trans mN103
  have nN104 : oR (f1 N10) 4 = N104 := (fm_R g1 rN10 rfl).trans mN104
  have nN106 : oR (f1 N10) 6 = N106 := (fm_R g1 rN10 rfl).trans mN106
  have nN154 : oR (f1 N15) 4 = N154 := (fm_R g1 rN15 rfl).trans mN154
  have nN155 : oR (f1 N15) 5 = N155 := (fm_R g1 rN15 rfl).trans mN155
  have J : ∀ (z : Int32) (ls : Array Slot), lv_has ls 4 [(0, .ref h0), (1, .int u1)] → W p l e ({ frames := 25, cells := 8, slots := 2810, locals := 640 }) s m ([.ref h0, .int u1] : List Value).toArray below meth c H locs 0 0 (MQ below (QX (fun v _ _ f => (∃ r : Int64, v = some (.long r)) ∧ FM kp L ms_X11_beside f0 f ∧ WU kp L [(oR (f0 (oR (f0 h0) 1)) 0), (oR (f0 (oR (f0 (oR (f0 h0) 1)) 0)) 1), (oR (f0 (oR (f0 (oR (f0 h0) 1)) 0)) 3), (oR (f0 (oR (f0 (oR (f0 h0) 1)) 0)) 4), (oR (f0 (oR (f0 (oR (f0 h0) 1)) 0)) 6), (oR (f0 (oR (f0 h0) 1)) 5), (oR (f0 (oR (f0 (oR (f0 h0) 1)) 5)) 4), (oR (f0 (oR (f0 (oR (f0 h0) 1)) 5)) 5)] f0 f) G cI cJ cZ cD cR cT A kp L) ([.ref h0, .int u1] : List Value).toArray s 8 2810 A) (F0 m 28 ls [.int z]) := by
    intro z ls hl
    refine lv_istore_n (lv' := [(2, .int z), (0, .ref h0), (1, .int u1)]) hx hb dX11_beside_28 rfl hl (by decide) rfl (fun ls hl => ?_)
    refine lv_iload_n hx hb dX11_beside_29 rfl (lv_at hl 0 rfl) ?_
    refine q_if_eq (tgt := 54) hx hb dX11_beside_30 (by decide) rfl (fun c1 => ?_) (fun c1 => ?_)
    · refine lv_null hx hb dX11_beside_54 ?_
      refine W.widen (k := 8) (n := 2810) (Nat.le_of_ble_eq_true rfl) (Nat.le_of_ble_eq_true rfl) ?_
      exact beside_tail_u l G cI cJ cZ cD cR cT kp L f1 p e s m below meth c A _ h0 u1 z none rh0 (fun b h => by cases h) N1 N10 N15 N101 N103 N104 N106 N154 N155 nN1 rN1 nN10 rN10 nN15 rN15 nN101 rN101 nN103 rN103 nN104 rN104 nN106 rN106 nN154 rN154 nN155 rN155 ls H locs E hW (lv_sub hl [1, 2, 0] rfl) (fun pc r f ls H locs E hF hw hW hd => eX_J E ext_rf hW rfl ⟨⟨r, rfl⟩, FM.tr (FM.tr FM.rf g1 (by decide +kernel)) hF (by decide +kernel), by rw [mN1, mN10, mN15, mN101, mN103, mN104, mN106, mN154, mN155]; exact wu_call wA hw (fun q h => h)⟩ hd)
    · refine lv_aload_n hx hb dX11_beside_33 rfl (lv_at hl 1 rfl) ?_
      refine fg_RX11_37 E hW rh0 dX11_beside_34 (fun aR mR rR => ?_)
      refine lv_aload_n hx hb dX11_beside_37 rfl (lv_at hl 1 rfl) ?_
      refine fg_RX11_30 E hW rh0 dX11_beside_38 (fun aT mT rT => ?_)
      refine lv_aload_n hx hb dX11_beside_41 rfl (lv_at hl 1 rfl) ?_
      refine fg_RX11_12 E hW rh0 dX11_beside_42 (fun aC mC rC => ?_)
      refine fg_RX11_255 E hW rC dX11_beside_45 (fun yn mn bn => ?_)
      refine t_callVSC (As := [.ref aT, .int yn]) (rest := []) E hSX hCA hW (c_X5_read l G cI cJ cZ cD cR cT kp L f1 hW.2.2.2 _ σ aR aT yn rR rT) rR (by decide) rfl wk_X5_read tw_863 rfl ⟨Nat.le_of_ble_eq_true rfl, Nat.le_of_ble_eq_true rfl⟩ ⟨rfl, rfl⟩ hl.1 rfl (Nat.le_of_ble_eq_true rfl) dX11_beside_48 ⟨Nat.le_of_ble_eq_true rfl, Nat.le_of_ble_eq_true rfl⟩ (fun v kp1 L1 f2 H locs hE q hW => ?_)
      obtain ⟨qv, g2⟩ := q
      obtain ⟨x, rfl, rx⟩ : ∃ x : Option Nat, v = some (va_rf x) ∧ ∀ b, x = some b → RK kp1 L1 b 9 := by
        rcases qv with rfl | ⟨t, rfl, rt⟩
        · exact ⟨none, rfl, fun b h => by cases h⟩
        · exact ⟨some t, rfl, fun b h => by cases h; exact rt⟩
      refine lv_goto (tgt := 55) hx hb dX11_beside_51 (by decide) ?_
      refine W.more (c2 := 8) (s2 := 2810) (by omega) (by omega) ?_
      exact beside_tail_u l G cI cJ cZ cD cR cT kp1 L1 f2 p e s m below meth c A _ h0 u1 z x (hE _ _ rh0) rx N1 N10 N15 N101 N103 N104 N106 N154 N155 ((fm_R g2 rh0 rfl).trans nN1) (hE _ _ rN1) ((fm_R g2 rN1 rfl).trans nN10) (hE _ _ rN10) ((fm_R g2 rN1 rfl).trans nN15) (hE _ _ rN15) ((fm_R g2 rN10 rfl).trans nN101) (hE _ _ rN101) ((fm_R g2 rN10 rfl).trans nN103) (hE _ _ rN103) ((fm_R g2 rN10 rfl).trans nN104) (hE _ _ rN104) ((fm_R g2 rN10 rfl).trans nN106) (hE _ _ rN106) ((fm_R g2 rN15 rfl).trans nN154) (hE _ _ rN154) ((fm_R g2 rN15 rfl).trans nN155) (hE _ _ rN155) ls H locs E hW (lv_sub hl [1, 2, 0] rfl) (fun pc r f ls H locs E hF hw hW hd => eX_J E hE hW rfl ⟨⟨r, rfl⟩, FM.tr (FM.tr (FM.tr FM.rf g1 (by decide +kernel)) g2 (by decide +kernel)) (fm_res hE hF) (by decide +kernel), by rw [mN1, mN10, mN15, mN101, mN103, mN104, mN106, mN154, mN155]; exact wu_call (wu_fm wA g2 rfl) (wu_res hE hw) (fun q h => h)⟩ hd)
  refine q_if_eq (tgt := 27) hx hb dX11_beside_5 (by decide) rfl (fun c1 => ?_) (fun c1 => ?_)
  · refine lv_iconst (v := 0) hx hb dX11_beside_27 (by decide) ?_
    exact J 0 ls hl
  · refine lv_aload_n hx hb dX11_beside_8 rfl (lv_at hl 0 rfl) ?_
    refine fg_RX11_12 E hW rh0 dX11_beside_9 (fun aC mC rC => ?_)
    refine fg_RX11_219 E hW rC dX11_beside_12 (fun aL mL rL => ?_)
    refine fg_RX11_223 E hW rL dX11_beside_15 (fun yc mc bc => ?_)
    refine lv_bipush (v := 20) hx hb dX11_beside_18 (by decide) ?_
    refine q_icmp_ge (Y := 20) (tgt := 27) hx hb dX11_beside_20 (by decide) rfl rfl (fun c2 => ?_) (fun c2 => ?_)
    · refine lv_iconst (v := 0) hx hb dX11_beside_27 (by decide) ?_
      exact J 0 ls hl
    · refine lv_iconst (v := 1) hx hb dX11_beside_23 (by decide) ?_
      refine lv_goto (tgt := 28) hx hb dX11_beside_24 (by decide) ?_
      exact J 1 ls hl

