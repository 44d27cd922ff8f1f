
def ms_X0_putOut : List (Nat × Nat) := [(0, 12), (164, 0), (166, 0), (167, 0), (346, 0), (347, 0)]
def po_X0_putOut (kp : Nat → Nat) (L : List Nat) (f0 : Nat → va_E) (h0 : Nat) (u1 : Int32) (u2 : Int32) : Option Value → (Nat → va_E) → Prop := fun v f => v = none ∧ FM kp L ms_X0_putOut f0 f
set_option maxHeartbeats 4000000 in
set_option maxRecDepth 100000 in
theorem c_X0_putOut (l : Launch) (G : va_G) (cI cJ cZ cD cR cT : ClassId) (kp : Nat → Nat) (L : List Nat) (f0 : Nat → va_E) (hTH : TH cI cJ cZ cD cR cT kp L f0) (sz : Nat) (h0 : Nat) (u1 : Int32) (u2 : Int32) (rh0 : RK kp L h0 0) (pu1 : (0 : Int) ≤ u1.toInt ∧ u1.toInt ≤ 39) (pu2 : (0 : Int) ≤ u2.toInt ∧ u2.toInt ≤ 39) : Met l yX0_putOut (Cond.code yX0_putOut cX0_putOut 3 none :: wTab) ({ frames := 2, cells := 0, slots := 0, locals := 62 }) (va_Pc [.ref h0, .int u1, .int u2] (PreW G (tys6 cI cJ cZ cD cR cT) (va_pl L f0) sz)) (QT (po_X0_putOut kp L f0 h0 u1 u2) G cI cJ cZ cD cR cT (va_A (va_pl L f0) sz) kp L) 0 0 (va_A (va_pl L f0) sz) := by
  refine metT (by decide) (Nat.le_of_ble_eq_true rfl) hTH ?_
  intro p e s m below meth c A ls E hW hl
  obtain ⟨hx, hb, -, hml, hown, hts, -, -, -⟩ := id E
  have hF : FM kp L ms_X0_putOut f0 f0 := FM.rf
  have hl : lv_has ls 3 [(0, .ref h0), (1, .int u1), (2, .int u2)] := hl
  refine lv_aload_n hx hb dX0_putOut_0 rfl (lv_at hl 0 rfl) ?_
  refine lv_dup hx hb dX0_putOut_1 rfl ?_
  refine fg_RX0_100 E hW rh0 dX0_putOut_2 (fun y1414114 m1414115 => ?_)
  refine lv_iconst (v := 1) hx hb dX0_putOut_5 (by decide) ?_
  refine u_iadd hx hb dX0_putOut_6 (fun x1414117 => ?_)
  refine fp_RX0_100 E hW rh0 dX0_putOut_7 (fun f1414118 H locs e1414119 n1414120 g1414121 hW => ?_)
  have hF := FM.tr hF g1414121 rfl
  refine lv_aload_n hx hb dX0_putOut_10 rfl (lv_at hl 0 rfl) ?_
  refine fg_RX0_21 E hW rh0 dX0_putOut_11 (fun a1414122 m1414123 r1414124 => ?_)
  refine fg_RX0_124 E hW r1414124 dX0_putOut_14 (fun a1414125 m1414126 r1414127 => ?_)
  refine lv_iload_n hx hb dX0_putOut_17 rfl (lv_at hl 1 rfl) ?_
  refine lv_iconst (v := (-1)) hx hb dX0_putOut_18 (by decide) ?_
  refine gs_164 E hW r1414127 ⟨by omega, by omega⟩ (by decide) dX0_putOut_19 (fun f1414128 H locs e1414129 n1414130 g1414131 hW => ?_)
  have hF := FM.tr hF g1414131 rfl
  refine lv_aload_n hx hb dX0_putOut_20 rfl (lv_at hl 0 rfl) ?_
  refine fg_RX0_21 E hW rh0 dX0_putOut_21 (fun a1414132 m1414133 r1414134 => ?_)
  obtain rfl : a1414122 = a1414132 := (((fm_R g1414131 rh0 rfl).trans m1414123)).symm.trans m1414133
  refine fg_RX0_127 E hW r1414124 dX0_putOut_24 (fun a1414135 m1414136 r1414137 => ?_)
  refine lv_iload_n hx hb dX0_putOut_27 rfl (lv_at hl 1 rfl) ?_
  refine lv_iconst (v := 0) hx hb dX0_putOut_28 (by decide) ?_
  refine gs_166 E hW r1414137 ⟨by omega, by omega⟩ dX0_putOut_29 (fun f1414138 H locs e1414139 n1414140 g1414141 hW => ?_)
  have hF := FM.tr hF g1414141 rfl
  refine lv_aload_n hx hb dX0_putOut_30 rfl (lv_at hl 0 rfl) ?_
  refine fg_RX0_21 E hW rh0 dX0_putOut_31 (fun a1414142 m1414143 r1414144 => ?_)
  obtain rfl : a1414122 = a1414142 := (((fm_R g1414141 rh0 rfl).trans m1414133)).symm.trans m1414143
  refine fg_RX0_256 E hW r1414124 dX0_putOut_34 (fun a1414145 m1414146 r1414147 => ?_)
  refine lv_iload_n hx hb dX0_putOut_37 rfl (lv_at hl 1 rfl) ?_
  refine lv_iconst (v := 1) hx hb dX0_putOut_38 (by decide) ?_
  refine gs_167 E hW r1414147 ⟨by omega, by omega⟩ dX0_putOut_39 (fun f1414148 H locs e1414149 n1414150 g1414151 hW => ?_)
  have hF := FM.tr hF g1414151 rfl
  refine lv_aload_n hx hb dX0_putOut_40 rfl (lv_at hl 0 rfl) ?_
  refine fg_RX0_12 E hW rh0 dX0_putOut_41 (fun a1414152 m1414153 r1414154 => ?_)
  refine fg_RX0_182 E hW r1414154 dX0_putOut_44 (fun a1414155 m1414156 r1414157 => ?_)
  refine lv_iload_n hx hb dX0_putOut_47 rfl (lv_at hl 2 rfl) ?_
  refine gl_346 E hW r1414157 ⟨by omega, by omega⟩ dX0_putOut_48 (fun y1414158 m1414159 => ?_)
  have J1414202 : ∀ (f1414194 : Nat → va_E) (m1414195 : oR (f1414194 a1414122) 4 = a1414125) (m1414196 : oR (f1414194 a1414122) 6 = a1414135) (m1414197 : oR (f1414194 a1414122) 7 = a1414145) (m1414198 : oR (f1414194 a1414152) 6 = a1414155) (m1414199 : oR (f1414194 h0) 0 = a1414152) (m1414200 : oR (f1414194 h0) 1 = a1414122) (m1414201 : oI (f1414194 h0) 12 = x1414117) (H : Heap) (locs : List Loc) (ls : Array Slot), WS G cI cJ cZ cD cR cT A kp L f1414194 s H locs → FM kp L ms_X0_putOut f0 f1414194 → lv_has ls 3 [(0, .ref h0), (1, .int u1), (2, .int u2)] → W p l e ({ frames := 2, cells := 0, slots := 0, locals := 62 }) s m ([.ref h0, .int u1, .int u2] : List Value).toArray below meth c H locs 0 0 (MQ below (QT (po_X0_putOut kp L f0 h0 u1 u2) G cI cJ cZ cD cR cT A kp L) ([.ref h0, .int u1, .int u2] : List Value).toArray s 0 0 A) (F0 m 86 ls []) := by
    intro f1414194 m1414195 m1414196 m1414197 m1414198 m1414199 m1414200 m1414201 H locs ls hW hF hl
    exact e_V E hW rfl ⟨rfl, hF⟩ dX0_putOut_86
  refine q_if_ne (tgt := 86) hx hb dX0_putOut_49 (by decide) rfl (fun c1414203 => ?_) (fun c1414203 => ?_)
  · exact J1414202 f1414148 ((fm_R g1414151 r1414124 rfl).trans ((fm_R g1414141 r1414124 rfl).trans ((fm_R g1414131 r1414124 rfl).trans m1414126))) ((fm_R g1414151 r1414124 rfl).trans ((fm_R g1414141 r1414124 rfl).trans m1414136)) ((fm_R g1414151 r1414124 rfl).trans m1414146) m1414156 m1414153 ((fm_R g1414151 rh0 rfl).trans m1414143) ((fm_I g1414151 rh0 rfl).trans ((fm_I g1414141 rh0 rfl).trans ((fm_I g1414131 rh0 rfl).trans e1414119))) _ _ _ hW hF (lv_sub hl [0, 1, 2] rfl)
  · refine lv_aload_n hx hb dX0_putOut_52 rfl (lv_at hl 0 rfl) ?_
    refine fg_RX0_21 E hW rh0 dX0_putOut_53 (fun a1414204 m1414205 r1414206 => ?_)
    obtain rfl : a1414122 = a1414204 := (((fm_R g1414151 rh0 rfl).trans m1414143)).symm.trans m1414205
    refine lv_iload_n hx hb dX0_putOut_56 rfl (lv_at hl 2 rfl) ?_
    refine t_callV (As := [.int u2]) (rest := []) E hW (c_X1_isHeldBy l G cI cJ cZ cD cR cT kp L f1414148 hW.2.2.2 _ a1414122 u2 r1414124 (by omega)) r1414124 (by decide) rfl wk_X1_isHeldBy tw_728 rfl ⟨Nat.le_of_ble_eq_true rfl, Nat.le_of_ble_eq_true rfl⟩ ⟨rfl, rfl⟩ hl.1 rfl (Nat.le_of_ble_eq_true rfl) dX0_putOut_57 ⟨Nat.le_of_ble_eq_true rfl, Nat.le_of_ble_eq_true rfl⟩ (fun v1414207 f1414208 H locs q1414209 hW => ?_)
    obtain ⟨⟨x1414211, rfl, p1414212⟩, g1414210⟩ := q1414209
    have hF := FM.tr hF g1414210 rfl
    refine q_if_ne (tgt := 86) hx hb dX0_putOut_60 (by decide) rfl (fun c1414213 => ?_) (fun c1414213 => ?_)
    · exact J1414202 f1414208 ((fm_R g1414210 r1414124 rfl).trans ((fm_R g1414151 r1414124 rfl).trans ((fm_R g1414141 r1414124 rfl).trans ((fm_R g1414131 r1414124 rfl).trans m1414126)))) ((fm_R g1414210 r1414124 rfl).trans ((fm_R g1414151 r1414124 rfl).trans ((fm_R g1414141 r1414124 rfl).trans m1414136))) ((fm_R g1414210 r1414124 rfl).trans ((fm_R g1414151 r1414124 rfl).trans m1414146)) ((fm_R g1414210 r1414154 rfl).trans m1414156) ((fm_R g1414210 rh0 rfl).trans m1414153) ((fm_R g1414210 rh0 rfl).trans m1414205) ((fm_I g1414210 rh0 rfl).trans ((fm_I g1414151 rh0 rfl).trans ((fm_I g1414141 rh0 rfl).trans ((fm_I g1414131 rh0 rfl).trans e1414119)))) _ _ _ hW hF (lv_sub hl [0, 1, 2] rfl)
    · refine lv_aload_n hx hb dX0_putOut_63 rfl (lv_at hl 0 rfl) ?_
      refine fg_RX0_12 E hW rh0 dX0_putOut_64 (fun a1414214 m1414215 r1414216 => ?_)
      obtain rfl : a1414152 = a1414214 := (((fm_R g1414210 rh0 rfl).trans m1414153)).symm.trans m1414215
      refine fg_RX0_182 E hW r1414154 dX0_putOut_67 (fun a1414217 m1414218 r1414219 => ?_)
      obtain rfl : a1414155 = a1414217 := (((fm_R g1414210 r1414154 rfl).trans m1414156)).symm.trans m1414218
      refine lv_iload_n hx hb dX0_putOut_70 rfl (lv_at hl 2 rfl) ?_
      refine lv_iconst (v := 1) hx hb dX0_putOut_71 (by decide) ?_
      refine gs_346 E hW r1414157 ⟨by omega, by omega⟩ dX0_putOut_72 (fun f1414220 H locs e1414221 n1414222 g1414223 hW => ?_)
      have hF := FM.tr hF g1414223 rfl
      refine lv_aload_n hx hb dX0_putOut_73 rfl (lv_at hl 0 rfl) ?_
      refine fg_RX0_12 E hW rh0 dX0_putOut_74 (fun a1414224 m1414225 r1414226 => ?_)
      obtain rfl : a1414152 = a1414224 := (((fm_R g1414223 rh0 rfl).trans m1414215)).symm.trans m1414225
      refine fg_RX0_130 E hW r1414154 dX0_putOut_77 (fun a1414227 m1414228 r1414229 => ?_)
      refine lv_iload_n hx hb dX0_putOut_80 rfl (lv_at hl 2 rfl) ?_
      refine lv_aload_n hx hb dX0_putOut_81 rfl (lv_at hl 0 rfl) ?_
      refine fg_RX0_93 E hW rh0 dX0_putOut_82 (fun y1414230 m1414231 b1414232 => ?_)
      refine gs_347 E hW r1414229 ⟨by omega, by omega⟩ dX0_putOut_85 (fun f1414233 H locs e1414234 n1414235 g1414236 hW => ?_)
      have hF := FM.tr hF g1414236 rfl
      exact J1414202 f1414233 ((fm_R g1414236 r1414124 rfl).trans ((fm_R g1414223 r1414124 rfl).trans ((fm_R g1414210 r1414124 rfl).trans ((fm_R g1414151 r1414124 rfl).trans ((fm_R g1414141 r1414124 rfl).trans ((fm_R g1414131 r1414124 rfl).trans m1414126)))))) ((fm_R g1414236 r1414124 rfl).trans ((fm_R g1414223 r1414124 rfl).trans ((fm_R g1414210 r1414124 rfl).trans ((fm_R g1414151 r1414124 rfl).trans ((fm_R g1414141 r1414124 rfl).trans m1414136))))) ((fm_R g1414236 r1414124 rfl).trans ((fm_R g1414223 r1414124 rfl).trans ((fm_R g1414210 r1414124 rfl).trans ((fm_R g1414151 r1414124 rfl).trans m1414146)))) ((fm_R g1414236 r1414154 rfl).trans ((fm_R g1414223 r1414154 rfl).trans m1414218)) ((fm_R g1414236 rh0 rfl).trans m1414225) ((fm_R g1414236 rh0 rfl).trans ((fm_R g1414223 rh0 rfl).trans ((fm_R g1414210 rh0 rfl).trans m1414205))) ((fm_I g1414236 rh0 rfl).trans ((fm_I g1414223 rh0 rfl).trans ((fm_I g1414210 rh0 rfl).trans ((fm_I g1414151 rh0 rfl).trans ((fm_I g1414141 rh0 rfl).trans ((fm_I g1414131 rh0 rfl).trans e1414119)))))) _ _ _ hW hF (lv_sub hl [0, 1, 2] rfl)
def ms_X0_advanceWrit : List (Nat × Nat) := [(0, 12), (164, 0), (166, 0), (167, 0), (346, 0), (347, 0), (703, 0), (704, 0), (706, 0)]
def po_X0_advanceWrit (kp : Nat → Nat) (L : List Nat) (f0 : Nat → va_E) (h0 : Nat) (u1 : Int32) : Option Value → (Nat → va_E) → Prop := fun v f => v = none ∧ FM kp L ms_X0_advanceWrit f0 f
set_option maxHeartbeats 4000000 in
set_option maxRecDepth 100000 in
theorem c_X0_advanceWrit (l : Launch) (G : va_G) (cI cJ cZ cD cR cT : ClassId) (kp : Nat → Nat) (L : List Nat) (f0 : Nat → va_E) (hTH : TH cI cJ cZ cD cR cT kp L f0) (sz : Nat) (h0 : Nat) (u1 : Int32) (rh0 : RK kp L h0 0) (pu1 : (0 : Int) ≤ u1.toInt ∧ u1.toInt ≤ 59) : Met l yX0_advanceWrit (Cond.code yX0_advanceWrit cX0_advanceWrit 3 none :: wTab) ({ frames := 3, cells := 0, slots := 0, locals := 87 }) (va_Pc [.ref h0, .int u1] (PreW G (tys6 cI cJ cZ cD cR cT) (va_pl L f0) sz)) (QT (po_X0_advanceWrit kp L f0 h0 u1) G cI cJ cZ cD cR cT (va_A (va_pl L f0) sz) kp L) 0 0 (va_A (va_pl L f0) sz) := by
  refine metT (by decide) (Nat.le_of_ble_eq_true rfl) hTH ?_
  intro p e s m below meth c A ls E hW hl
  obtain ⟨hx, hb, -, hml, hown, hts, -, -, -⟩ := id E
  have hF : FM kp L ms_X0_advanceWrit f0 f0 := FM.rf
  have hl : lv_has ls 3 [(0, .ref h0), (1, .int u1)] := hl
  refine lv_aload_n hx hb dX0_advanceWrit_0 rfl (lv_at hl 0 rfl) ?_
  refine fg_RX0_28 E hW rh0 dX0_advanceWrit_1 (fun a1414237 m1414238 r1414239 => ?_)
  refine fg_RX0_235 E hW r1414239 dX0_advanceWrit_4 (fun a1414240 m1414241 r1414242 => ?_)
  refine lv_iload_n hx hb dX0_advanceWrit_7 rfl (lv_at hl 1 rfl) ?_
  refine gl_701 E hW r1414242 ⟨by omega, by omega⟩ dX0_advanceWrit_8 (fun y1414243 m1414244 b1414245 => ?_)
  refine lv_istore_n (lv' := [(2, .int y1414243), (0, .ref h0), (1, .int u1)]) hx hb dX0_advanceWrit_9 rfl hl (by decide) rfl (fun ls hl => ?_)
  refine lv_aload_n hx hb dX0_advanceWrit_10 rfl (lv_at hl 1 rfl) ?_
  refine fg_RX0_21 E hW rh0 dX0_advanceWrit_11 (fun a1414246 m1414247 r1414248 => ?_)
  refine fg_RX0_188 E hW r1414248 dX0_advanceWrit_14 (fun a1414249 m1414250 r1414251 => ?_)
  refine lv_iload_n hx hb dX0_advanceWrit_17 rfl (lv_at hl 0 rfl) ?_
  refine gl_165 E hW r1414251 ⟨by omega, by omega⟩ dX0_advanceWrit_18 (fun y1414252 m1414253 => ?_)
  refine q_if_eq (tgt := 43) hx hb dX0_advanceWrit_19 (by decide) rfl (fun c1414255 => ?_) (fun c1414255 => ?_)
  · refine lv_aload_n hx hb dX0_advanceWrit_43 rfl (lv_at hl 1 rfl) ?_
    refine fg_RX0_28 E hW rh0 dX0_advanceWrit_44 (fun a1414256 m1414257 r1414258 => ?_)
    obtain rfl : a1414237 = a1414256 := (m1414238).symm.trans m1414257
    refine fg_RX0_151 E hW r1414239 dX0_advanceWrit_47 (fun a1414259 m1414260 r1414261 => ?_)
    refine lv_iload_n hx hb dX0_advanceWrit_50 rfl (lv_at hl 2 rfl) ?_
    refine lv_iconst (v := 0) hx hb dX0_advanceWrit_51 (by decide) ?_
    refine gs_706 E hW r1414261 ⟨by omega, by omega⟩ dX0_advanceWrit_52 (fun f1414262 H locs e1414263 n1414264 g1414265 hW => ?_)
    have hF := FM.tr hF g1414265 rfl
    exact e_V E hW rfl ⟨rfl, hF⟩ dX0_advanceWrit_53
  · refine lv_aload_n hx hb dX0_advanceWrit_22 rfl (lv_at hl 1 rfl) ?_
    refine fg_RX0_21 E hW rh0 dX0_advanceWrit_23 (fun a1414266 m1414267 r1414268 => ?_)
    obtain rfl : a1414246 = a1414266 := (m1414247).symm.trans m1414267
    refine fg_RX0_124 E hW r1414248 dX0_advanceWrit_26 (fun a1414269 m1414270 r1414271 => ?_)
    refine lv_iload_n hx hb dX0_advanceWrit_29 rfl (lv_at hl 0 rfl) ?_
    refine gl_164 E hW r1414271 ⟨by omega, by omega⟩ dX0_advanceWrit_30 (fun y1414272 m1414273 b1414274 => ?_)
    refine lv_aload_n hx hb dX0_advanceWrit_31 rfl (lv_at hl 1 rfl) ?_
    refine fg_RX0_28 E hW rh0 dX0_advanceWrit_32 (fun a1414275 m1414276 r1414277 => ?_)
    obtain rfl : a1414237 = a1414275 := (m1414238).symm.trans m1414276
    refine fg_RX0_238 E hW r1414239 dX0_advanceWrit_35 (fun a1414278 m1414279 r1414280 => ?_)
    refine lv_iload_n hx hb dX0_advanceWrit_38 rfl (lv_at hl 2 rfl) ?_
    refine gl_702 E hW r1414280 ⟨by omega, by omega⟩ dX0_advanceWrit_39 (fun y1414281 m1414282 b1414283 => ?_)
    refine q_icmp_eq (tgt := 54) hx hb dX0_advanceWrit_40 (by decide) rfl rfl (fun c1414284 => ?_) (fun c1414284 => ?_)
    · refine lv_aload_n hx hb dX0_advanceWrit_54 rfl (lv_at hl 1 rfl) ?_
      refine fg_RX0_28 E hW rh0 dX0_advanceWrit_55 (fun a1414285 m1414286 r1414287 => ?_)
      obtain rfl : a1414237 = a1414285 := (m1414276).symm.trans m1414286
      refine fg_RX0_239 E hW r1414239 dX0_advanceWrit_58 (fun a1414288 m1414289 r1414290 => ?_)
      refine lv_iload_n hx hb dX0_advanceWrit_61 rfl (lv_at hl 2 rfl) ?_
      refine gl_705 E hW r1414290 ⟨by omega, by omega⟩ dX0_advanceWrit_62 (fun y1414291 m1414292 => ?_)
      refine lv_aload_n hx hb dX0_advanceWrit_63 rfl (lv_at hl 1 rfl) ?_
      refine fg_RX0_93 E hW rh0 dX0_advanceWrit_64 (fun y1414294 m1414295 b1414296 => ?_)
      refine q_icmp_eq (tgt := 85) hx hb dX0_advanceWrit_67 (by decide) rfl rfl (fun c1414297 => ?_) (fun c1414297 => ?_)
      · exact e_V E hW rfl ⟨rfl, hF⟩ dX0_advanceWrit_85
      · refine lv_aload_n hx hb dX0_advanceWrit_70 rfl (lv_at hl 1 rfl) ?_
        refine fg_RX0_28 E hW rh0 dX0_advanceWrit_71 (fun a1414298 m1414299 r1414300 => ?_)
        obtain rfl : a1414237 = a1414298 := (m1414286).symm.trans m1414299
        refine lv_iload_n hx hb dX0_advanceWrit_74 rfl (lv_at hl 0 rfl) ?_
        refine lv_aload_n hx hb dX0_advanceWrit_75 rfl (lv_at hl 1 rfl) ?_
        refine fg_RX0_93 E hW rh0 dX0_advanceWrit_76 (fun y1414301 m1414302 b1414303 => ?_)
        obtain rfl : y1414294 = y1414301 := (m1414295).symm.trans m1414302
        refine t_callV (As := [.int y1414243, .int y1414294]) (rest := []) E hW (c_X10_isGuarded l G cI cJ cZ cD cR cT kp L f0 hW.2.2.2 _ a1414237 y1414243 y1414294 r1414239 (by omega) (by omega)) r1414239 (by decide) rfl wk_X10_isGuarded tw_1150 rfl ⟨Nat.le_of_ble_eq_true rfl, Nat.le_of_ble_eq_true rfl⟩ ⟨rfl, rfl⟩ hl.1 rfl (Nat.le_of_ble_eq_true rfl) dX0_advanceWrit_79 ⟨Nat.le_of_ble_eq_true rfl, Nat.le_of_ble_eq_true rfl⟩ (fun v1414304 f1414305 H locs q1414306 hW => ?_)
        obtain ⟨⟨x1414308, rfl, p1414309⟩, g1414307⟩ := q1414306
        have hF := FM.tr hF g1414307 rfl
        refine q_if_eq (tgt := 86) hx hb dX0_advanceWrit_82 (by decide) rfl (fun c1414310 => ?_) (fun c1414310 => ?_)
        · refine lv_aload_n hx hb dX0_advanceWrit_86 rfl (lv_at hl 1 rfl) ?_
          refine fg_RX0_28 E hW rh0 dX0_advanceWrit_87 (fun a1414311 m1414312 r1414313 => ?_)
          obtain rfl : a1414237 = a1414311 := (((fm_R g1414307 rh0 rfl).trans m1414299)).symm.trans m1414312
          refine fg_RX0_246 E hW r1414239 dX0_advanceWrit_90 (fun a1414314 m1414315 r1414316 => ?_)
          refine lv_iload_n hx hb dX0_advanceWrit_93 rfl (lv_at hl 2 rfl) ?_
          refine lv_dup2_11 hx hb dX0_advanceWrit_94 rfl rfl ?_
          refine gl_704 E hW r1414316 ⟨by omega, by omega⟩ dX0_advanceWrit_95 (fun y1414317 m1414318 => ?_)
          refine lv_iconst (v := 1) hx hb dX0_advanceWrit_96 (by decide) ?_
          refine u_isub hx hb dX0_advanceWrit_97 (fun x1414320 => ?_)
          refine gs_704 E hW r1414316 ⟨by omega, by omega⟩ dX0_advanceWrit_98 (fun f1414321 H locs e1414322 n1414323 g1414324 hW => ?_)
          have hF := FM.tr hF g1414324 rfl
          refine lv_aload_n hx hb dX0_advanceWrit_99 rfl (lv_at hl 1 rfl) ?_
          refine fg_RX0_28 E hW rh0 dX0_advanceWrit_100 (fun a1414325 m1414326 r1414327 => ?_)
          obtain rfl : a1414237 = a1414325 := (((fm_R g1414324 rh0 rfl).trans m1414312)).symm.trans m1414326
          refine fg_RX0_246 E hW r1414239 dX0_advanceWrit_103 (fun a1414328 m1414329 r1414330 => ?_)
          obtain rfl : a1414314 = a1414328 := (((fm_R g1414324 r1414239 rfl).trans m1414315)).symm.trans m1414329
          refine lv_iload_n hx hb dX0_advanceWrit_106 rfl (lv_at hl 2 rfl) ?_
          refine gl_704 E hW r1414316 ⟨by omega, by omega⟩ dX0_advanceWrit_107 (fun y1414331 m1414332 => ?_)
          obtain rfl : x1414320 = y1414331 := ((show aI (f1414321 a1414314) (u1 : Int32).toNatClampNeg = x1414320 from by rw [e1414322]; exact up_s)).symm.trans m1414332
          refine q_if_le (tgt := 112) hx hb dX0_advanceWrit_108 (by decide) rfl (fun c1414334 => ?_) (fun c1414334 => ?_)
          · refine lv_aload_n hx hb dX0_advanceWrit_112 rfl (lv_at hl 1 rfl) ?_
            refine fg_RX0_28 E hW rh0 dX0_advanceWrit_113 (fun a1414335 m1414336 r1414337 => ?_)
            obtain rfl : a1414237 = a1414335 := (m1414326).symm.trans m1414336
            refine fg_RX0_249 E hW r1414239 dX0_advanceWrit_116 (fun a1414338 m1414339 r1414340 => ?_)
            refine lv_iload_n hx hb dX0_advanceWrit_119 rfl (lv_at hl 2 rfl) ?_
            refine lv_dup2_11 hx hb dX0_advanceWrit_120 rfl rfl ?_
            refine gl_703 E hW r1414340 ⟨by omega, by omega⟩ dX0_advanceWrit_121 (fun y1414341 m1414342 => ?_)
            refine lv_iconst (v := 1) hx hb dX0_advanceWrit_122 (by decide) ?_
            refine u_iadd hx hb dX0_advanceWrit_123 (fun x1414344 => ?_)
            refine gs_703 E hW r1414340 ⟨by omega, by omega⟩ dX0_advanceWrit_124 (fun f1414345 H locs e1414346 n1414347 g1414348 hW => ?_)
            have hF := FM.tr hF g1414348 rfl
            refine lv_aload_n hx hb dX0_advanceWrit_125 rfl (lv_at hl 1 rfl) ?_
            refine fg_RX0_28 E hW rh0 dX0_advanceWrit_126 (fun a1414349 m1414350 r1414351 => ?_)
            obtain rfl : a1414237 = a1414349 := (((fm_R g1414348 rh0 rfl).trans m1414336)).symm.trans m1414350
            refine fg_RX0_249 E hW r1414239 dX0_advanceWrit_129 (fun a1414352 m1414353 r1414354 => ?_)
            obtain rfl : a1414338 = a1414352 := (((fm_R g1414348 r1414239 rfl).trans m1414339)).symm.trans m1414353
            refine lv_iload_n hx hb dX0_advanceWrit_132 rfl (lv_at hl 2 rfl) ?_
            refine gl_703 E hW r1414340 ⟨by omega, by omega⟩ dX0_advanceWrit_133 (fun y1414355 m1414356 => ?_)
            obtain rfl : x1414344 = y1414355 := ((show aI (f1414345 a1414338) (u1 : Int32).toNatClampNeg = x1414344 from by rw [e1414346]; exact up_s)).symm.trans m1414356
            refine lv_iconst (v := 3) hx hb dX0_advanceWrit_134 (by decide) ?_
            have J1414420 : ∀ (f1414409 : Nat → va_E) (m1414410 : oR (f1414409 a1414237) 1 = a1414240) (m1414411 : oR (f1414409 a1414237) 2 = a1414278) (m1414412 : oR (f1414409 a1414237) 3 = a1414338) (m1414413 : oR (f1414409 a1414237) 4 = a1414314) (m1414414 : oR (f1414409 a1414237) 5 = a1414288) (m1414415 : oR (f1414409 a1414246) 4 = a1414269) (m1414416 : oR (f1414409 a1414246) 5 = a1414249) (m1414417 : oR (f1414409 h0) 1 = a1414246) (m1414418 : oR (f1414409 h0) 2 = a1414237) (m1414419 : oI (f1414409 h0) 6 = y1414294) (H : Heap) (locs : List Loc) (ls : Array Slot), WS G cI cJ cZ cD cR cT A kp L f1414409 s H locs → FM kp L ms_X0_advanceWrit f0 f1414409 → lv_has ls 3 [(2, .int y1414243), (0, .ref h0), (1, .int u1)] → W p l e ({ frames := 3, cells := 0, slots := 0, locals := 87 }) s m ([.ref h0, .int u1] : List Value).toArray below meth c H locs 0 0 (MQ below (QT (po_X0_advanceWrit kp L f0 h0 u1) G cI cJ cZ cD cR cT A kp L) ([.ref h0, .int u1] : List Value).toArray s 0 0 A) (F0 m 190 ls []) := by
              intro f1414409 m1414410 m1414411 m1414412 m1414413 m1414414 m1414415 m1414416 m1414417 m1414418 m1414419 H locs ls hW hF hl
              clear c1414255 b1414274 b1414283 c1414284 p1414309 c1414310 c1414334
              exact e_V E hW rfl ⟨rfl, hF⟩ dX0_advanceWrit_190
            refine q_icmp_le (Y := 3) (tgt := 165) hx hb dX0_advanceWrit_135 (by decide) rfl rfl (fun c1414421 => ?_) (fun c1414421 => ?_)
            · refine lv_aload_n hx hb dX0_advanceWrit_165 rfl (lv_at hl 1 rfl) ?_
              refine fg_RX0_28 E hW rh0 dX0_advanceWrit_166 (fun a1414422 m1414423 r1414424 => ?_)
              obtain rfl : a1414237 = a1414422 := (m1414350).symm.trans m1414423
              refine fg_RX0_246 E hW r1414239 dX0_advanceWrit_169 (fun a1414425 m1414426 r1414427 => ?_)
              obtain rfl : a1414314 = a1414425 := (((fm_R g1414348 r1414239 rfl).trans m1414329)).symm.trans m1414426
              refine lv_iload_n hx hb dX0_advanceWrit_172 rfl (lv_at hl 2 rfl) ?_
              refine lv_aload_n hx hb dX0_advanceWrit_173 rfl (lv_at hl 1 rfl) ?_
              refine fg_RX0_42 E hW rh0 dX0_advanceWrit_174 (fun a1414428 m1414429 r1414430 => ?_)
              refine lv_aload_n hx hb dX0_advanceWrit_177 rfl (lv_at hl 1 rfl) ?_
              refine fg_RX0_28 E hW rh0 dX0_advanceWrit_178 (fun a1414431 m1414432 r1414433 => ?_)
              obtain rfl : a1414237 = a1414431 := (m1414423).symm.trans m1414432
              refine fg_RX0_249 E hW r1414239 dX0_advanceWrit_181 (fun a1414434 m1414435 r1414436 => ?_)
              obtain rfl : a1414338 = a1414434 := (m1414353).symm.trans m1414435
              refine lv_iload_n hx hb dX0_advanceWrit_184 rfl (lv_at hl 2 rfl) ?_
              refine gl_703 E hW r1414340 ⟨by omega, by omega⟩ dX0_advanceWrit_185 (fun y1414437 m1414438 => ?_)
              obtain rfl : x1414344 = y1414437 := (m1414356).symm.trans m1414438
              refine t_callV (As := [.int x1414344]) (rest := [.int u1, .ref a1414314]) E hW (c_X2_weeksOf l G cI cJ cZ cD cR cT kp L f1414345 hW.2.2.2 _ a1414428 x1414344 r1414430 (by omega)) r1414430 (by decide) rfl wk_X2_weeksOf tw_1144 rfl ⟨Nat.le_of_ble_eq_true rfl, Nat.le_of_ble_eq_true rfl⟩ ⟨rfl, rfl⟩ hl.1 rfl (Nat.le_of_ble_eq_true rfl) dX0_advanceWrit_186 ⟨Nat.le_of_ble_eq_true rfl, Nat.le_of_ble_eq_true rfl⟩ (fun v1414440 f1414441 H locs q1414442 hW => ?_)
              obtain ⟨⟨x1414444, rfl, p1414445⟩, g1414443⟩ := q1414442
              clear p1414445
              have hF := FM.tr hF g1414443 rfl
              refine gs_704 E hW r1414316 ⟨by omega, by omega⟩ dX0_advanceWrit_189 (fun f1414446 H locs e1414447 n1414448 g1414449 hW => ?_)
              have hF := FM.tr hF g1414449 rfl
              exact J1414420 f1414446 ((fm_R g1414449 r1414239 rfl).trans ((fm_R g1414443 r1414239 rfl).trans ((fm_R g1414348 r1414239 rfl).trans ((fm_R g1414324 r1414239 rfl).trans ((fm_R g1414307 r1414239 rfl).trans m1414241))))) ((fm_R g1414449 r1414239 rfl).trans ((fm_R g1414443 r1414239 rfl).trans ((fm_R g1414348 r1414239 rfl).trans ((fm_R g1414324 r1414239 rfl).trans ((fm_R g1414307 r1414239 rfl).trans m1414279))))) ((fm_R g1414449 r1414239 rfl).trans ((fm_R g1414443 r1414239 rfl).trans m1414435)) ((fm_R g1414449 r1414239 rfl).trans ((fm_R g1414443 r1414239 rfl).trans m1414426)) ((fm_R g1414449 r1414239 rfl).trans ((fm_R g1414443 r1414239 rfl).trans ((fm_R g1414348 r1414239 rfl).trans ((fm_R g1414324 r1414239 rfl).trans ((fm_R g1414307 r1414239 rfl).trans m1414289))))) ((fm_R g1414449 r1414248 rfl).trans ((fm_R g1414443 r1414248 rfl).trans ((fm_R g1414348 r1414248 rfl).trans ((fm_R g1414324 r1414248 rfl).trans ((fm_R g1414307 r1414248 rfl).trans m1414270))))) ((fm_R g1414449 r1414248 rfl).trans ((fm_R g1414443 r1414248 rfl).trans ((fm_R g1414348 r1414248 rfl).trans ((fm_R g1414324 r1414248 rfl).trans ((fm_R g1414307 r1414248 rfl).trans m1414250))))) ((fm_R g1414449 rh0 rfl).trans ((fm_R g1414443 rh0 rfl).trans ((fm_R g1414348 rh0 rfl).trans ((fm_R g1414324 rh0 rfl).trans ((fm_R g1414307 rh0 rfl).trans m1414267))))) ((fm_R g1414449 rh0 rfl).trans ((fm_R g1414443 rh0 rfl).trans m1414432)) ((fm_I g1414449 rh0 rfl).trans ((fm_I g1414443 rh0 rfl).trans ((fm_I g1414348 rh0 rfl).trans ((fm_I g1414324 rh0 rfl).trans ((fm_I g1414307 rh0 rfl).trans m1414302))))) _ _ _ hW hF (lv_sub hl [0, 1, 2] rfl)
            · refine lv_aload_n hx hb dX0_advanceWrit_138 rfl (lv_at hl 1 rfl) ?_
              refine fg_RX0_28 E hW rh0 dX0_advanceWrit_139 (fun a1414450 m1414451 r1414452 => ?_)
              obtain rfl : a1414237 = a1414450 := (m1414350).symm.trans m1414451
              refine fg_RX0_151 E hW r1414239 dX0_advanceWrit_142 (fun a1414453 m1414454 r1414455 => ?_)
              refine lv_iload_n hx hb dX0_advanceWrit_145 rfl (lv_at hl 2 rfl) ?_
              refine lv_iconst (v := 0) hx hb dX0_advanceWrit_146 (by decide) ?_
              refine gs_706 E hW r1414455 ⟨by omega, by omega⟩ dX0_advanceWrit_147 (fun f1414456 H locs e1414457 n1414458 g1414459 hW => ?_)
              have hF := FM.tr hF g1414459 rfl
              refine lv_aload_n hx hb dX0_advanceWrit_148 rfl (lv_at hl 1 rfl) ?_
              refine lv_iload_n hx hb dX0_advanceWrit_149 rfl (lv_at hl 0 rfl) ?_
              refine lv_aload_n hx hb dX0_advanceWrit_150 rfl (lv_at hl 1 rfl) ?_
              refine fg_RX0_28 E hW rh0 dX0_advanceWrit_151 (fun a1414460 m1414461 r1414462 => ?_)
              obtain rfl : a1414237 = a1414460 := (((fm_R g1414459 rh0 rfl).trans m1414451)).symm.trans m1414461
              refine fg_RX0_238 E hW r1414239 dX0_advanceWrit_154 (fun a1414463 m1414464 r1414465 => ?_)
              obtain rfl : a1414278 = a1414463 := (((fm_R g1414459 r1414239 rfl).trans ((fm_R g1414348 r1414239 rfl).trans ((fm_R g1414324 r1414239 rfl).trans ((fm_R g1414307 r1414239 rfl).trans m1414279))))).symm.trans m1414464
              refine lv_iload_n hx hb dX0_advanceWrit_157 rfl (lv_at hl 2 rfl) ?_
              refine gl_702 E hW r1414280 ⟨by omega, by omega⟩ dX0_advanceWrit_158 (fun y1414466 m1414467 b1414468 => ?_)
              obtain rfl : y1414281 = y1414466 := (((congrArg (fun z => aI z (u1 : Int32).toNatClampNeg) (fm_A g1414459 r1414280 (by decide) rfl)).trans ((congrArg (fun z => aI z (u1 : Int32).toNatClampNeg) (fm_A g1414348 r1414280 (by decide) rfl)).trans ((congrArg (fun z => aI z (u1 : Int32).toNatClampNeg) (fm_A g1414324 r1414280 (by decide) rfl)).trans ((congrArg (fun z => aI z (u1 : Int32).toNatClampNeg) (fm_A g1414307 r1414280 (by decide) rfl)).trans m1414282))))).symm.trans m1414467
              refine t_callV (As := [.int y1414243, .int y1414281]) (rest := []) E hW (c_X0_putOut l G cI cJ cZ cD cR cT kp L f1414456 hW.2.2.2 _ h0 y1414243 y1414281 rh0 (by omega) (by omega)) rh0 (by decide) rfl wk_X0_putOut tw_1154 rfl ⟨Nat.le_of_ble_eq_true rfl, Nat.le_of_ble_eq_true rfl⟩ ⟨rfl, rfl⟩ hl.1 rfl (Nat.le_of_ble_eq_true rfl) dX0_advanceWrit_159 ⟨Nat.le_of_ble_eq_true rfl, Nat.le_of_ble_eq_true rfl⟩ (fun v1414469 f1414470 H locs q1414471 hW => ?_)
              obtain ⟨rfl, g1414472⟩ := q1414471
              have hF := FM.tr hF g1414472 rfl
              refine lv_goto (tgt := 190) hx hb dX0_advanceWrit_162 (by decide) ?_
              exact J1414420 f1414470 ((fm_R g1414472 r1414239 rfl).trans ((fm_R g1414459 r1414239 rfl).trans ((fm_R g1414348 r1414239 rfl).trans ((fm_R g1414324 r1414239 rfl).trans ((fm_R g1414307 r1414239 rfl).trans m1414241))))) ((fm_R g1414472 r1414239 rfl).trans m1414464) ((fm_R g1414472 r1414239 rfl).trans ((fm_R g1414459 r1414239 rfl).trans m1414353)) ((fm_R g1414472 r1414239 rfl).trans ((fm_R g1414459 r1414239 rfl).trans ((fm_R g1414348 r1414239 rfl).trans m1414329))) ((fm_R g1414472 r1414239 rfl).trans ((fm_R g1414459 r1414239 rfl).trans ((fm_R g1414348 r1414239 rfl).trans ((fm_R g1414324 r1414239 rfl).trans ((fm_R g1414307 r1414239 rfl).trans m1414289))))) ((fm_R g1414472 r1414248 rfl).trans ((fm_R g1414459 r1414248 rfl).trans ((fm_R g1414348 r1414248 rfl).trans ((fm_R g1414324 r1414248 rfl).trans ((fm_R g1414307 r1414248 rfl).trans m1414270))))) ((fm_R g1414472 r1414248 rfl).trans ((fm_R g1414459 r1414248 rfl).trans ((fm_R g1414348 r1414248 rfl).trans ((fm_R g1414324 r1414248 rfl).trans ((fm_R g1414307 r1414248 rfl).trans m1414250))))) ((fm_R g1414472 rh0 rfl).trans ((fm_R g1414459 rh0 rfl).trans ((fm_R g1414348 rh0 rfl).trans ((fm_R g1414324 rh0 rfl).trans ((fm_R g1414307 rh0 rfl).trans m1414267))))) ((fm_R g1414472 rh0 rfl).trans m1414461) ((fm_I g1414472 rh0 rfl).trans ((fm_I g1414459 rh0 rfl).trans ((fm_I g1414348 rh0 rfl).trans ((fm_I g1414324 rh0 rfl).trans ((fm_I g1414307 rh0 rfl).trans m1414302))))) _ _ _ hW hF (lv_sub hl [0, 1, 2] rfl)
          · exact e_V E hW rfl ⟨rfl, hF⟩ dX0_advanceWrit_111
        · exact e_V E hW rfl ⟨rfl, hF⟩ dX0_advanceWrit_85
    · refine lv_aload_n hx hb dX0_advanceWrit_43 rfl (lv_at hl 1 rfl) ?_
      refine fg_RX0_28 E hW rh0 dX0_advanceWrit_44 (fun a1414473 m1414474 r1414475 => ?_)
      obtain rfl : a1414237 = a1414473 := (m1414276).symm.trans m1414474
      refine fg_RX0_151 E hW r1414239 dX0_advanceWrit_47 (fun a1414476 m1414477 r1414478 => ?_)
      refine lv_iload_n hx hb dX0_advanceWrit_50 rfl (lv_at hl 2 rfl) ?_
      refine lv_iconst (v := 0) hx hb dX0_advanceWrit_51 (by decide) ?_
      refine gs_706 E hW r1414478 ⟨by omega, by omega⟩ dX0_advanceWrit_52 (fun f1414479 H locs e1414480 n1414481 g1414482 hW => ?_)
      have hF := FM.tr hF g1414482 rfl
      exact e_V E hW rfl ⟨rfl, hF⟩ dX0_advanceWrit_53
def ms_X0_wordOf : List (Nat × Nat) := []
def po_X0_wordOf (kp : Nat → Nat) (L : List Nat) (f0 : Nat → va_E) (h0 : Nat) (u1 : Int32) (u2 : Int32) (u3 : Int32) : Option Value → (Nat → va_E) → Prop := fun v f => (∃ r : Int32, v = some (.int r) ∧ (True)) ∧ FM kp L ms_X0_wordOf f0 f
set_option maxHeartbeats 4000000 in
set_option maxRecDepth 100000 in
theorem c_X0_wordOf (l : Launch) (G : va_G) (cI cJ cZ cD cR cT : ClassId) (kp : Nat → Nat) (L : List Nat) (f0 : Nat → va_E) (hTH : TH cI cJ cZ cD cR cT kp L f0) (sz : Nat) (h0 : Nat) (u1 : Int32) (u2 : Int32) (u3 : Int32) (rh0 : RK kp L h0 0) (pu1 : (268 : Int) ≤ u1.toInt ∧ u1.toInt ≤ 282) (pu2 : (-1 : Int) ≤ u2.toInt ∧ u2.toInt ≤ 39) (pu3 : (-1 : Int) ≤ u3.toInt ∧ u3.toInt ≤ 39) : Met l yX0_wordOf (Cond.code yX0_wordOf cX0_wordOf 4 (some .int) :: wTab) ({ frames := 2, cells := 0, slots := 0, locals := 63 }) (va_Pc [.ref h0, .int u1, .int u2, .int u3] (PreW G (tys6 cI cJ cZ cD cR cT) (va_pl L f0) sz)) (QT (po_X0_wordOf kp L f0 h0 u1 u2 u3) G cI cJ cZ cD cR cT (va_A (va_pl L f0) sz) kp L) 0 0 (va_A (va_pl L f0) sz) := by
  refine metT (by decide) (Nat.le_of_ble_eq_true rfl) hTH ?_
  intro p e s m below meth c A ls E hW hl
  obtain ⟨hx, hb, -, hml, hown, hts, -, -, -⟩ := id E
  have hF : FM kp L ms_X0_wordOf f0 f0 := FM.rf
  have hl : lv_has ls 4 [(0, .ref h0), (1, .int u1), (2, .int u2), (3, .int u3)] := hl
  refine lv_iload_n hx hb dX0_wordOf_0 rfl (lv_at hl 1 rfl) ?_
  refine lv_sipush (v := 276) hx hb dX0_wordOf_1 (by decide) ?_
  refine q_icmp_gt (Y := 276) (tgt := 21) hx hb dX0_wordOf_4 (by decide) rfl rfl (fun c1414483 => ?_) (fun c1414483 => ?_)
  · refine lv_iload_n hx hb dX0_wordOf_21 rfl (lv_at hl 1 rfl) ?_
    refine lv_sipush (v := 280) hx hb dX0_wordOf_22 (by decide) ?_
    refine q_icmp_gt (Y := 280) (tgt := 41) hx hb dX0_wordOf_25 (by decide) rfl rfl (fun c1414484 => ?_) (fun c1414484 => ?_)
    · refine lv_iload_n hx hb dX0_wordOf_41 rfl (lv_at hl 1 rfl) ?_
      by_cases c1414485 : u1.toInt = 268
      · exfalso; omega
      by_cases c1414486 : u1.toInt = 269
      · exfalso; omega
      by_cases c1414487 : u1.toInt = 270
      · exfalso; omega
      by_cases c1414488 : u1.toInt = 271
      · exfalso; omega
      by_cases c1414489 : u1.toInt = 272
      · exfalso; omega
      by_cases c1414490 : u1.toInt = 273
      · exfalso; omega
      by_cases c1414491 : u1.toInt = 274
      · exfalso; omega
      by_cases c1414492 : u1.toInt = 275
      · exfalso; omega
      by_cases c1414493 : u1.toInt = 276
      · exfalso; omega
      by_cases c1414494 : u1.toInt = 277
      · exfalso; omega
      by_cases c1414495 : u1.toInt = 278
      · exfalso; omega
      by_cases c1414496 : u1.toInt = 279
      · exfalso; omega
      by_cases c1414497 : u1.toInt = 280
      · exfalso; omega
      by_cases c1414498 : u1.toInt = 281
      · refine lv_tableIn (tgt := 156) hx hb dX0_wordOf_42 (by omega) (by omega) (by rw [c1414498]; rfl) (by decide) ?_
        refine lv_aload_n hx hb dX0_wordOf_156 rfl (lv_at hl 0 rfl) ?_
        refine fg_RX0_93 E hW rh0 dX0_wordOf_157 (fun y1414499 m1414500 b1414501 => ?_)
        exact e_I E hW rfl ⟨⟨_, rfl, trivial⟩, hF⟩ dX0_wordOf_160
      by_cases c1414502 : u1.toInt = 282
      · refine lv_tableIn (tgt := 161) hx hb dX0_wordOf_42 (by omega) (by omega) (by rw [c1414502]; rfl) (by decide) ?_
        refine lv_aload_n hx hb dX0_wordOf_161 rfl (lv_at hl 0 rfl) ?_
        refine fg_RX0_121 E hW rh0 dX0_wordOf_162 (fun y1414503 m1414504 => ?_)
        exact e_I E hW rfl ⟨⟨_, rfl, trivial⟩, hF⟩ dX0_wordOf_165
      refine lv_tableOut (tgt := 278) hx hb dX0_wordOf_42 (by omega) (by decide) ?_
      refine lv_iconst (v := 0) hx hb dX0_wordOf_278 (by decide) ?_
      exact e_I E hW rfl ⟨⟨_, rfl, trivial⟩, hF⟩ dX0_wordOf_279
    · refine lv_aload_n hx hb dX0_wordOf_28 rfl (lv_at hl 0 rfl) ?_
      refine fg_RX0_21 E hW rh0 dX0_wordOf_29 (fun a1414506 m1414507 r1414508 => ?_)
      refine lv_iload_n hx hb dX0_wordOf_32 rfl (lv_at hl 3 rfl) ?_
      refine t_callV (As := [.int u3]) (rest := []) E hW (c_X1_has l G cI cJ cZ cD cR cT kp L f0 hW.2.2.2 _ a1414506 u3 r1414508) r1414508 (by decide) rfl wk_X1_has tw_727 rfl ⟨Nat.le_of_ble_eq_true rfl, Nat.le_of_ble_eq_true rfl⟩ ⟨rfl, rfl⟩ hl.1 rfl (Nat.le_of_ble_eq_true rfl) dX0_wordOf_33 ⟨Nat.le_of_ble_eq_true rfl, Nat.le_of_ble_eq_true rfl⟩ (fun v1414509 f1414510 H locs q1414511 hW => ?_)
      obtain ⟨⟨x1414513, rfl, p1414514⟩, g1414512⟩ := q1414511
      have hF := FM.tr hF g1414512 rfl
      refine q_if_ne (tgt := 41) hx hb dX0_wordOf_36 (by decide) rfl (fun c1414515 => ?_) (fun c1414515 => ?_)
      · have q1414516 : 0 ≤ u3.toInt ∧ u3.toInt ≤ 39 := by omega
        clear p1414514
        refine lv_iload_n hx hb dX0_wordOf_41 rfl (lv_at hl 1 rfl) ?_
        by_cases c1414517 : u1.toInt = 268
        · exfalso; omega
        by_cases c1414518 : u1.toInt = 269
        · exfalso; omega
        by_cases c1414519 : u1.toInt = 270
        · exfalso; omega
        by_cases c1414520 : u1.toInt = 271
        · exfalso; omega
        by_cases c1414521 : u1.toInt = 272
        · exfalso; omega
        by_cases c1414522 : u1.toInt = 273
        · exfalso; omega
        by_cases c1414523 : u1.toInt = 274
        · exfalso; omega
        by_cases c1414524 : u1.toInt = 275
        · exfalso; omega
        by_cases c1414525 : u1.toInt = 276
        · exfalso; omega
        by_cases c1414526 : u1.toInt = 277
        · refine lv_tableIn (tgt := 116) hx hb dX0_wordOf_42 (by omega) (by omega) (by rw [c1414526]; rfl) (by decide) ?_
          refine lv_aload_n hx hb dX0_wordOf_116 rfl (lv_at hl 0 rfl) ?_
          refine fg_RX0_21 E hW rh0 dX0_wordOf_117 (fun a1414527 m1414528 r1414529 => ?_)
          obtain rfl : a1414506 = a1414527 := (((fm_R g1414512 rh0 rfl).trans m1414507)).symm.trans m1414528
          refine fg_RX0_172 E hW r1414508 dX0_wordOf_120 (fun a1414530 m1414531 r1414532 => ?_)
          refine lv_iload_n hx hb dX0_wordOf_123 rfl (lv_at hl 3 rfl) ?_
          refine gl_162 E hW r1414532 ⟨by omega, by omega⟩ dX0_wordOf_124 (fun y1414533 m1414534 => ?_)
          exact e_I E hW rfl ⟨⟨_, rfl, trivial⟩, hF⟩ dX0_wordOf_125
        by_cases c1414536 : u1.toInt = 278
        · refine lv_tableIn (tgt := 126) hx hb dX0_wordOf_42 (by omega) (by omega) (by rw [c1414536]; rfl) (by decide) ?_
          refine lv_aload_n hx hb dX0_wordOf_126 rfl (lv_at hl 0 rfl) ?_
          refine fg_RX0_21 E hW rh0 dX0_wordOf_127 (fun a1414537 m1414538 r1414539 => ?_)
          obtain rfl : a1414506 = a1414537 := (((fm_R g1414512 rh0 rfl).trans m1414507)).symm.trans m1414538
          refine fg_RX0_342 E hW r1414508 dX0_wordOf_130 (fun a1414540 m1414541 r1414542 => ?_)
          refine lv_iload_n hx hb dX0_wordOf_133 rfl (lv_at hl 3 rfl) ?_
          refine gl_163 E hW r1414542 ⟨by omega, by omega⟩ dX0_wordOf_134 (fun y1414543 m1414544 => ?_)
          exact e_I E hW rfl ⟨⟨_, rfl, trivial⟩, hF⟩ dX0_wordOf_135
        by_cases c1414546 : u1.toInt = 279
        · refine lv_tableIn (tgt := 136) hx hb dX0_wordOf_42 (by omega) (by omega) (by rw [c1414546]; rfl) (by decide) ?_
          refine lv_aload_n hx hb dX0_wordOf_136 rfl (lv_at hl 0 rfl) ?_
          refine fg_RX0_21 E hW rh0 dX0_wordOf_137 (fun a1414547 m1414548 r1414549 => ?_)
          obtain rfl : a1414506 = a1414547 := (((fm_R g1414512 rh0 rfl).trans m1414507)).symm.trans m1414548
          refine fg_RX0_188 E hW r1414508 dX0_wordOf_140 (fun a1414550 m1414551 r1414552 => ?_)
          refine lv_iload_n hx hb dX0_wordOf_143 rfl (lv_at hl 3 rfl) ?_
          refine gl_165 E hW r1414552 ⟨by omega, by omega⟩ dX0_wordOf_144 (fun y1414553 m1414554 => ?_)
          exact e_I E hW rfl ⟨⟨_, rfl, trivial⟩, hF⟩ dX0_wordOf_145
        by_cases c1414556 : u1.toInt = 280
        · refine lv_tableIn (tgt := 146) hx hb dX0_wordOf_42 (by omega) (by omega) (by rw [c1414556]; rfl) (by decide) ?_
          refine lv_aload_n hx hb dX0_wordOf_146 rfl (lv_at hl 0 rfl) ?_
          refine fg_RX0_21 E hW rh0 dX0_wordOf_147 (fun a1414557 m1414558 r1414559 => ?_)
          obtain rfl : a1414506 = a1414557 := (((fm_R g1414512 rh0 rfl).trans m1414507)).symm.trans m1414558
          refine fg_RX0_204 E hW r1414508 dX0_wordOf_150 (fun a1414560 m1414561 r1414562 => ?_)
          refine lv_iload_n hx hb dX0_wordOf_153 rfl (lv_at hl 3 rfl) ?_
          refine gl_161 E hW r1414562 ⟨by omega, by omega⟩ dX0_wordOf_154 (fun y1414563 m1414564 b1414565 => ?_)
          exact e_I E hW rfl ⟨⟨_, rfl, trivial⟩, hF⟩ dX0_wordOf_155
        by_cases c1414566 : u1.toInt = 281
        · exfalso; omega
        by_cases c1414567 : u1.toInt = 282
        · exfalso; omega
        refine lv_tableOut (tgt := 278) hx hb dX0_wordOf_42 (by omega) (by decide) ?_
        refine lv_iconst (v := 0) hx hb dX0_wordOf_278 (by decide) ?_
        exact e_I E hW rfl ⟨⟨_, rfl, trivial⟩, hF⟩ dX0_wordOf_279
      · clear p1414514
        refine lv_iconst (v := 0) hx hb dX0_wordOf_39 (by decide) ?_
        exact e_I E hW rfl ⟨⟨_, rfl, trivial⟩, hF⟩ dX0_wordOf_40
  · refine lv_aload_n hx hb dX0_wordOf_7 rfl (lv_at hl 0 rfl) ?_
    refine fg_RX0_12 E hW rh0 dX0_wordOf_8 (fun a1414568 m1414569 r1414570 => ?_)
    refine lv_iload_n hx hb dX0_wordOf_11 rfl (lv_at hl 2 rfl) ?_
    refine t_callV (As := [.int u2]) (rest := []) E hW (c_X4_has l G cI cJ cZ cD cR cT kp L f0 hW.2.2.2 _ a1414568 u2 r1414570) r1414570 (by decide) rfl wk_X4_has tw_726 rfl ⟨Nat.le_of_ble_eq_true rfl, Nat.le_of_ble_eq_true rfl⟩ ⟨rfl, rfl⟩ hl.1 rfl (Nat.le_of_ble_eq_true rfl) dX0_wordOf_12 ⟨Nat.le_of_ble_eq_true rfl, Nat.le_of_ble_eq_true rfl⟩ (fun v1414571 f1414572 H locs q1414573 hW => ?_)
    obtain ⟨⟨x1414575, rfl, p1414576⟩, g1414574⟩ := q1414573
    have hF := FM.tr hF g1414574 rfl
    refine q_if_ne (tgt := 41) hx hb dX0_wordOf_15 (by decide) rfl (fun c1414577 => ?_) (fun c1414577 => ?_)
    · have q1414578 : 0 ≤ u2.toInt ∧ u2.toInt ≤ 39 := by omega
      clear p1414576
      refine lv_iload_n hx hb dX0_wordOf_41 rfl (lv_at hl 1 rfl) ?_
      by_cases c1414579 : u1.toInt = 268
      · refine lv_tableIn (tgt := 166) hx hb dX0_wordOf_42 (by omega) (by omega) (by rw [c1414579]; rfl) (by decide) ?_
        refine lv_aload_n hx hb dX0_wordOf_166 rfl (lv_at hl 0 rfl) ?_
        refine fg_RX0_21 E hW rh0 dX0_wordOf_167 (fun a1414580 m1414581 r1414582 => ?_)
        refine lv_iload_n hx hb dX0_wordOf_170 rfl (lv_at hl 2 rfl) ?_
        refine t_callV (As := [.int u2]) (rest := []) E hW (c_X1_isHeldBy l G cI cJ cZ cD cR cT kp L f1414572 hW.2.2.2 _ a1414580 u2 r1414582 (by omega)) r1414582 (by decide) rfl wk_X1_isHeldBy tw_728 rfl ⟨Nat.le_of_ble_eq_true rfl, Nat.le_of_ble_eq_true rfl⟩ ⟨rfl, rfl⟩ hl.1 rfl (Nat.le_of_ble_eq_true rfl) dX0_wordOf_171 ⟨Nat.le_of_ble_eq_true rfl, Nat.le_of_ble_eq_true rfl⟩ (fun v1414583 f1414584 H locs q1414585 hW => ?_)
        obtain ⟨⟨x1414587, rfl, p1414588⟩, g1414586⟩ := q1414585
        have hF := FM.tr hF g1414586 rfl
        have J1414591 : ∀ (y1414589 : Int32) (b1414590 : (0 : Int) ≤ y1414589.toInt ∧ y1414589.toInt ≤ 1) (H : Heap) (locs : List Loc) (ls : Array Slot), WS G cI cJ cZ cD cR cT A kp L f1414584 s H locs → FM kp L ms_X0_wordOf f0 f1414584 → lv_has ls 4 [(0, .ref h0), (1, .int u1), (2, .int u2), (3, .int u3)] → W p l e ({ frames := 2, cells := 0, slots := 0, locals := 63 }) s m ([.ref h0, .int u1, .int u2, .int u3] : List Value).toArray below meth c H locs 0 0 (MQ below (QT (po_X0_wordOf kp L f0 h0 u1 u2 u3) G cI cJ cZ cD cR cT A kp L) ([.ref h0, .int u1, .int u2, .int u3] : List Value).toArray s 0 0 A) (F0 m 182 ls [.int y1414589]) := by
          intro y1414589 b1414590 H locs ls hW hF hl
          clear c1414577 p1414588
          exact e_I E hW rfl ⟨⟨_, rfl, trivial⟩, hF⟩ dX0_wordOf_182
        refine q_if_eq (tgt := 181) hx hb dX0_wordOf_174 (by decide) rfl (fun c1414592 => ?_) (fun c1414592 => ?_)
        · refine lv_iconst (v := 0) hx hb dX0_wordOf_181 (by decide) ?_
          exact J1414591 0 (by decide) _ _ _ hW hF (lv_sub hl [0, 1, 2, 3] rfl)
        · refine lv_iconst (v := 1) hx hb dX0_wordOf_177 (by decide) ?_
          refine lv_goto (tgt := 182) hx hb dX0_wordOf_178 (by decide) ?_
          exact J1414591 1 (by decide) _ _ _ hW hF (lv_sub hl [0, 1, 2, 3] rfl)
      by_cases c1414593 : u1.toInt = 269
      · refine lv_tableIn (tgt := 183) hx hb dX0_wordOf_42 (by omega) (by omega) (by rw [c1414593]; rfl) (by decide) ?_
        refine lv_aload_n hx hb dX0_wordOf_183 rfl (lv_at hl 0 rfl) ?_
        refine fg_RX0_12 E hW rh0 dX0_wordOf_184 (fun a1414594 m1414595 r1414596 => ?_)
        obtain rfl : a1414568 = a1414594 := (((fm_R g1414574 rh0 rfl).trans m1414569)).symm.trans m1414595
        refine fg_RX0_130 E hW r1414570 dX0_wordOf_187 (fun a1414597 m1414598 r1414599 => ?_)
        refine lv_iload_n hx hb dX0_wordOf_190 rfl (lv_at hl 2 rfl) ?_
        refine gl_347 E hW r1414599 ⟨by omega, by omega⟩ dX0_wordOf_191 (fun y1414600 m1414601 => ?_)
        refine lv_iconst (v := (-1)) hx hb dX0_wordOf_192 (by decide) ?_
        have J1414605 : ∀ (y1414603 : Int32) (b1414604 : (0 : Int) ≤ y1414603.toInt ∧ y1414603.toInt ≤ 1) (H : Heap) (locs : List Loc) (ls : Array Slot), WS G cI cJ cZ cD cR cT A kp L f1414572 s H locs → FM kp L ms_X0_wordOf f0 f1414572 → lv_has ls 4 [(0, .ref h0), (1, .int u1), (2, .int u2), (3, .int u3)] → W p l e ({ frames := 2, cells := 0, slots := 0, locals := 63 }) s m ([.ref h0, .int u1, .int u2, .int u3] : List Value).toArray below meth c H locs 0 0 (MQ below (QT (po_X0_wordOf kp L f0 h0 u1 u2 u3) G cI cJ cZ cD cR cT A kp L) ([.ref h0, .int u1, .int u2, .int u3] : List Value).toArray s 0 0 A) (F0 m 201 ls [.int y1414603]) := by
          intro y1414603 b1414604 H locs ls hW hF hl
          clear c1414577
          exact e_I E hW rfl ⟨⟨_, rfl, trivial⟩, hF⟩ dX0_wordOf_201
        refine q_icmp_ne (Y := -1) (tgt := 200) hx hb dX0_wordOf_193 (by decide) rfl rfl (fun c1414606 => ?_) (fun c1414606 => ?_)
        · refine lv_iconst (v := 1) hx hb dX0_wordOf_200 (by decide) ?_
          exact J1414605 1 (by decide) _ _ _ hW hF (lv_sub hl [0, 1, 2, 3] rfl)
        · refine lv_iconst (v := 0) hx hb dX0_wordOf_196 (by decide) ?_
          refine lv_goto (tgt := 201) hx hb dX0_wordOf_197 (by decide) ?_
          exact J1414605 0 (by decide) _ _ _ hW hF (lv_sub hl [0, 1, 2, 3] rfl)
      by_cases c1414607 : u1.toInt = 270
      · refine lv_tableIn (tgt := 202) hx hb dX0_wordOf_42 (by omega) (by omega) (by rw [c1414607]; rfl) (by decide) ?_
        refine lv_aload_n hx hb dX0_wordOf_202 rfl (lv_at hl 0 rfl) ?_
        refine fg_RX0_12 E hW rh0 dX0_wordOf_203 (fun a1414608 m1414609 r1414610 => ?_)
        obtain rfl : a1414568 = a1414608 := (((fm_R g1414574 rh0 rfl).trans m1414569)).symm.trans m1414609
        refine fg_RX0_277 E hW r1414570 dX0_wordOf_206 (fun a1414611 m1414612 r1414613 => ?_)
        refine lv_iload_n hx hb dX0_wordOf_209 rfl (lv_at hl 2 rfl) ?_
        refine gl_348 E hW r1414613 ⟨by omega, by omega⟩ dX0_wordOf_210 (fun y1414614 m1414615 => ?_)
        exact e_I E hW rfl ⟨⟨_, rfl, trivial⟩, hF⟩ dX0_wordOf_211
      by_cases c1414617 : u1.toInt = 271
      · refine lv_tableIn (tgt := 212) hx hb dX0_wordOf_42 (by omega) (by omega) (by rw [c1414617]; rfl) (by decide) ?_
        refine lv_aload_n hx hb dX0_wordOf_212 rfl (lv_at hl 0 rfl) ?_
        refine fg_RX0_21 E hW rh0 dX0_wordOf_213 (fun a1414618 m1414619 r1414620 => ?_)
        refine lv_iload_n hx hb dX0_wordOf_216 rfl (lv_at hl 2 rfl) ?_
        refine t_callV (As := [.int u2]) (rest := []) E hW (c_X1_isGrabbedBy l G cI cJ cZ cD cR cT kp L f1414572 hW.2.2.2 _ a1414618 u2 r1414620 (by omega)) r1414620 (by decide) rfl wk_X1_isGrabbedBy tw_732 rfl ⟨Nat.le_of_ble_eq_true rfl, Nat.le_of_ble_eq_true rfl⟩ ⟨rfl, rfl⟩ hl.1 rfl (Nat.le_of_ble_eq_true rfl) dX0_wordOf_217 ⟨Nat.le_of_ble_eq_true rfl, Nat.le_of_ble_eq_true rfl⟩ (fun v1414621 f1414622 H locs q1414623 hW => ?_)
        obtain ⟨⟨x1414625, rfl, p1414626⟩, g1414624⟩ := q1414623
        have hF := FM.tr hF g1414624 rfl
        have J1414629 : ∀ (y1414627 : Int32) (b1414628 : (0 : Int) ≤ y1414627.toInt ∧ y1414627.toInt ≤ 1) (H : Heap) (locs : List Loc) (ls : Array Slot), WS G cI cJ cZ cD cR cT A kp L f1414622 s H locs → FM kp L ms_X0_wordOf f0 f1414622 → lv_has ls 4 [(0, .ref h0), (1, .int u1), (2, .int u2), (3, .int u3)] → W p l e ({ frames := 2, cells := 0, slots := 0, locals := 63 }) s m ([.ref h0, .int u1, .int u2, .int u3] : List Value).toArray below meth c H locs 0 0 (MQ below (QT (po_X0_wordOf kp L f0 h0 u1 u2 u3) G cI cJ cZ cD cR cT A kp L) ([.ref h0, .int u1, .int u2, .int u3] : List Value).toArray s 0 0 A) (F0 m 228 ls [.int y1414627]) := by
          intro y1414627 b1414628 H locs ls hW hF hl
          clear c1414577 p1414626
          exact e_I E hW rfl ⟨⟨_, rfl, trivial⟩, hF⟩ dX0_wordOf_228
        refine q_if_eq (tgt := 227) hx hb dX0_wordOf_220 (by decide) rfl (fun c1414630 => ?_) (fun c1414630 => ?_)
        · refine lv_iconst (v := 0) hx hb dX0_wordOf_227 (by decide) ?_
          exact J1414629 0 (by decide) _ _ _ hW hF (lv_sub hl [0, 1, 2, 3] rfl)
        · refine lv_iconst (v := 1) hx hb dX0_wordOf_223 (by decide) ?_
          refine lv_goto (tgt := 228) hx hb dX0_wordOf_224 (by decide) ?_
          exact J1414629 1 (by decide) _ _ _ hW hF (lv_sub hl [0, 1, 2, 3] rfl)
      by_cases c1414631 : u1.toInt = 272
      · refine lv_tableIn (tgt := 229) hx hb dX0_wordOf_42 (by omega) (by omega) (by rw [c1414631]; rfl) (by decide) ?_
        refine lv_aload_n hx hb dX0_wordOf_229 rfl (lv_at hl 0 rfl) ?_
        refine fg_RX0_12 E hW rh0 dX0_wordOf_230 (fun a1414632 m1414633 r1414634 => ?_)
        obtain rfl : a1414568 = a1414632 := (((fm_R g1414574 rh0 rfl).trans m1414569)).symm.trans m1414633
        refine fg_RX0_213 E hW r1414570 dX0_wordOf_233 (fun a1414635 m1414636 r1414637 => ?_)
        refine lv_iload_n hx hb dX0_wordOf_236 rfl (lv_at hl 2 rfl) ?_
        refine gl_342 E hW r1414637 ⟨by omega, by omega⟩ dX0_wordOf_237 (fun y1414638 m1414639 => ?_)
        exact e_I E hW rfl ⟨⟨_, rfl, trivial⟩, hF⟩ dX0_wordOf_238
      by_cases c1414641 : u1.toInt = 273
      · refine lv_tableIn (tgt := 239) hx hb dX0_wordOf_42 (by omega) (by omega) (by rw [c1414641]; rfl) (by decide) ?_
        refine lv_aload_n hx hb dX0_wordOf_239 rfl (lv_at hl 0 rfl) ?_
        refine fg_RX0_12 E hW rh0 dX0_wordOf_240 (fun a1414642 m1414643 r1414644 => ?_)
        obtain rfl : a1414568 = a1414642 := (((fm_R g1414574 rh0 rfl).trans m1414569)).symm.trans m1414643
        refine fg_RX0_179 E hW r1414570 dX0_wordOf_243 (fun a1414645 m1414646 r1414647 => ?_)
        refine lv_iload_n hx hb dX0_wordOf_246 rfl (lv_at hl 2 rfl) ?_
        refine gl_345 E hW r1414647 ⟨by omega, by omega⟩ dX0_wordOf_247 (fun y1414648 m1414649 => ?_)
        exact e_I E hW rfl ⟨⟨_, rfl, trivial⟩, hF⟩ dX0_wordOf_248
      by_cases c1414651 : u1.toInt = 274
      · refine lv_tableIn (tgt := 249) hx hb dX0_wordOf_42 (by omega) (by omega) (by rw [c1414651]; rfl) (by decide) ?_
        refine lv_aload_n hx hb dX0_wordOf_249 rfl (lv_at hl 0 rfl) ?_
        refine fg_RX0_12 E hW rh0 dX0_wordOf_250 (fun a1414652 m1414653 r1414654 => ?_)
        obtain rfl : a1414568 = a1414652 := (((fm_R g1414574 rh0 rfl).trans m1414569)).symm.trans m1414653
        refine fg_RX0_348 E hW r1414570 dX0_wordOf_253 (fun a1414655 m1414656 r1414657 => ?_)
        refine lv_iload_n hx hb dX0_wordOf_256 rfl (lv_at hl 2 rfl) ?_
        refine gl_343 E hW r1414657 ⟨by omega, by omega⟩ dX0_wordOf_257 (fun y1414658 m1414659 => ?_)
        exact e_I E hW rfl ⟨⟨_, rfl, trivial⟩, hF⟩ dX0_wordOf_258
      by_cases c1414661 : u1.toInt = 275
      · refine lv_tableIn (tgt := 259) hx hb dX0_wordOf_42 (by omega) (by omega) (by rw [c1414661]; rfl) (by decide) ?_
        refine lv_aload_n hx hb dX0_wordOf_259 rfl (lv_at hl 0 rfl) ?_
        refine fg_RX0_12 E hW rh0 dX0_wordOf_260 (fun a1414662 m1414663 r1414664 => ?_)
        obtain rfl : a1414568 = a1414662 := (((fm_R g1414574 rh0 rfl).trans m1414569)).symm.trans m1414663
        refine fg_RX0_351 E hW r1414570 dX0_wordOf_263 (fun a1414665 m1414666 r1414667 => ?_)
        refine lv_iload_n hx hb dX0_wordOf_266 rfl (lv_at hl 2 rfl) ?_
        refine gl_341 E hW r1414667 ⟨by omega, by omega⟩ dX0_wordOf_267 (fun y1414668 m1414669 => ?_)
        exact e_I E hW rfl ⟨⟨_, rfl, trivial⟩, hF⟩ dX0_wordOf_268
      by_cases c1414671 : u1.toInt = 276
      · refine lv_tableIn (tgt := 269) hx hb dX0_wordOf_42 (by omega) (by omega) (by rw [c1414671]; rfl) (by decide) ?_
        refine lv_aload_n hx hb dX0_wordOf_269 rfl (lv_at hl 0 rfl) ?_
        refine fg_RX0_12 E hW rh0 dX0_wordOf_270 (fun a1414672 m1414673 r1414674 => ?_)
        obtain rfl : a1414568 = a1414672 := (((fm_R g1414574 rh0 rfl).trans m1414569)).symm.trans m1414673
        refine lv_iload_n hx hb dX0_wordOf_273 rfl (lv_at hl 2 rfl) ?_
        refine t_callV (As := [.int u2]) (rest := []) E hW (c_X4_kinOf l G cI cJ cZ cD cR cT kp L f1414572 hW.2.2.2 _ a1414568 u2 r1414570 (by omega)) r1414570 (by decide) rfl wk_X4_kinOf tw_736 rfl ⟨Nat.le_of_ble_eq_true rfl, Nat.le_of_ble_eq_true rfl⟩ ⟨rfl, rfl⟩ hl.1 rfl (Nat.le_of_ble_eq_true rfl) dX0_wordOf_274 ⟨Nat.le_of_ble_eq_true rfl, Nat.le_of_ble_eq_true rfl⟩ (fun v1414675 f1414676 H locs q1414677 hW => ?_)
        obtain ⟨⟨x1414679, rfl, p1414680⟩, g1414678⟩ := q1414677
        clear p1414680
        have hF := FM.tr hF g1414678 rfl
        exact e_I E hW rfl ⟨⟨_, rfl, trivial⟩, hF⟩ dX0_wordOf_277
      by_cases c1414681 : u1.toInt = 277
      · exfalso; omega
      by_cases c1414682 : u1.toInt = 278
      · exfalso; omega
      by_cases c1414683 : u1.toInt = 279
      · exfalso; omega
      by_cases c1414684 : u1.toInt = 280
      · exfalso; omega
      by_cases c1414685 : u1.toInt = 281
      · exfalso; omega
      by_cases c1414686 : u1.toInt = 282
      · exfalso; omega
      refine lv_tableOut (tgt := 278) hx hb dX0_wordOf_42 (by omega) (by decide) ?_
      refine lv_iconst (v := 0) hx hb dX0_wordOf_278 (by decide) ?_
      exact e_I E hW rfl ⟨⟨_, rfl, trivial⟩, hF⟩ dX0_wordOf_279
    · clear p1414576
      refine lv_goto (tgt := 39) hx hb dX0_wordOf_18 (by decide) ?_
      refine lv_iconst (v := 0) hx hb dX0_wordOf_39 (by decide) ?_
      exact e_I E hW rfl ⟨⟨_, rfl, trivial⟩, hF⟩ dX0_wordOf_40
def ms_X0_join : List (Nat × Nat) := []
def po_X0_join (kp : Nat → Nat) (L : List Nat) (f0 : Nat → va_E) (u1 : Int32) (u2 : Int64) (u3 : Int64) : Option Value → (Nat → va_E) → Prop := fun v f => (∃ r : Int64, v = some (.long r) ∧ (True)) ∧ FM kp L ms_X0_join f0 f
set_option maxHeartbeats 4000000 in
set_option maxRecDepth 100000 in
theorem c_X0_join (l : Launch) (G : va_G) (cI cJ cZ cD cR cT : ClassId) (kp : Nat → Nat) (L : List Nat) (f0 : Nat → va_E) (hTH : TH cI cJ cZ cD cR cT kp L f0) (sz : Nat) (u1 : Int32) (u2 : Int64) (u3 : Int64) (pu1 : u1.toInt ≤ 255) : Met l yX0_join (Cond.code yX0_join cX0_join 7 (some .long) :: wTab) ({ frames := 1, cells := 0, slots := 0, locals := 40 }) (va_Pc [.int u1, .long u2, .long u3] (PreW G (tys6 cI cJ cZ cD cR cT) (va_pl L f0) sz)) (QT (po_X0_join kp L f0 u1 u2 u3) G cI cJ cZ cD cR cT (va_A (va_pl L f0) sz) kp L) 0 0 (va_A (va_pl L f0) sz) := by
  refine metT (by decide) (Nat.le_of_ble_eq_true rfl) hTH ?_
  intro p e s m below meth c A ls E hW hl
  obtain ⟨hx, hb, -, hml, hown, hts, -, -, -⟩ := id E
  have hF : FM kp L ms_X0_join f0 f0 := FM.rf
  have hl : lv_has ls 7 [(0, .int u1), (1, .long u2), (3, .long u3)] := hl
  refine lv_iload_n hx hb dX0_join_0 rfl (lv_at hl 0 rfl) ?_
  have J1414708 : ∀ (y1414707 : Int64) (H : Heap) (locs : List Loc) (ls : Array Slot), WS G cI cJ cZ cD cR cT A kp L f0 s H locs → FM kp L ms_X0_join f0 f0 → lv_has ls 7 [(5, .long y1414707), (0, .int u1), (1, .long u2), (3, .long u3)] → W p l e ({ frames := 1, cells := 0, slots := 0, locals := 40 }) s m ([.int u1, .long u2, .long u3] : List Value).toArray below meth c H locs 0 0 (MQ below (QT (po_X0_join kp L f0 u1 u2 u3) G cI cJ cZ cD cR cT A kp L) ([.int u1, .long u2, .long u3] : List Value).toArray s 0 0 A) (F0 m 149 ls []) := by
    intro y1414707 H locs ls hW hF hl
    refine lv_lload hx hb dX0_join_149 (lv_at hl 0 rfl) ?_
    refine lv_ldc2 (v := (-1000000000)) hx hb hown (hts _ tw_740) dX0_join_151 ?_
    have J1414712 : ∀ (y1414710 : Int64) (b1414711 : (-4000000000000000000 : Int) ≤ y1414710.toInt ∧ y1414710.toInt ≤ 1000000000) (H : Heap) (locs : List Loc) (ls : Array Slot), WS G cI cJ cZ cD cR cT A kp L f0 s H locs → FM kp L ms_X0_join f0 f0 → lv_has ls 7 [(5, .long y1414707), (0, .int u1), (1, .long u2), (3, .long u3)] → W p l e ({ frames := 1, cells := 0, slots := 0, locals := 40 }) s m ([.int u1, .long u2, .long u3] : List Value).toArray below meth c H locs 0 0 (MQ below (QT (po_X0_join kp L f0 u1 u2 u3) G cI cJ cZ cD cR cT A kp L) ([.int u1, .long u2, .long u3] : List Value).toArray s 0 0 A) (F0 m 175 ls [.long y1414710]) := by
      intro y1414710 b1414711 H locs ls hW hF hl
      exact e_J E hW rfl ⟨⟨_, rfl, trivial⟩, hF⟩ dX0_join_175
    refine q_lcmp_lt (Y := -1000000000) (tgt := 167) hx hb dX0_join_154 dX0_join_155 (by decide) rfl rfl (fun c1414713 => ?_) (fun c1414713 => ?_)
    · refine lv_ldc2 (v := (-4000000000000000000)) hx hb hown (hts _ tw_721) dX0_join_167 ?_
      refine lv_goto (tgt := 175) hx hb dX0_join_170 (by decide) ?_
      exact J1414712 (-4000000000000000000) (by decide) _ _ _ hW hF (lv_sub hl [0, 1, 2, 3] rfl)
    · refine lv_lload hx hb dX0_join_158 (lv_at hl 0 rfl) ?_
      refine lv_ldc2 (v := 1000000000) hx hb hown (hts _ tw_741) dX0_join_160 ?_
      refine q_lcmp_le (Y := 1000000000) (tgt := 173) hx hb dX0_join_163 dX0_join_164 (by decide) rfl rfl (fun c1414714 => ?_) (fun c1414714 => ?_)
      · refine lv_lload hx hb dX0_join_173 (lv_at hl 0 rfl) ?_
        exact J1414712 y1414707 (by omega) _ _ _ hW hF (lv_sub hl [0, 1, 2, 3] rfl)
      · refine lv_ldc2 (v := (-4000000000000000000)) hx hb hown (hts _ tw_721) dX0_join_167 ?_
        refine lv_goto (tgt := 175) hx hb dX0_join_170 (by decide) ?_
        exact J1414712 (-4000000000000000000) (by decide) _ _ _ hW hF (lv_sub hl [0, 1, 2, 3] rfl)
  by_cases c1414715 : u1.toInt = 42
  · refine lv_lookup (off := 75) (tgt := 76) hx hb dX0_join_1 (by decide) (by rw [c1414715]; decide) (by decide) ?_
    refine lv_lload_n hx hb dX0_join_76 rfl (lv_at hl 1 rfl) ?_
    refine lv_lload_n hx hb dX0_join_77 rfl (lv_at hl 2 rfl) ?_
    refine u_lmul hx hb dX0_join_78 (fun x1414716 => ?_)
    refine lv_lstore (lv' := [(5, .long x1414716), (0, .int u1), (1, .long u2), (3, .long u3)]) hx hb dX0_join_79 hl (by decide) rfl (fun ls hl => ?_)
    refine lv_goto (tgt := 149) hx hb dX0_join_81 (by decide) ?_
    exact J1414708 x1414716  _ _ _ hW hF (lv_sub hl [0, 1, 2, 3] rfl)
  by_cases c1414717 : u1.toInt = 43
  · refine lv_lookup (off := 59) (tgt := 60) hx hb dX0_join_1 (by decide) (by rw [c1414717]; decide) (by decide) ?_
    refine lv_lload_n hx hb dX0_join_60 rfl (lv_at hl 1 rfl) ?_
    refine lv_lload_n hx hb dX0_join_61 rfl (lv_at hl 2 rfl) ?_
    refine u_ladd hx hb dX0_join_62 (fun x1414718 => ?_)
    refine lv_lstore (lv' := [(5, .long x1414718), (0, .int u1), (1, .long u2), (3, .long u3)]) hx hb dX0_join_63 hl (by decide) rfl (fun ls hl => ?_)
    refine lv_goto (tgt := 149) hx hb dX0_join_65 (by decide) ?_
    exact J1414708 x1414718  _ _ _ hW hF (lv_sub hl [0, 1, 2, 3] rfl)
  by_cases c1414719 : u1.toInt = 45
  · refine lv_lookup (off := 67) (tgt := 68) hx hb dX0_join_1 (by decide) (by rw [c1414719]; decide) (by decide) ?_
    refine lv_lload_n hx hb dX0_join_68 rfl (lv_at hl 1 rfl) ?_
    refine lv_lload_n hx hb dX0_join_69 rfl (lv_at hl 2 rfl) ?_
    refine u_lsub hx hb dX0_join_70 (fun x1414720 => ?_)
    refine lv_lstore (lv' := [(5, .long x1414720), (0, .int u1), (1, .long u2), (3, .long u3)]) hx hb dX0_join_71 hl (by decide) rfl (fun ls hl => ?_)
    refine lv_goto (tgt := 149) hx hb dX0_join_73 (by decide) ?_
    exact J1414708 x1414720  _ _ _ hW hF (lv_sub hl [0, 1, 2, 3] rfl)
  by_cases c1414721 : u1.toInt = 47
  · refine lv_lookup (off := 83) (tgt := 84) hx hb dX0_join_1 (by decide) (by rw [c1414721]; decide) (by decide) ?_
    refine lv_lload_n hx hb dX0_join_84 rfl (lv_at hl 2 rfl) ?_
    refine lv_lconst (v := 0) hx hb dX0_join_85 (by decide) ?_
    have J1414724 : ∀ (y1414723 : Int64) (H : Heap) (locs : List Loc) (ls : Array Slot), WS G cI cJ cZ cD cR cT A kp L f0 s H locs → FM kp L ms_X0_join f0 f0 → lv_has ls 7 [(0, .int u1), (1, .long u2), (3, .long u3)] → W p l e ({ frames := 1, cells := 0, slots := 0, locals := 40 }) s m ([.int u1, .long u2, .long u3] : List Value).toArray below meth c H locs 0 0 (MQ below (QT (po_X0_join kp L f0 u1 u2 u3) G cI cJ cZ cD cR cT A kp L) ([.int u1, .long u2, .long u3] : List Value).toArray s 0 0 A) (F0 m 99 ls [.long y1414723]) := by
      intro y1414723 H locs ls hW hF hl
      refine lv_lstore (lv' := [(5, .long y1414723), (0, .int u1), (1, .long u2), (3, .long u3)]) hx hb dX0_join_99 hl (by decide) rfl (fun ls hl => ?_)
      refine lv_goto (tgt := 149) hx hb dX0_join_101 (by decide) ?_
      exact J1414708 y1414723  _ _ _ hW hF (lv_sub hl [0, 1, 2, 3] rfl)
    refine q_lcmp_ne (Y := 0) (tgt := 96) hx hb dX0_join_86 dX0_join_87 (by decide) rfl rfl (fun c1414725 => ?_) (fun c1414725 => ?_)
    · refine lv_lload_n hx hb dX0_join_96 rfl (lv_at hl 1 rfl) ?_
      refine lv_lload_n hx hb dX0_join_97 rfl (lv_at hl 2 rfl) ?_
      refine u_ldiv hx hb dX0_join_98 (by omega) (fun x1414726 => ?_)
      exact J1414724 x1414726  _ _ _ hW hF (lv_sub hl [0, 1, 2] rfl)
    · refine lv_ldc2 (v := (-4000000000000000000)) hx hb hown (hts _ tw_721) dX0_join_90 ?_
      refine lv_goto (tgt := 99) hx hb dX0_join_93 (by decide) ?_
      exact J1414724 (-4000000000000000000)  _ _ _ hW hF (lv_sub hl [0, 1, 2] rfl)
  by_cases c1414727 : u1.toInt = 60
  · refine lv_lookup (off := 103) (tgt := 104) hx hb dX0_join_1 (by decide) (by rw [c1414727]; decide) (by decide) ?_
    refine lv_lload_n hx hb dX0_join_104 rfl (lv_at hl 1 rfl) ?_
    refine lv_lload_n hx hb dX0_join_105 rfl (lv_at hl 2 rfl) ?_
    have J1414730 : ∀ (y1414728 : Int64) (b1414729 : (0 : Int) ≤ y1414728.toInt ∧ y1414728.toInt ≤ 1) (H : Heap) (locs : List Loc) (ls : Array Slot), WS G cI cJ cZ cD cR cT A kp L f0 s H locs → FM kp L ms_X0_join f0 f0 → lv_has ls 7 [(0, .int u1), (1, .long u2), (3, .long u3)] → W p l e ({ frames := 1, cells := 0, slots := 0, locals := 40 }) s m ([.int u1, .long u2, .long u3] : List Value).toArray below meth c H locs 0 0 (MQ below (QT (po_X0_join kp L f0 u1 u2 u3) G cI cJ cZ cD cR cT A kp L) ([.int u1, .long u2, .long u3] : List Value).toArray s 0 0 A) (F0 m 115 ls [.long y1414728]) := by
      intro y1414728 b1414729 H locs ls hW hF hl
      refine lv_lstore (lv' := [(5, .long y1414728), (0, .int u1), (1, .long u2), (3, .long u3)]) hx hb dX0_join_115 hl (by decide) rfl (fun ls hl => ?_)
      refine lv_goto (tgt := 149) hx hb dX0_join_117 (by decide) ?_
      exact J1414708 y1414728  _ _ _ hW hF (lv_sub hl [0, 1, 2, 3] rfl)
    refine q_lcmp_ge (tgt := 114) hx hb dX0_join_106 dX0_join_107 (by decide) rfl rfl (fun c1414731 => ?_) (fun c1414731 => ?_)
    · refine lv_lconst (v := 0) hx hb dX0_join_114 (by decide) ?_
      exact J1414730 0 (by decide) _ _ _ hW hF (lv_sub hl [0, 1, 2] rfl)
    · refine lv_lconst (v := 1) hx hb dX0_join_110 (by decide) ?_
      refine lv_goto (tgt := 115) hx hb dX0_join_111 (by decide) ?_
      exact J1414730 1 (by decide) _ _ _ hW hF (lv_sub hl [0, 1, 2] rfl)
  by_cases c1414732 : u1.toInt = 62
  · refine lv_lookup (off := 119) (tgt := 120) hx hb dX0_join_1 (by decide) (by rw [c1414732]; decide) (by decide) ?_
    refine lv_lload_n hx hb dX0_join_120 rfl (lv_at hl 1 rfl) ?_
    refine lv_lload_n hx hb dX0_join_121 rfl (lv_at hl 2 rfl) ?_
    have J1414735 : ∀ (y1414733 : Int64) (b1414734 : (0 : Int) ≤ y1414733.toInt ∧ y1414733.toInt ≤ 1) (H : Heap) (locs : List Loc) (ls : Array Slot), WS G cI cJ cZ cD cR cT A kp L f0 s H locs → FM kp L ms_X0_join f0 f0 → lv_has ls 7 [(0, .int u1), (1, .long u2), (3, .long u3)] → W p l e ({ frames := 1, cells := 0, slots := 0, locals := 40 }) s m ([.int u1, .long u2, .long u3] : List Value).toArray below meth c H locs 0 0 (MQ below (QT (po_X0_join kp L f0 u1 u2 u3) G cI cJ cZ cD cR cT A kp L) ([.int u1, .long u2, .long u3] : List Value).toArray s 0 0 A) (F0 m 131 ls [.long y1414733]) := by
      intro y1414733 b1414734 H locs ls hW hF hl
      refine lv_lstore (lv' := [(5, .long y1414733), (0, .int u1), (1, .long u2), (3, .long u3)]) hx hb dX0_join_131 hl (by decide) rfl (fun ls hl => ?_)
      refine lv_goto (tgt := 149) hx hb dX0_join_133 (by decide) ?_
      exact J1414708 y1414733  _ _ _ hW hF (lv_sub hl [0, 1, 2, 3] rfl)
    refine q_lcmp_le (tgt := 130) hx hb dX0_join_122 dX0_join_123 (by decide) rfl rfl (fun c1414736 => ?_) (fun c1414736 => ?_)
    · refine lv_lconst (v := 0) hx hb dX0_join_130 (by decide) ?_
      exact J1414735 0 (by decide) _ _ _ hW hF (lv_sub hl [0, 1, 2] rfl)
    · refine lv_lconst (v := 1) hx hb dX0_join_126 (by decide) ?_
      refine lv_goto (tgt := 131) hx hb dX0_join_127 (by decide) ?_
      exact J1414735 1 (by decide) _ _ _ hW hF (lv_sub hl [0, 1, 2] rfl)
  refine lv_lookup (off := 135) (tgt := 136) hx hb dX0_join_1 (by decide) (by simp [Op.lookupswitch.offset, List.find?, Ne.symm c1414715, Ne.symm c1414717, Ne.symm c1414719, Ne.symm c1414721, Ne.symm c1414727, Ne.symm c1414732, c1414715, c1414717, c1414719, c1414721, c1414727, c1414732]) (by decide) ?_
  refine lv_lload_n hx hb dX0_join_136 rfl (lv_at hl 1 rfl) ?_
  refine lv_lload_n hx hb dX0_join_137 rfl (lv_at hl 2 rfl) ?_
  have J1414739 : ∀ (y1414737 : Int64) (b1414738 : (0 : Int) ≤ y1414737.toInt ∧ y1414737.toInt ≤ 1) (H : Heap) (locs : List Loc) (ls : Array Slot), WS G cI cJ cZ cD cR cT A kp L f0 s H locs → FM kp L ms_X0_join f0 f0 → lv_has ls 7 [(0, .int u1), (1, .long u2), (3, .long u3)] → W p l e ({ frames := 1, cells := 0, slots := 0, locals := 40 }) s m ([.int u1, .long u2, .long u3] : List Value).toArray below meth c H locs 0 0 (MQ below (QT (po_X0_join kp L f0 u1 u2 u3) G cI cJ cZ cD cR cT A kp L) ([.int u1, .long u2, .long u3] : List Value).toArray s 0 0 A) (F0 m 147 ls [.long y1414737]) := by
    intro y1414737 b1414738 H locs ls hW hF hl
    refine lv_lstore (lv' := [(5, .long y1414737), (0, .int u1), (1, .long u2), (3, .long u3)]) hx hb dX0_join_147 hl (by decide) rfl (fun ls hl => ?_)
    exact J1414708 y1414737  _ _ _ hW hF (lv_sub hl [0, 1, 2, 3] rfl)
  refine q_lcmp_ne (tgt := 146) hx hb dX0_join_138 dX0_join_139 (by decide) rfl rfl (fun c1414740 => ?_) (fun c1414740 => ?_)
  · refine lv_lconst (v := 0) hx hb dX0_join_146 (by decide) ?_
    exact J1414739 0 (by decide) _ _ _ hW hF (lv_sub hl [0, 1, 2] rfl)
  · refine lv_lconst (v := 1) hx hb dX0_join_142 (by decide) ?_
    refine lv_goto (tgt := 147) hx hb dX0_join_143 (by decide) ?_
    exact J1414739 1 (by decide) _ _ _ hW hF (lv_sub hl [0, 1, 2] rfl)
def ms_X0_ask : List (Nat × Nat) := [(115, 0)]
def po_X0_ask (kp : Nat → Nat) (L : List Nat) (f0 : Nat → va_E) (h0 : Nat) (u1 : Nat) (u2 : Int32) (u3 : Int32) (u4 : Int32) : Option Value → (Nat → va_E) → Prop := fun v f => (∃ r : Int64, v = some (.long r) ∧ (True)) ∧ FM kp L ms_X0_ask f0 f
set_option maxHeartbeats 4000000 in
set_option maxRecDepth 100000 in
theorem c_X0_ask (l : Launch) (G : va_G) (cI cJ cZ cD cR cT : ClassId) (kp : Nat → Nat) (L : List Nat) (f0 : Nat → va_E) (hTH : TH cI cJ cZ cD cR cT kp L f0) (sz : Nat) (h0 : Nat) (u1 : Nat) (u2 : Int32) (u3 : Int32) (u4 : Int32) (rh0 : RK kp L h0 0) (ru1 : RK kp L u1 9) (pu2 : (0 : Int) ≤ u2.toInt ∧ u2.toInt ≤ 11) (pu3 : (-1 : Int) ≤ u3.toInt ∧ u3.toInt ≤ 39) (pu4 : (-1 : Int) ≤ u4.toInt ∧ u4.toInt ≤ 39) (hcl : u2.toInt < (oI (f0 u1) 1).toInt) : Met l yX0_ask (Cond.code yX0_ask cX0_ask 12 (some .long) :: wTab) ({ frames := 3, cells := 0, slots := 0, locals := 86 }) (va_Pc [.ref h0, .ref u1, .int u2, .int u3, .int u4] (PreW G (tys6 cI cJ cZ cD cR cT) (va_pl L f0) sz)) (QT (po_X0_ask kp L f0 h0 u1 u2 u3 u4) G cI cJ cZ cD cR cT (va_A (va_pl L f0) sz) kp L) 0 0 (va_A (va_pl L f0) sz) := by
  refine metT (by decide) (Nat.le_of_ble_eq_true rfl) hTH ?_
  intro p e s m below meth c A ls E hW hl
  obtain ⟨hx, hb, -, hml, hown, hts, -, -, -⟩ := id E
  have hF : FM kp L ms_X0_ask f0 f0 := FM.rf
  have hl : lv_has ls 12 [(0, .ref h0), (1, .ref u1), (2, .int u2), (3, .int u3), (4, .int u4)] := hl
  refine lv_iconst (v := 0) hx hb dX0_ask_0 (by decide) ?_
  refine lv_istore (lv' := [(5, .int 0), (0, .ref h0), (1, .ref u1), (2, .int u2), (3, .int u3), (4, .int u4)]) hx hb dX0_ask_1 hl (by decide) rfl (fun ls hl => ?_)
  refine lv_iconst (v := 0) hx hb dX0_ask_3 (by decide) ?_
  refine lv_istore (lv' := [(6, .int 0), (5, .int 0), (0, .ref h0), (1, .ref u1), (2, .int u2), (3, .int u3), (4, .int u4)]) hx hb dX0_ask_4 hl (by decide) rfl (fun ls hl => ?_)
  refine lv_aload_n hx hb dX0_ask_6 rfl (lv_at hl 2 rfl) ?_
  refine fg_RX0_57 E hW rh0 dX0_ask_7 (fun a1414741 m1414742 r1414743 => ?_)
  refine lv_iconst (v := 0) hx hb dX0_ask_10 (by decide) ?_
  refine lv_lconst (v := 0) hx hb dX0_ask_11 (by decide) ?_
  refine gs_115 E hW r1414743 (by decide) dX0_ask_12 (fun f1414744 H locs e1414745 n1414746 g1414747 hW => ?_)
  have hF := FM.tr hF g1414747 rfl
  refine lv_aload_n hx hb dX0_ask_13 rfl (lv_at hl 3 rfl) ?_
  refine fg_RX0_314 E hW ru1 dX0_ask_14 (fun a1414748 m1414749 r1414750 => ?_)
  refine lv_iload_n hx hb dX0_ask_17 rfl (lv_at hl 4 rfl) ?_
  refine gl_646 E hW r1414750 ⟨by omega, by omega⟩ dX0_ask_18 (fun y1414751 m1414752 => ?_)
  have b1414754 : 0 ≤ y1414751.toInt := si_start hW ru1 m1414749 ⟨by omega, by rw [fm_I hF ru1 rfl]; exact hcl⟩ m1414752
  refine lv_istore (lv' := [(7, .int y1414751), (6, .int 0), (5, .int 0), (0, .ref h0), (1, .ref u1), (2, .int u2), (3, .int u3), (4, .int u4)]) hx hb dX0_ask_19 hl (by decide) rfl (fun ls hl => ?_)
  have L1420548 : ∀ (n : Nat), ∀ (f1420540 : Nat → va_E) (y1420543 : Int32) (y1420545 : Int32) (y1420546 : Int32) (m1420541 : oR (f1420540 h0) 15 = a1414741) (m1420542 : oR (f1420540 u1) 6 = a1414748) (b1420544 : (0 : Int) ≤ y1420543.toInt) (b1420547 : (0 : Int) ≤ y1420546.toInt ∧ y1420546.toInt ≤ 64) (hm : (2147483648 : Int) - y1420543.toInt ≤ n) (H : Heap) (locs : List Loc) (ls : Array Slot), WS G cI cJ cZ cD cR cT A kp L f1420540 s H locs → FM kp L ms_X0_ask f0 f1420540 → lv_has ls 12 [(7, .int y1420543), (6, .int y1420545), (5, .int y1420546), (0, .ref h0), (1, .ref u1), (2, .int u2), (3, .int u3), (4, .int u4)] → W p l e ({ frames := 3, cells := 0, slots := 0, locals := 86 }) s m ([.ref h0, .ref u1, .int u2, .int u3, .int u4] : List Value).toArray below meth c H locs 0 0 (MQ below (QT (po_X0_ask kp L f0 h0 u1 u2 u3 u4) G cI cJ cZ cD cR cT A kp L) ([.ref h0, .ref u1, .int u2, .int u3, .int u4] : List Value).toArray s 0 0 A) (F0 m 21 ls []) := by
    intro n
    induction n with
    | zero =>
      intro f1420540 y1420543 y1420545 y1420546 m1420541 m1420542 b1420544 b1420547 hm H locs ls hW hF hl
      have hz := i32_b y1420543
      exfalso; omega
    | succ n ih =>
      intro f1420540 y1420543 y1420545 y1420546 m1420541 m1420542 b1420544 b1420547 hm H locs ls hW hF hl
      clear b1414754
      have ih21 := ih
      refine lv_iload hx hb dX0_ask_21 (lv_at hl 0 rfl) ?_
      refine lv_aload_n hx hb dX0_ask_23 rfl (lv_at hl 4 rfl) ?_
      refine fg_RX0_317 E hW ru1 dX0_ask_24 (fun a1420549 m1420550 r1420551 => ?_)
      refine lv_iload_n hx hb dX0_ask_27 rfl (lv_at hl 5 rfl) ?_
      refine gl_647 E hW r1420551 ⟨by omega, by omega⟩ dX0_ask_28 (fun y1420552 m1420553 => ?_)
      refine q_icmp_ge (tgt := 320) hx hb dX0_ask_29 (by decide) rfl rfl (fun c1420555 => ?_) (fun c1420555 => ?_)
      · refine lv_aload_n hx hb dX0_ask_320 rfl (lv_at hl 3 rfl) ?_
        refine fg_RX0_57 E hW rh0 dX0_ask_321 (fun a1420556 m1420557 r1420558 => ?_)
        obtain rfl : a1414741 = a1420556 := (m1420541).symm.trans m1420557
        refine lv_iconst (v := 0) hx hb dX0_ask_324 (by decide) ?_
        refine gl_115 E hW r1414743 (by decide) dX0_ask_325 (fun y1420559 _ => ?_)
        exact e_J E hW rfl ⟨⟨_, rfl, trivial⟩, hF⟩ dX0_ask_326
      · have hb1420560 : y1420543.toInt ≤ 2147483646 := by have := i32_b y1420552; omega
        refine lv_iload hx hb dX0_ask_32 (lv_at hl 0 rfl) ?_
        refine lv_iload hx hb dX0_ask_34 (lv_at hl 1 rfl) ?_
        refine q_icmp_ge (tgt := 42) hx hb dX0_ask_36 (by decide) rfl rfl (fun c1420561 => ?_) (fun c1420561 => ?_)
        · refine lv_aload_n hx hb dX0_ask_42 rfl (lv_at hl 4 rfl) ?_
          refine fg_RX0_320 E hW ru1 dX0_ask_43 (fun a1420562 m1420563 r1420564 => ?_)
          refine lv_iload hx hb dX0_ask_46 (lv_at hl 0 rfl) ?_
          refine gl_648 E hW r1420564 (ix_op hW ru1 m1420550 m1420563 ⟨by omega, by rw [fm_I hF ru1 rfl]; exact hcl⟩ m1420553 (by omega) (by omega)) dX0_ask_48 (fun y1420565 m1420566 => ?_)
          refine lv_istore (lv' := [(8, .int y1420565), (7, .int y1420543), (6, .int y1420545), (5, .int y1420546), (0, .ref h0), (1, .ref u1), (2, .int u2), (3, .int u3), (4, .int u4)]) hx hb dX0_ask_49 hl (by decide) rfl (fun ls hl => ?_)
          refine lv_iload hx hb dX0_ask_51 (lv_at hl 0 rfl) ?_
          refine lv_sipush (v := 301) hx hb dX0_ask_53 (by decide) ?_
          refine q_icmp_eq (Y := 301) (tgt := 75) hx hb dX0_ask_56 (by decide) rfl rfl (fun c1420568 => ?_) (fun c1420568 => ?_)
          · refine lv_iload hx hb dX0_ask_75 (lv_at hl 3 rfl) ?_
            refine lv_bipush (v := 64) hx hb dX0_ask_77 (by decide) ?_
            refine q_icmp_lt (Y := 64) (tgt := 86) hx hb dX0_ask_79 (by decide) rfl rfl (fun c1420569 => ?_) (fun c1420569 => ?_)
            · refine lv_aload_n hx hb dX0_ask_86 rfl (lv_at hl 4 rfl) ?_
              refine fg_RX0_57 E hW rh0 dX0_ask_87 (fun a1420570 m1420571 r1420572 => ?_)
              obtain rfl : a1414741 = a1420570 := (m1420541).symm.trans m1420571
              refine lv_iload hx hb dX0_ask_90 (lv_at hl 3 rfl) ?_
              refine lv_iload hx hb dX0_ask_92 (lv_at hl 0 rfl) ?_
              refine lv_sipush (v := 301) hx hb dX0_ask_94 (by decide) ?_
              refine q_icmp_ne (Y := 301) (tgt := 111) hx hb dX0_ask_97 (by decide) rfl rfl (fun c1420582 => ?_) (fun c1420582 => ?_)
              · exfalso; omega
              · refine lv_aload_n hx hb dX0_ask_100 rfl (lv_at hl 5 rfl) ?_
                refine fg_RX0_323 E hW ru1 dX0_ask_101 (fun a1420583 m1420584 r1420585 => ?_)
                refine lv_iload hx hb dX0_ask_104 (lv_at hl 1 rfl) ?_
                refine gl_649 E hW r1420585 (ix_arg hW ru1 m1420550 m1420584 ⟨by omega, by rw [fm_I hF ru1 rfl]; exact hcl⟩ m1420553 (by omega) (by omega)) dX0_ask_106 (fun y1420586 m1420587 => ?_)
                refine q_i2l hx hb dX0_ask_107 rfl (fun x1420589 h1420590 => ?_)
                have hb1420591 : -2147483648 ≤ x1420589.toInt ∧ x1420589.toInt ≤ 2147483647 := by have := i32_b y1420586; omega
                refine lv_goto (tgt := 121) hx hb dX0_ask_108 (by decide) ?_
                refine gs_115 E hW r1414743 ⟨by omega, by omega⟩ dX0_ask_121 (fun f1420592 H locs e1420593 n1420594 g1420595 hW => ?_)
                have hF := FM.tr hF g1420595 rfl
                refine q_iinc hx hb dX0_ask_122 hl (k := 3) rfl rfl rfl (by omega) (by decide) (fun i1420596 ls h1420597 hl => ?_)
                have hl : lv_has ls 12 [(5, .int i1420596), (8, .int y1420565), (7, .int y1420543), (6, .int y1420545), (0, .ref h0), (1, .ref u1), (2, .int u2), (3, .int u3), (4, .int u4)] := hl
                refine lv_goto (tgt := 314) hx hb dX0_ask_125 (by decide) ?_
                refine q_iinc hx hb dX0_ask_314 hl (k := 2) rfl rfl rfl (by omega) (by decide) (fun i1420598 ls h1420599 hl => ?_)
                have hl : lv_has ls 12 [(7, .int i1420598), (5, .int i1420596), (8, .int y1420565), (6, .int y1420545), (0, .ref h0), (1, .ref u1), (2, .int u2), (3, .int u3), (4, .int u4)] := hl
                refine lv_goto (tgt := 21) hx hb dX0_ask_317 (by decide) ?_
                exact ih21 f1420592 i1420598 y1420545 i1420596 ((fm_R g1420595 rh0 rfl).trans m1420571) ((fm_R g1420595 ru1 rfl).trans m1420542) (by omega) (by omega) (by omega) _ _ _ hW hF (lv_sub hl [0, 3, 1, 4, 5, 6, 7, 8] rfl)
            · refine lv_ldc2 (v := (-4000000000000000000)) hx hb hown (hts _ tw_721) dX0_ask_82 ?_
              exact e_J E hW rfl ⟨⟨_, rfl, trivial⟩, hF⟩ dX0_ask_85
          · refine lv_iload hx hb dX0_ask_59 (lv_at hl 0 rfl) ?_
            refine lv_sipush (v := 268) hx hb dX0_ask_61 (by decide) ?_
            refine q_icmp_lt (Y := 268) (tgt := 128) hx hb dX0_ask_64 (by decide) rfl rfl (fun c1420600 => ?_) (fun c1420600 => ?_)
            · refine lv_iload hx hb dX0_ask_128 (lv_at hl 3 rfl) ?_
              refine lv_iconst (v := 1) hx hb dX0_ask_130 (by decide) ?_
              refine q_icmp_ge (Y := 1) (tgt := 138) hx hb dX0_ask_131 (by decide) rfl rfl (fun c1420601 => ?_) (fun c1420601 => ?_)
              · refine lv_aload_n hx hb dX0_ask_138 rfl (lv_at hl 4 rfl) ?_
                refine fg_RX0_57 E hW rh0 dX0_ask_139 (fun a1420602 m1420603 r1420604 => ?_)
                obtain rfl : a1414741 = a1420602 := (m1420541).symm.trans m1420603
                refine lv_iload hx hb dX0_ask_142 (lv_at hl 3 rfl) ?_
                refine lv_iconst (v := 1) hx hb dX0_ask_144 (by decide) ?_
                refine q_isub (Y := 1) hx hb dX0_ask_145 rfl rfl (by omega) (fun x1420605 h1420606 => ?_)
                refine gl_115 E hW r1414743 ⟨by omega, by omega⟩ dX0_ask_146 (fun y1420607 _ => ?_)
                refine lv_lconst (v := 0) hx hb dX0_ask_147 (by decide) ?_
                have J1420610 : ∀ (y1420608 : Int32) (b1420609 : (0 : Int) ≤ y1420608.toInt ∧ y1420608.toInt ≤ 1) (H : Heap) (locs : List Loc) (ls : Array Slot), WS G cI cJ cZ cD cR cT A kp L f1420540 s H locs → FM kp L ms_X0_ask f0 f1420540 → lv_has ls 12 [(8, .int y1420565), (7, .int y1420543), (6, .int y1420545), (5, .int y1420546), (0, .ref h0), (1, .ref u1), (2, .int u2), (3, .int u3), (4, .int u4)] → W p l e ({ frames := 3, cells := 0, slots := 0, locals := 86 }) s m ([.ref h0, .ref u1, .int u2, .int u3, .int u4] : List Value).toArray below meth c H locs 0 0 (MQ below (QT (po_X0_ask kp L f0 h0 u1 u2 u3 u4) G cI cJ cZ cD cR cT A kp L) ([.ref h0, .ref u1, .int u2, .int u3, .int u4] : List Value).toArray s 0 0 A) (F0 m 157 ls [.int y1420608]) := by
                  intro y1420608 b1420609 H locs ls hW hF hl
                  refine lv_istore (lv' := [(9, .int y1420608), (8, .int y1420565), (7, .int y1420543), (6, .int y1420545), (5, .int y1420546), (0, .ref h0), (1, .ref u1), (2, .int u2), (3, .int u3), (4, .int u4)]) hx hb dX0_ask_157 hl (by decide) rfl (fun ls hl => ?_)
                  refine lv_iload hx hb dX0_ask_159 (lv_at hl 1 rfl) ?_
                  refine lv_sipush (v := 267) hx hb dX0_ask_161 (by decide) ?_
                  refine q_icmp_ne (Y := 267) (tgt := 189) hx hb dX0_ask_164 (by decide) rfl rfl (fun c1420611 => ?_) (fun c1420611 => ?_)
                  · refine lv_iload hx hb dX0_ask_189 (lv_at hl 1 rfl) ?_
                    refine lv_sipush (v := 259) hx hb dX0_ask_191 (by decide) ?_
                    refine q_icmp_ne (Y := 259) (tgt := 206) hx hb dX0_ask_194 (by decide) rfl rfl (fun c1420612 => ?_) (fun c1420612 => ?_)
                    · refine lv_iload hx hb dX0_ask_206 (lv_at hl 1 rfl) ?_
                      refine lv_sipush (v := 265) hx hb dX0_ask_208 (by decide) ?_
                      refine q_icmp_ne (Y := 265) (tgt := 219) hx hb dX0_ask_211 (by decide) rfl rfl (fun c1420613 => ?_) (fun c1420613 => ?_)
                      · refine lv_iload hx hb dX0_ask_219 (lv_at hl 1 rfl) ?_
                        refine lv_sipush (v := 266) hx hb dX0_ask_221 (by decide) ?_
                        refine q_icmp_ne (Y := 266) (tgt := 244) hx hb dX0_ask_224 (by decide) rfl rfl (fun c1420614 => ?_) (fun c1420614 => ?_)
                        · refine q_iinc hx hb dX0_ask_244 hl (k := 4) rfl rfl rfl (by omega) (by decide) (fun i1420615 ls h1420616 hl => ?_)
                          have hl : lv_has ls 12 [(5, .int i1420615), (9, .int y1420608), (8, .int y1420565), (7, .int y1420543), (6, .int y1420545), (0, .ref h0), (1, .ref u1), (2, .int u2), (3, .int u3), (4, .int u4)] := hl
                          refine lv_iload hx hb dX0_ask_247 (lv_at hl 2 rfl) ?_
                          refine lv_sipush (v := 256) hx hb dX0_ask_249 (by decide) ?_
                          refine q_icmp_ge (Y := 256) (tgt := 314) hx hb dX0_ask_252 (by decide) rfl rfl (fun c1420617 => ?_) (fun c1420617 => ?_)
                          · refine q_iinc hx hb dX0_ask_314 hl (k := 3) rfl rfl rfl (by omega) (by decide) (fun i1420618 ls h1420619 hl => ?_)
                            have hl : lv_has ls 12 [(7, .int i1420618), (5, .int i1420615), (9, .int y1420608), (8, .int y1420565), (6, .int y1420545), (0, .ref h0), (1, .ref u1), (2, .int u2), (3, .int u3), (4, .int u4)] := hl
                            refine lv_goto (tgt := 21) hx hb dX0_ask_317 (by decide) ?_
                            exact ih21 f1420540 i1420618 y1420545 i1420615 m1420603 m1420542 (by omega) (by omega) (by omega) _ _ _ hW hF (lv_sub hl [0, 4, 1, 5, 6, 7, 8, 9] rfl)
                          · refine lv_iload hx hb dX0_ask_255 (lv_at hl 0 rfl) ?_
                            refine lv_iconst (v := 1) hx hb dX0_ask_257 (by decide) ?_
                            refine q_icmp_ge (Y := 1) (tgt := 267) hx hb dX0_ask_258 (by decide) rfl rfl (fun c1420620 => ?_) (fun c1420620 => ?_)
                            · refine lv_iload hx hb dX0_ask_267 (lv_at hl 2 rfl) ?_
                              refine lv_aload_n hx hb dX0_ask_269 rfl (lv_at hl 5 rfl) ?_
                              refine fg_RX0_57 E hW rh0 dX0_ask_270 (fun a1420621 m1420622 r1420623 => ?_)
                              obtain rfl : a1414741 = a1420621 := (m1420603).symm.trans m1420622
                              refine lv_iload hx hb dX0_ask_273 (lv_at hl 0 rfl) ?_
                              refine lv_iconst (v := 1) hx hb dX0_ask_275 (by decide) ?_
                              refine q_isub (Y := 1) hx hb dX0_ask_276 rfl rfl (by omega) (fun x1420624 h1420625 => ?_)
                              refine gl_115 E hW r1414743 ⟨by omega, by omega⟩ dX0_ask_277 (fun y1420626 _ => ?_)
                              refine lv_aload_n hx hb dX0_ask_278 rfl (lv_at hl 5 rfl) ?_
                              refine fg_RX0_57 E hW rh0 dX0_ask_279 (fun a1420627 m1420628 r1420629 => ?_)
                              obtain rfl : a1414741 = a1420627 := (m1420622).symm.trans m1420628
                              refine lv_iload hx hb dX0_ask_282 (lv_at hl 0 rfl) ?_
                              refine gl_115 E hW r1414743 ⟨by omega, by omega⟩ dX0_ask_284 (fun y1420630 _ => ?_)
                              refine t_callS (As := [.int y1420565, .long y1420626, .long y1420630]) (rest := []) E hW (c_X0_join l G cI cJ cZ cD cR cT kp L f1420540 hW.2.2.2 _ y1420565 y1420626 y1420630 (by omega)) wk_X0_join tw_737 rfl ⟨Nat.le_of_ble_eq_true rfl, Nat.le_of_ble_eq_true rfl⟩ ⟨rfl, rfl⟩ hl.1 rfl (Nat.le_of_ble_eq_true rfl) dX0_ask_285 ⟨Nat.le_of_ble_eq_true rfl, Nat.le_of_ble_eq_true rfl⟩ (fun v1420631 f1420632 H locs q1420633 hW => ?_)
                              obtain ⟨⟨x1420635, rfl, p1420636⟩, g1420634⟩ := q1420633
                              clear p1420636
                              have hF := FM.tr hF g1420634 rfl
                              refine lv_lstore (lv' := [(10, .long x1420635), (5, .int i1420615), (9, .int y1420608), (8, .int y1420565), (7, .int y1420543), (6, .int y1420545), (0, .ref h0), (1, .ref u1), (2, .int u2), (3, .int u3), (4, .int u4)]) hx hb dX0_ask_288 hl (by decide) rfl (fun ls hl => ?_)
                              refine lv_lload hx hb dX0_ask_290 (lv_at hl 0 rfl) ?_
                              refine lv_ldc2 (v := (-4000000000000000000)) hx hb hown (hts _ tw_721) dX0_ask_292 ?_
                              refine q_lcmp_ne (Y := -4000000000000000000) (tgt := 303) hx hb dX0_ask_295 dX0_ask_296 (by decide) rfl rfl (fun c1420637 => ?_) (fun c1420637 => ?_)
                              · refine lv_aload_n hx hb dX0_ask_303 rfl (lv_at hl 6 rfl) ?_
                                refine fg_RX0_57 E hW rh0 dX0_ask_304 (fun a1420638 m1420639 r1420640 => ?_)
                                obtain rfl : a1414741 = a1420638 := (((fm_R g1420634 rh0 rfl).trans m1420628)).symm.trans m1420639
                                refine lv_iload hx hb dX0_ask_307 (lv_at hl 1 rfl) ?_
                                refine lv_iconst (v := 1) hx hb dX0_ask_309 (by decide) ?_
                                refine q_isub (Y := 1) hx hb dX0_ask_310 rfl rfl (by omega) (fun x1420641 h1420642 => ?_)
                                refine lv_lload hx hb dX0_ask_311 (lv_at hl 0 rfl) ?_
                                refine gs_115 E hW r1414743 ⟨by omega, by omega⟩ dX0_ask_313 (fun f1420643 H locs e1420644 n1420645 g1420646 hW => ?_)
                                have hF := FM.tr hF g1420646 rfl
                                refine q_iinc hx hb dX0_ask_314 hl (k := 4) rfl rfl rfl (by omega) (by decide) (fun i1420647 ls h1420648 hl => ?_)
                                have hl : lv_has ls 12 [(7, .int i1420647), (10, .long x1420635), (5, .int i1420615), (9, .int y1420608), (8, .int y1420565), (6, .int y1420545), (0, .ref h0), (1, .ref u1), (2, .int u2), (3, .int u3), (4, .int u4)] := hl
                                refine lv_goto (tgt := 21) hx hb dX0_ask_317 (by decide) ?_
                                exact ih21 f1420643 i1420647 y1420545 i1420615 ((fm_R g1420646 rh0 rfl).trans m1420639) ((fm_R g1420646 ru1 rfl).trans ((fm_R g1420634 ru1 rfl).trans m1420542)) (by omega) (by omega) (by omega) _ _ _ hW hF (lv_sub hl [0, 5, 2, 6, 7, 8, 9, 10] rfl)
                              · refine lv_ldc2 (v := (-4000000000000000000)) hx hb hown (hts _ tw_721) dX0_ask_299 ?_
                                exact e_J E hW rfl ⟨⟨_, rfl, trivial⟩, hF⟩ dX0_ask_302
                            · refine lv_ldc2 (v := (-4000000000000000000)) hx hb hown (hts _ tw_721) dX0_ask_261 ?_
                              refine lv_goto (tgt := 288) hx hb dX0_ask_264 (by decide) ?_
                              refine lv_lstore (lv' := [(10, .long (-4000000000000000000)), (5, .int i1420615), (9, .int y1420608), (8, .int y1420565), (7, .int y1420543), (6, .int y1420545), (0, .ref h0), (1, .ref u1), (2, .int u2), (3, .int u3), (4, .int u4)]) hx hb dX0_ask_288 hl (by decide) rfl (fun ls hl => ?_)
                              refine lv_lload hx hb dX0_ask_290 (lv_at hl 0 rfl) ?_
                              refine lv_ldc2 (v := (-4000000000000000000)) hx hb hown (hts _ tw_721) dX0_ask_292 ?_
                              refine q_lcmp_ne (X := -4000000000000000000) (Y := -4000000000000000000) (tgt := 303) hx hb dX0_ask_295 dX0_ask_296 (by decide) rfl rfl (fun c => absurd c (by decide)) (fun _ => ?_)
                              refine lv_ldc2 (v := (-4000000000000000000)) hx hb hown (hts _ tw_721) dX0_ask_299 ?_
                              exact e_J E hW rfl ⟨⟨_, rfl, trivial⟩, hF⟩ dX0_ask_302
                        · refine lv_iload hx hb dX0_ask_227 (lv_at hl 0 rfl) ?_
                          refine q_if_ne (tgt := 244) hx hb dX0_ask_229 (by decide) rfl (fun c1420649 => ?_) (fun c1420649 => ?_)
                          · refine q_iinc hx hb dX0_ask_244 hl (k := 4) rfl rfl rfl (by omega) (by decide) (fun i1420650 ls h1420651 hl => ?_)
                            have hl : lv_has ls 12 [(5, .int i1420650), (9, .int y1420608), (8, .int y1420565), (7, .int y1420543), (6, .int y1420545), (0, .ref h0), (1, .ref u1), (2, .int u2), (3, .int u3), (4, .int u4)] := hl
                            refine lv_iload hx hb dX0_ask_247 (lv_at hl 2 rfl) ?_
                            refine lv_sipush (v := 256) hx hb dX0_ask_249 (by decide) ?_
                            refine q_icmp_ge (Y := 256) (tgt := 314) hx hb dX0_ask_252 (by decide) rfl rfl (fun c1420652 => ?_) (fun c1420652 => ?_)
                            · refine q_iinc hx hb dX0_ask_314 hl (k := 3) rfl rfl rfl (by omega) (by decide) (fun i1420653 ls h1420654 hl => ?_)
                              have hl : lv_has ls 12 [(7, .int i1420653), (5, .int i1420650), (9, .int y1420608), (8, .int y1420565), (6, .int y1420545), (0, .ref h0), (1, .ref u1), (2, .int u2), (3, .int u3), (4, .int u4)] := hl
                              refine lv_goto (tgt := 21) hx hb dX0_ask_317 (by decide) ?_
                              exact ih21 f1420540 i1420653 y1420545 i1420650 m1420603 m1420542 (by omega) (by omega) (by omega) _ _ _ hW hF (lv_sub hl [0, 4, 1, 5, 6, 7, 8, 9] rfl)
                            · exfalso; omega
                          · refine lv_aload_n hx hb dX0_ask_232 rfl (lv_at hl 6 rfl) ?_
                            refine fg_RX0_323 E hW ru1 dX0_ask_233 (fun a1420655 m1420656 r1420657 => ?_)
                            refine lv_iload hx hb dX0_ask_236 (lv_at hl 2 rfl) ?_
                            refine gl_649 E hW r1420657 (ix_arg hW ru1 m1420550 m1420656 ⟨by omega, by rw [fm_I hF ru1 rfl]; exact hcl⟩ m1420553 (by omega) (by omega)) dX0_ask_238 (fun y1420658 m1420659 => ?_)
                            refine lv_istore (lv' := [(6, .int y1420658), (9, .int y1420608), (8, .int y1420565), (7, .int y1420543), (5, .int y1420546), (0, .ref h0), (1, .ref u1), (2, .int u2), (3, .int u3), (4, .int u4)]) hx hb dX0_ask_239 hl (by decide) rfl (fun ls hl => ?_)
                            refine lv_goto (tgt := 314) hx hb dX0_ask_241 (by decide) ?_
                            refine q_iinc hx hb dX0_ask_314 hl (k := 3) rfl rfl rfl (by omega) (by decide) (fun i1420661 ls h1420662 hl => ?_)
                            have hl : lv_has ls 12 [(7, .int i1420661), (6, .int y1420658), (9, .int y1420608), (8, .int y1420565), (5, .int y1420546), (0, .ref h0), (1, .ref u1), (2, .int u2), (3, .int u3), (4, .int u4)] := hl
                            refine lv_goto (tgt := 21) hx hb dX0_ask_317 (by decide) ?_
                            exact ih21 f1420540 i1420661 y1420658 y1420546 m1420603 m1420542 (by omega) (by omega) (by omega) _ _ _ hW hF (lv_sub hl [0, 1, 4, 5, 6, 7, 8, 9] rfl)
                      · refine lv_iload hx hb dX0_ask_214 (lv_at hl 0 rfl) ?_
                        refine q_if_ne (tgt := 232) hx hb dX0_ask_216 (by decide) rfl (fun c1420663 => ?_) (fun c1420663 => ?_)
                        · refine lv_aload_n hx hb dX0_ask_232 rfl (lv_at hl 6 rfl) ?_
                          refine fg_RX0_323 E hW ru1 dX0_ask_233 (fun a1420664 m1420665 r1420666 => ?_)
                          refine lv_iload hx hb dX0_ask_236 (lv_at hl 2 rfl) ?_
                          refine gl_649 E hW r1420666 (ix_arg hW ru1 m1420550 m1420665 ⟨by omega, by rw [fm_I hF ru1 rfl]; exact hcl⟩ m1420553 (by omega) (by omega)) dX0_ask_238 (fun y1420667 m1420668 => ?_)
                          refine lv_istore (lv' := [(6, .int y1420667), (9, .int y1420608), (8, .int y1420565), (7, .int y1420543), (5, .int y1420546), (0, .ref h0), (1, .ref u1), (2, .int u2), (3, .int u3), (4, .int u4)]) hx hb dX0_ask_239 hl (by decide) rfl (fun ls hl => ?_)
                          refine lv_goto (tgt := 314) hx hb dX0_ask_241 (by decide) ?_
                          refine q_iinc hx hb dX0_ask_314 hl (k := 3) rfl rfl rfl (by omega) (by decide) (fun i1420670 ls h1420671 hl => ?_)
                          have hl : lv_has ls 12 [(7, .int i1420670), (6, .int y1420667), (9, .int y1420608), (8, .int y1420565), (5, .int y1420546), (0, .ref h0), (1, .ref u1), (2, .int u2), (3, .int u3), (4, .int u4)] := hl
                          refine lv_goto (tgt := 21) hx hb dX0_ask_317 (by decide) ?_
                          exact ih21 f1420540 i1420670 y1420667 y1420546 m1420603 m1420542 (by omega) (by omega) (by omega) _ _ _ hW hF (lv_sub hl [0, 1, 4, 5, 6, 7, 8, 9] rfl)
                        · refine lv_iload hx hb dX0_ask_219 (lv_at hl 1 rfl) ?_
                          refine lv_sipush (v := 266) hx hb dX0_ask_221 (by decide) ?_
                          refine q_icmp_ne (Y := 266) (tgt := 244) hx hb dX0_ask_224 (by decide) rfl rfl (fun c1420672 => ?_) (fun c1420672 => ?_)
                          · refine q_iinc hx hb dX0_ask_244 hl (k := 4) rfl rfl rfl (by omega) (by decide) (fun i1420673 ls h1420674 hl => ?_)
                            have hl : lv_has ls 12 [(5, .int i1420673), (9, .int y1420608), (8, .int y1420565), (7, .int y1420543), (6, .int y1420545), (0, .ref h0), (1, .ref u1), (2, .int u2), (3, .int u3), (4, .int u4)] := hl
                            refine lv_iload hx hb dX0_ask_247 (lv_at hl 2 rfl) ?_
                            refine lv_sipush (v := 256) hx hb dX0_ask_249 (by decide) ?_
                            refine q_icmp_ge (Y := 256) (tgt := 314) hx hb dX0_ask_252 (by decide) rfl rfl (fun c1420675 => ?_) (fun c1420675 => ?_)
                            · refine q_iinc hx hb dX0_ask_314 hl (k := 3) rfl rfl rfl (by omega) (by decide) (fun i1420676 ls h1420677 hl => ?_)
                              have hl : lv_has ls 12 [(7, .int i1420676), (5, .int i1420673), (9, .int y1420608), (8, .int y1420565), (6, .int y1420545), (0, .ref h0), (1, .ref u1), (2, .int u2), (3, .int u3), (4, .int u4)] := hl
                              refine lv_goto (tgt := 21) hx hb dX0_ask_317 (by decide) ?_
                              exact ih21 f1420540 i1420676 y1420545 i1420673 m1420603 m1420542 (by omega) (by omega) (by omega) _ _ _ hW hF (lv_sub hl [0, 4, 1, 5, 6, 7, 8, 9] rfl)
                            · exfalso; omega
                          · exfalso; omega
                    · refine lv_iload hx hb dX0_ask_197 (lv_at hl 0 rfl) ?_
                      refine q_if_ne (tgt := 206) hx hb dX0_ask_199 (by decide) rfl (fun c1420678 => ?_) (fun c1420678 => ?_)
                      · refine lv_iload hx hb dX0_ask_206 (lv_at hl 1 rfl) ?_
                        refine lv_sipush (v := 265) hx hb dX0_ask_208 (by decide) ?_
                        refine q_icmp_ne (Y := 265) (tgt := 219) hx hb dX0_ask_211 (by decide) rfl rfl (fun c1420679 => ?_) (fun c1420679 => ?_)
                        · refine lv_iload hx hb dX0_ask_219 (lv_at hl 1 rfl) ?_
                          refine lv_sipush (v := 266) hx hb dX0_ask_221 (by decide) ?_
                          refine q_icmp_ne (Y := 266) (tgt := 244) hx hb dX0_ask_224 (by decide) rfl rfl (fun c1420680 => ?_) (fun c1420680 => ?_)
                          · refine q_iinc hx hb dX0_ask_244 hl (k := 4) rfl rfl rfl (by omega) (by decide) (fun i1420681 ls h1420682 hl => ?_)
                            have hl : lv_has ls 12 [(5, .int i1420681), (9, .int y1420608), (8, .int y1420565), (7, .int y1420543), (6, .int y1420545), (0, .ref h0), (1, .ref u1), (2, .int u2), (3, .int u3), (4, .int u4)] := hl
                            refine lv_iload hx hb dX0_ask_247 (lv_at hl 2 rfl) ?_
                            refine lv_sipush (v := 256) hx hb dX0_ask_249 (by decide) ?_
                            refine q_icmp_ge (Y := 256) (tgt := 314) hx hb dX0_ask_252 (by decide) rfl rfl (fun c1420683 => ?_) (fun c1420683 => ?_)
                            · refine q_iinc hx hb dX0_ask_314 hl (k := 3) rfl rfl rfl (by omega) (by decide) (fun i1420684 ls h1420685 hl => ?_)
                              have hl : lv_has ls 12 [(7, .int i1420684), (5, .int i1420681), (9, .int y1420608), (8, .int y1420565), (6, .int y1420545), (0, .ref h0), (1, .ref u1), (2, .int u2), (3, .int u3), (4, .int u4)] := hl
                              refine lv_goto (tgt := 21) hx hb dX0_ask_317 (by decide) ?_
                              exact ih21 f1420540 i1420684 y1420545 i1420681 m1420603 m1420542 (by omega) (by omega) (by omega) _ _ _ hW hF (lv_sub hl [0, 4, 1, 5, 6, 7, 8, 9] rfl)
                            · exfalso; omega
                          · exfalso; omega
                        · exfalso; omega
                      · refine lv_ldc2 (v := (-4000000000000000000)) hx hb hown (hts _ tw_721) dX0_ask_202 ?_
                        exact e_J E hW rfl ⟨⟨_, rfl, trivial⟩, hF⟩ dX0_ask_205
                  · refine lv_aload_n hx hb dX0_ask_167 rfl (lv_at hl 5 rfl) ?_
                    refine fg_RX0_57 E hW rh0 dX0_ask_168 (fun a1420686 m1420687 r1420688 => ?_)
                    obtain rfl : a1414741 = a1420686 := (m1420603).symm.trans m1420687
                    refine lv_iload hx hb dX0_ask_171 (lv_at hl 4 rfl) ?_
                    refine lv_iconst (v := 1) hx hb dX0_ask_173 (by decide) ?_
                    refine q_isub (Y := 1) hx hb dX0_ask_174 rfl rfl (by omega) (fun x1420689 h1420690 => ?_)
                    refine lv_iload hx hb dX0_ask_175 (lv_at hl 0 rfl) ?_
                    have J1420693 : ∀ (y1420691 : Int64) (b1420692 : (0 : Int) ≤ y1420691.toInt ∧ y1420691.toInt ≤ 1) (H : Heap) (locs : List Loc) (ls : Array Slot), WS G cI cJ cZ cD cR cT A kp L f1420540 s H locs → FM kp L ms_X0_ask f0 f1420540 → lv_has ls 12 [(9, .int y1420608), (8, .int y1420565), (7, .int y1420543), (6, .int y1420545), (5, .int y1420546), (0, .ref h0), (1, .ref u1), (2, .int u2), (3, .int u3), (4, .int u4)] → W p l e ({ frames := 3, cells := 0, slots := 0, locals := 86 }) s m ([.ref h0, .ref u1, .int u2, .int u3, .int u4] : List Value).toArray below meth c H locs 0 0 (MQ below (QT (po_X0_ask kp L f0 h0 u1 u2 u3 u4) G cI cJ cZ cD cR cT A kp L) ([.ref h0, .ref u1, .int u2, .int u3, .int u4] : List Value).toArray s 0 0 A) (F0 m 185 ls [.long y1420691, .int x1420689, .ref a1414741]) := by
                      intro y1420691 b1420692 H locs ls hW hF hl
                      refine gs_115 E hW r1414743 ⟨by omega, by omega⟩ dX0_ask_185 (fun f1420694 H locs e1420695 n1420696 g1420697 hW => ?_)
                      have hF := FM.tr hF g1420697 rfl
                      refine lv_goto (tgt := 314) hx hb dX0_ask_186 (by decide) ?_
                      refine q_iinc hx hb dX0_ask_314 hl (k := 2) rfl rfl rfl (by omega) (by decide) (fun i1420698 ls h1420699 hl => ?_)
                      have hl : lv_has ls 12 [(7, .int i1420698), (9, .int y1420608), (8, .int y1420565), (6, .int y1420545), (5, .int y1420546), (0, .ref h0), (1, .ref u1), (2, .int u2), (3, .int u3), (4, .int u4)] := hl
                      refine lv_goto (tgt := 21) hx hb dX0_ask_317 (by decide) ?_
                      exact ih21 f1420694 i1420698 y1420545 y1420546 ((fm_R g1420697 rh0 rfl).trans m1420687) ((fm_R g1420697 ru1 rfl).trans m1420542) (by omega) (by omega) (by omega) _ _ _ hW hF (lv_sub hl [0, 3, 4, 5, 6, 7, 8, 9] rfl)
                    refine q_if_eq (tgt := 184) hx hb dX0_ask_177 (by decide) rfl (fun c1420700 => ?_) (fun c1420700 => ?_)
                    · refine lv_lconst (v := 1) hx hb dX0_ask_184 (by decide) ?_
                      exact J1420693 1 (by decide) _ _ _ hW hF (lv_sub hl [0, 1, 2, 3, 4, 5, 6, 7, 8, 9] rfl)
                    · refine lv_lconst (v := 0) hx hb dX0_ask_180 (by decide) ?_
                      refine lv_goto (tgt := 185) hx hb dX0_ask_181 (by decide) ?_
                      exact J1420693 0 (by decide) _ _ _ hW hF (lv_sub hl [0, 1, 2, 3, 4, 5, 6, 7, 8, 9] rfl)
                refine q_lcmp_eq (Y := 0) (tgt := 156) hx hb dX0_ask_148 dX0_ask_149 (by decide) rfl rfl (fun c1420701 => ?_) (fun c1420701 => ?_)
                · refine lv_iconst (v := 0) hx hb dX0_ask_156 (by decide) ?_
                  exact J1420610 0 (by decide) _ _ _ hW hF (lv_sub hl [0, 1, 2, 3, 4, 5, 6, 7, 8] rfl)
                · refine lv_iconst (v := 1) hx hb dX0_ask_152 (by decide) ?_
                  refine lv_goto (tgt := 157) hx hb dX0_ask_153 (by decide) ?_
                  exact J1420610 1 (by decide) _ _ _ hW hF (lv_sub hl [0, 1, 2, 3, 4, 5, 6, 7, 8] rfl)
              · refine lv_ldc2 (v := (-4000000000000000000)) hx hb hown (hts _ tw_721) dX0_ask_134 ?_
                exact e_J E hW rfl ⟨⟨_, rfl, trivial⟩, hF⟩ dX0_ask_137
            · refine lv_iload hx hb dX0_ask_67 (lv_at hl 0 rfl) ?_
              refine lv_sipush (v := 282) hx hb dX0_ask_69 (by decide) ?_
              refine q_icmp_gt (Y := 282) (tgt := 128) hx hb dX0_ask_72 (by decide) rfl rfl (fun c1420702 => ?_) (fun c1420702 => ?_)
              · refine lv_iload hx hb dX0_ask_128 (lv_at hl 3 rfl) ?_
                refine lv_iconst (v := 1) hx hb dX0_ask_130 (by decide) ?_
                refine q_icmp_ge (Y := 1) (tgt := 138) hx hb dX0_ask_131 (by decide) rfl rfl (fun c1420703 => ?_) (fun c1420703 => ?_)
                · refine lv_aload_n hx hb dX0_ask_138 rfl (lv_at hl 4 rfl) ?_
                  refine fg_RX0_57 E hW rh0 dX0_ask_139 (fun a1420704 m1420705 r1420706 => ?_)
                  obtain rfl : a1414741 = a1420704 := (m1420541).symm.trans m1420705
                  refine lv_iload hx hb dX0_ask_142 (lv_at hl 3 rfl) ?_
                  refine lv_iconst (v := 1) hx hb dX0_ask_144 (by decide) ?_
                  refine q_isub (Y := 1) hx hb dX0_ask_145 rfl rfl (by omega) (fun x1420707 h1420708 => ?_)
                  refine gl_115 E hW r1414743 ⟨by omega, by omega⟩ dX0_ask_146 (fun y1420709 _ => ?_)
                  refine lv_lconst (v := 0) hx hb dX0_ask_147 (by decide) ?_
                  have J1420712 : ∀ (y1420710 : Int32) (b1420711 : (0 : Int) ≤ y1420710.toInt ∧ y1420710.toInt ≤ 1) (H : Heap) (locs : List Loc) (ls : Array Slot), WS G cI cJ cZ cD cR cT A kp L f1420540 s H locs → FM kp L ms_X0_ask f0 f1420540 → lv_has ls 12 [(8, .int y1420565), (7, .int y1420543), (6, .int y1420545), (5, .int y1420546), (0, .ref h0), (1, .ref u1), (2, .int u2), (3, .int u3), (4, .int u4)] → W p l e ({ frames := 3, cells := 0, slots := 0, locals := 86 }) s m ([.ref h0, .ref u1, .int u2, .int u3, .int u4] : List Value).toArray below meth c H locs 0 0 (MQ below (QT (po_X0_ask kp L f0 h0 u1 u2 u3 u4) G cI cJ cZ cD cR cT A kp L) ([.ref h0, .ref u1, .int u2, .int u3, .int u4] : List Value).toArray s 0 0 A) (F0 m 157 ls [.int y1420710]) := by
                    intro y1420710 b1420711 H locs ls hW hF hl
                    refine lv_istore (lv' := [(9, .int y1420710), (8, .int y1420565), (7, .int y1420543), (6, .int y1420545), (5, .int y1420546), (0, .ref h0), (1, .ref u1), (2, .int u2), (3, .int u3), (4, .int u4)]) hx hb dX0_ask_157 hl (by decide) rfl (fun ls hl => ?_)
                    refine lv_iload hx hb dX0_ask_159 (lv_at hl 1 rfl) ?_
                    refine lv_sipush (v := 267) hx hb dX0_ask_161 (by decide) ?_
                    refine q_icmp_ne (Y := 267) (tgt := 189) hx hb dX0_ask_164 (by decide) rfl rfl (fun c1420713 => ?_) (fun c1420713 => ?_)
                    · refine lv_iload hx hb dX0_ask_189 (lv_at hl 1 rfl) ?_
                      refine lv_sipush (v := 259) hx hb dX0_ask_191 (by decide) ?_
                      refine q_icmp_ne (Y := 259) (tgt := 206) hx hb dX0_ask_194 (by decide) rfl rfl (fun c1420714 => ?_) (fun c1420714 => ?_)
                      · refine lv_iload hx hb dX0_ask_206 (lv_at hl 1 rfl) ?_
                        refine lv_sipush (v := 265) hx hb dX0_ask_208 (by decide) ?_
                        refine q_icmp_ne (Y := 265) (tgt := 219) hx hb dX0_ask_211 (by decide) rfl rfl (fun c1420715 => ?_) (fun c1420715 => ?_)
                        · refine lv_iload hx hb dX0_ask_219 (lv_at hl 1 rfl) ?_
                          refine lv_sipush (v := 266) hx hb dX0_ask_221 (by decide) ?_
                          refine q_icmp_ne (Y := 266) (tgt := 244) hx hb dX0_ask_224 (by decide) rfl rfl (fun c1420716 => ?_) (fun c1420716 => ?_)
                          · refine q_iinc hx hb dX0_ask_244 hl (k := 4) rfl rfl rfl (by omega) (by decide) (fun i1420717 ls h1420718 hl => ?_)
                            have hl : lv_has ls 12 [(5, .int i1420717), (9, .int y1420710), (8, .int y1420565), (7, .int y1420543), (6, .int y1420545), (0, .ref h0), (1, .ref u1), (2, .int u2), (3, .int u3), (4, .int u4)] := hl
                            refine lv_iload hx hb dX0_ask_247 (lv_at hl 2 rfl) ?_
                            refine lv_sipush (v := 256) hx hb dX0_ask_249 (by decide) ?_
                            refine q_icmp_ge (Y := 256) (tgt := 314) hx hb dX0_ask_252 (by decide) rfl rfl (fun c1420719 => ?_) (fun c1420719 => ?_)
                            · refine q_iinc hx hb dX0_ask_314 hl (k := 3) rfl rfl rfl (by omega) (by decide) (fun i1420720 ls h1420721 hl => ?_)
                              have hl : lv_has ls 12 [(7, .int i1420720), (5, .int i1420717), (9, .int y1420710), (8, .int y1420565), (6, .int y1420545), (0, .ref h0), (1, .ref u1), (2, .int u2), (3, .int u3), (4, .int u4)] := hl
                              refine lv_goto (tgt := 21) hx hb dX0_ask_317 (by decide) ?_
                              exact ih21 f1420540 i1420720 y1420545 i1420717 m1420705 m1420542 (by omega) (by omega) (by omega) _ _ _ hW hF (lv_sub hl [0, 4, 1, 5, 6, 7, 8, 9] rfl)
                            · exfalso; omega
                          · exfalso; omega
                        · exfalso; omega
                      · exfalso; omega
                    · exfalso; omega
                  refine q_lcmp_eq (Y := 0) (tgt := 156) hx hb dX0_ask_148 dX0_ask_149 (by decide) rfl rfl (fun c1420722 => ?_) (fun c1420722 => ?_)
                  · refine lv_iconst (v := 0) hx hb dX0_ask_156 (by decide) ?_
                    exact J1420712 0 (by decide) _ _ _ hW hF (lv_sub hl [0, 1, 2, 3, 4, 5, 6, 7, 8] rfl)
                  · refine lv_iconst (v := 1) hx hb dX0_ask_152 (by decide) ?_
                    refine lv_goto (tgt := 157) hx hb dX0_ask_153 (by decide) ?_
                    exact J1420712 1 (by decide) _ _ _ hW hF (lv_sub hl [0, 1, 2, 3, 4, 5, 6, 7, 8] rfl)
                · refine lv_ldc2 (v := (-4000000000000000000)) hx hb hown (hts _ tw_721) dX0_ask_134 ?_
                  exact e_J E hW rfl ⟨⟨_, rfl, trivial⟩, hF⟩ dX0_ask_137
              · refine lv_iload hx hb dX0_ask_75 (lv_at hl 3 rfl) ?_
                refine lv_bipush (v := 64) hx hb dX0_ask_77 (by decide) ?_
                refine q_icmp_lt (Y := 64) (tgt := 86) hx hb dX0_ask_79 (by decide) rfl rfl (fun c1420723 => ?_) (fun c1420723 => ?_)
                · refine lv_aload_n hx hb dX0_ask_86 rfl (lv_at hl 4 rfl) ?_
                  refine fg_RX0_57 E hW rh0 dX0_ask_87 (fun a1420724 m1420725 r1420726 => ?_)
                  obtain rfl : a1414741 = a1420724 := (m1420541).symm.trans m1420725
                  refine lv_iload hx hb dX0_ask_90 (lv_at hl 3 rfl) ?_
                  refine lv_iload hx hb dX0_ask_92 (lv_at hl 0 rfl) ?_
                  refine lv_sipush (v := 301) hx hb dX0_ask_94 (by decide) ?_
                  refine q_icmp_ne (Y := 301) (tgt := 111) hx hb dX0_ask_97 (by decide) rfl rfl (fun c1420736 => ?_) (fun c1420736 => ?_)
                  · refine lv_aload_n hx hb dX0_ask_111 rfl (lv_at hl 4 rfl) ?_
                    refine lv_iload hx hb dX0_ask_112 (lv_at hl 0 rfl) ?_
                    refine lv_iload_n hx hb dX0_ask_114 rfl (lv_at hl 7 rfl) ?_
                    refine lv_iload hx hb dX0_ask_115 (lv_at hl 8 rfl) ?_
                    refine t_callV (As := [.int y1420565, .int u3, .int u4]) (rest := [.int y1420546, .ref a1414741]) E hW (c_X0_wordOf l G cI cJ cZ cD cR cT kp L f1420540 hW.2.2.2 _ h0 y1420565 u3 u4 rh0 (by omega) (by omega) (by omega)) rh0 (by decide) rfl wk_X0_wordOf tw_722 rfl ⟨Nat.le_of_ble_eq_true rfl, Nat.le_of_ble_eq_true rfl⟩ ⟨rfl, rfl⟩ hl.1 rfl (Nat.le_of_ble_eq_true rfl) dX0_ask_117 ⟨Nat.le_of_ble_eq_true rfl, Nat.le_of_ble_eq_true rfl⟩ (fun v1420737 f1420738 H locs q1420739 hW => ?_)
                    obtain ⟨⟨x1420741, rfl, p1420742⟩, g1420740⟩ := q1420739
                    clear p1420742
                    have hF := FM.tr hF g1420740 rfl
                    refine q_i2l hx hb dX0_ask_120 rfl (fun x1420743 h1420744 => ?_)
                    have hb1420745 : -2147483648 ≤ x1420743.toInt ∧ x1420743.toInt ≤ 2147483647 := by have := i32_b x1420741; omega
                    refine gs_115 E hW r1414743 ⟨by omega, by omega⟩ dX0_ask_121 (fun f1420746 H locs e1420747 n1420748 g1420749 hW => ?_)
                    have hF := FM.tr hF g1420749 rfl
                    refine q_iinc hx hb dX0_ask_122 hl (k := 3) rfl rfl rfl (by omega) (by decide) (fun i1420750 ls h1420751 hl => ?_)
                    have hl : lv_has ls 12 [(5, .int i1420750), (8, .int y1420565), (7, .int y1420543), (6, .int y1420545), (0, .ref h0), (1, .ref u1), (2, .int u2), (3, .int u3), (4, .int u4)] := hl
                    refine lv_goto (tgt := 314) hx hb dX0_ask_125 (by decide) ?_
                    refine q_iinc hx hb dX0_ask_314 hl (k := 2) rfl rfl rfl (by omega) (by decide) (fun i1420752 ls h1420753 hl => ?_)
                    have hl : lv_has ls 12 [(7, .int i1420752), (5, .int i1420750), (8, .int y1420565), (6, .int y1420545), (0, .ref h0), (1, .ref u1), (2, .int u2), (3, .int u3), (4, .int u4)] := hl
                    refine lv_goto (tgt := 21) hx hb dX0_ask_317 (by decide) ?_
                    exact ih21 f1420746 i1420752 y1420545 i1420750 ((fm_R g1420749 rh0 rfl).trans ((fm_R g1420740 rh0 rfl).trans m1420725)) ((fm_R g1420749 ru1 rfl).trans ((fm_R g1420740 ru1 rfl).trans m1420542)) (by omega) (by omega) (by omega) _ _ _ hW hF (lv_sub hl [0, 3, 1, 4, 5, 6, 7, 8] rfl)
                  · exfalso; omega
                · refine lv_ldc2 (v := (-4000000000000000000)) hx hb hown (hts _ tw_721) dX0_ask_82 ?_
                  exact e_J E hW rfl ⟨⟨_, rfl, trivial⟩, hF⟩ dX0_ask_85
        · have hb1420754 : y1420543.toInt ≤ 2147483646 := by have := i32_b y1420545; omega
          refine lv_goto (tgt := 314) hx hb dX0_ask_39 (by decide) ?_
          refine q_iinc hx hb dX0_ask_314 hl (k := 0) rfl rfl rfl (by omega) (by decide) (fun i1420755 ls h1420756 hl => ?_)
          have hl : lv_has ls 12 [(7, .int i1420755), (6, .int y1420545), (5, .int y1420546), (0, .ref h0), (1, .ref u1), (2, .int u2), (3, .int u3), (4, .int u4)] := hl
          refine lv_goto (tgt := 21) hx hb dX0_ask_317 (by decide) ?_
          exact ih21 f1420540 i1420755 y1420545 y1420546 m1420541 m1420542 (by omega) (by omega) (by omega) _ _ _ hW hF (lv_sub hl [0, 1, 2, 3, 4, 5, 6, 7] rfl)
  have hk1420757 : (0 : Int32).toInt = 0 := rfl
  have hk1420758 : (0 : Int32).toInt = 0 := rfl
  exact L1420548 2147483648 f1414744 y1414751 0 0 ((fm_R g1414747 rh0 rfl).trans m1414742) m1414749 (by omega) (by decide) (by omega) _ _ _ hW hF (lv_sub hl [0, 1, 2, 3, 4, 5, 6, 7] rfl)
def ms_X0_anyHolds : List (Nat × Nat) := [(115, 0)]
def po_X0_anyHolds (kp : Nat → Nat) (L : List Nat) (f0 : Nat → va_E) (h0 : Nat) (u1 : Int32) (u2 : Int32) (u3 : Int32) : Option Value → (Nat → va_E) → Prop := fun v f => (∃ r : Int32, v = some (.int r) ∧ ((0 : Int) ≤ r.toInt ∧ r.toInt ≤ 1)) ∧ FM kp L ms_X0_anyHolds f0 f
set_option maxHeartbeats 4000000 in
set_option maxRecDepth 100000 in
theorem c_X0_anyHolds (l : Launch) (G : va_G) (cI cJ cZ cD cR cT : ClassId) (kp : Nat → Nat) (L : List Nat) (f0 : Nat → va_E) (hTH : TH cI cJ cZ cD cR cT kp L f0) (sz : Nat) (h0 : Nat) (u1 : Int32) (u2 : Int32) (u3 : Int32) (rh0 : RK kp L h0 0) (pu1 : (262 : Int) ≤ u1.toInt ∧ u1.toInt ≤ 264) (pu2 : (0 : Int) ≤ u2.toInt ∧ u2.toInt ≤ 39) (pu3 : (-1 : Int) ≤ u3.toInt ∧ u3.toInt ≤ 39) : Met l yX0_anyHolds (Cond.code yX0_anyHolds cX0_anyHolds 7 (some .boolean) :: wTab) ({ frames := 4, cells := 0, slots := 0, locals := 117 }) (va_Pc [.ref h0, .int u1, .int u2, .int u3] (PreW G (tys6 cI cJ cZ cD cR cT) (va_pl L f0) sz)) (QT (po_X0_anyHolds kp L f0 h0 u1 u2 u3) G cI cJ cZ cD cR cT (va_A (va_pl L f0) sz) kp L) 0 0 (va_A (va_pl L f0) sz) := by
  refine metT (by decide) (Nat.le_of_ble_eq_true rfl) hTH ?_
  intro p e s m below meth c A ls E hW hl
  obtain ⟨hx, hb, -, hml, hown, hts, -, -, -⟩ := id E
  have hF : FM kp L ms_X0_anyHolds f0 f0 := FM.rf
  have hl : lv_has ls 7 [(0, .ref h0), (1, .int u1), (2, .int u2), (3, .int u3)] := hl
  refine lv_iconst (v := 0) hx hb dX0_anyHolds_0 (by decide) ?_
  refine lv_istore (lv' := [(4, .int 0), (0, .ref h0), (1, .int u1), (2, .int u2), (3, .int u3)]) hx hb dX0_anyHolds_1 hl (by decide) rfl (fun ls hl => ?_)
  have L1429706 : ∀ (n : Nat), ∀ (f1429703 : Nat → va_E) (y1429704 : Int32) (b1429705 : (0 : Int) ≤ y1429704.toInt ∧ y1429704.toInt ≤ 20) (hm : (21 : Int) - y1429704.toInt ≤ n) (H : Heap) (locs : List Loc) (ls : Array Slot), WS G cI cJ cZ cD cR cT A kp L f1429703 s H locs → FM kp L ms_X0_anyHolds f0 f1429703 → lv_has ls 7 [(4, .int y1429704), (0, .ref h0), (1, .int u1), (2, .int u2), (3, .int u3)] → W p l e ({ frames := 4, cells := 0, slots := 0, locals := 117 }) s m ([.ref h0, .int u1, .int u2, .int u3] : List Value).toArray below meth c H locs 0 0 (MQ below (QT (po_X0_anyHolds kp L f0 h0 u1 u2 u3) G cI cJ cZ cD cR cT A kp L) ([.ref h0, .int u1, .int u2, .int u3] : List Value).toArray s 0 0 A) (F0 m 3 ls []) := by
    intro n
    induction n with
    | zero =>
      intro f1429703 y1429704 b1429705 hm H locs ls hW hF hl
      have hz := i32_b y1429704
      exfalso; omega
    | succ n ih =>
      intro f1429703 y1429704 b1429705 hm H locs ls hW hF hl
      have ih3 := ih
      refine lv_iload hx hb dX0_anyHolds_3 (lv_at hl 0 rfl) ?_
      refine lv_aload_n hx hb dX0_anyHolds_5 rfl (lv_at hl 1 rfl) ?_
      refine fg_RX0_42 E hW rh0 dX0_anyHolds_6 (fun a1429707 m1429708 r1429709 => ?_)
      refine fg_RX0_286 E hW r1429709 dX0_anyHolds_9 (fun y1429710 m1429711 b1429712 => ?_)
      refine q_icmp_ge (tgt := 102) hx hb dX0_anyHolds_12 (by decide) rfl rfl (fun c1429713 => ?_) (fun c1429713 => ?_)
      · refine lv_iconst (v := 0) hx hb dX0_anyHolds_102 (by decide) ?_
        exact e_Z E hW rfl (by decide) ⟨⟨_, rfl, (by have hk : (0 : Int32).toInt = 0 := rfl; first | decide | omega)⟩, hF⟩ dX0_anyHolds_103
      · refine lv_aload_n hx hb dX0_anyHolds_15 rfl (lv_at hl 1 rfl) ?_
        refine fg_RX0_42 E hW rh0 dX0_anyHolds_16 (fun a1429714 m1429715 r1429716 => ?_)
        obtain rfl : a1429707 = a1429714 := (m1429708).symm.trans m1429715
        refine fg_RX0_287 E hW r1429709 dX0_anyHolds_19 (fun a1429717 m1429718 r1429719 => ?_)
        refine lv_iload hx hb dX0_anyHolds_22 (lv_at hl 0 rfl) ?_
        refine gl_221 E hW r1429719 ⟨by omega, by omega⟩ dX0_anyHolds_24 (fun o1429720 m1429722 k1429721 => ?_)
        rcases o1429720 with _ | a1429723
        · have hl : lv_has ls 7 [(4, .int y1429704), (0, .ref h0), (1, .int u1), (2, .int u2), (3, .int u3)] := hl
          show W p l e ({ frames := 4, cells := 0, slots := 0, locals := 117 }) s m ([.ref h0, .int u1, .int u2, .int u3] : List Value).toArray below meth c _ _ 0 0 (MQ below (QT (po_X0_anyHolds kp L f0 h0 u1 u2 u3) G cI cJ cZ cD cR cT A kp L) ([.ref h0, .int u1, .int u2, .int u3] : List Value).toArray s 0 0 A) (F0 m 25 ls [.null])
          refine lv_astoreN (lv' := [(5, .null), (4, .int y1429704), (0, .ref h0), (1, .int u1), (2, .int u2), (3, .int u3)]) hx hb dX0_anyHolds_25 hl (by decide) rfl (fun ls hl => ?_)
          refine lv_iconst (v := 0) hx hb dX0_anyHolds_27 (by decide) ?_
          refine lv_istore (lv' := [(6, .int 0), (5, .null), (4, .int y1429704), (0, .ref h0), (1, .int u1), (2, .int u2), (3, .int u3)]) hx hb dX0_anyHolds_28 hl (by decide) rfl (fun ls hl => ?_)
          have L1429737 : ∀ (n : Nat), ∀ (f1429731 : Nat → va_E) (y1429735 : Int32) (m1429732 : oI (f1429731 a1429707) 0 = y1429710) (m1429733 : oR (f1429731 a1429707) 1 = a1429717) (m1429734 : oR (f1429731 h0) 4 = a1429707) (b1429736 : (0 : Int) ≤ y1429735.toInt ∧ y1429735.toInt ≤ 0) (hm : (1 : Int) ≤ n) (H : Heap) (locs : List Loc) (ls : Array Slot), WS G cI cJ cZ cD cR cT A kp L f1429731 s H locs → FM kp L ms_X0_anyHolds f0 f1429731 → lv_has ls 7 [(6, .int y1429735), (5, .null), (4, .int y1429704), (0, .ref h0), (1, .int u1), (2, .int u2), (3, .int u3)] → W p l e ({ frames := 4, cells := 0, slots := 0, locals := 117 }) s m ([.ref h0, .int u1, .int u2, .int u3] : List Value).toArray below meth c H locs 0 0 (MQ below (QT (po_X0_anyHolds kp L f0 h0 u1 u2 u3) G cI cJ cZ cD cR cT A kp L) ([.ref h0, .int u1, .int u2, .int u3] : List Value).toArray s 0 0 A) (F0 m 30 ls []) := by
            intro n
            induction n with
            | zero =>
              intro f1429731 y1429735 m1429732 m1429733 m1429734 b1429736 hm H locs ls hW hF hl
              exfalso; omega
            | succ n ih =>
              intro f1429731 y1429735 m1429732 m1429733 m1429734 b1429736 hm H locs ls hW hF hl
              have ih30 := ih
              refine lv_aloadN hx hb dX0_anyHolds_30 (lv_at hl 1 rfl) ?_
              refine lv_ifnullN (tgt := 96) hx hb dX0_anyHolds_32 (by decide) ?_
              refine q_iinc hx hb dX0_anyHolds_96 hl (k := 2) rfl rfl rfl (by omega) (by decide) (fun i1429738 ls h1429739 hl => ?_)
              have hl : lv_has ls 7 [(4, .int i1429738), (6, .int y1429735), (5, .null), (0, .ref h0), (1, .int u1), (2, .int u2), (3, .int u3)] := hl
              refine lv_goto (tgt := 3) hx hb dX0_anyHolds_99 (by decide) ?_
              exact ih3 f1429731 i1429738 (by omega) (by omega) _ _ _ hW hF (lv_sub hl [0, 3, 4, 5, 6] rfl)
          have hk1429740 : (0 : Int32).toInt = 0 := rfl
          exact L1429737 1 f1429703 0 m1429711 m1429718 m1429715 (by decide) (by omega) _ _ _ hW hF (lv_sub hl [0, 1, 2, 3, 4, 5, 6] rfl)
        · have r1429724 : RK kp L a1429723 9 := k1429721 _ rfl
          have hl : lv_has ls 7 [(4, .int y1429704), (0, .ref h0), (1, .int u1), (2, .int u2), (3, .int u3)] := hl
          show W p l e ({ frames := 4, cells := 0, slots := 0, locals := 117 }) s m ([.ref h0, .int u1, .int u2, .int u3] : List Value).toArray below meth c _ _ 0 0 (MQ below (QT (po_X0_anyHolds kp L f0 h0 u1 u2 u3) G cI cJ cZ cD cR cT A kp L) ([.ref h0, .int u1, .int u2, .int u3] : List Value).toArray s 0 0 A) (F0 m 25 ls [.ref a1429723])
          refine lv_astore (lv' := [(5, .ref a1429723), (4, .int y1429704), (0, .ref h0), (1, .int u1), (2, .int u2), (3, .int u3)]) hx hb dX0_anyHolds_25 hl (by decide) rfl (fun ls hl => ?_)
          refine lv_iconst (v := 0) hx hb dX0_anyHolds_27 (by decide) ?_
          refine lv_istore (lv' := [(6, .int 0), (5, .ref a1429723), (4, .int y1429704), (0, .ref h0), (1, .int u1), (2, .int u2), (3, .int u3)]) hx hb dX0_anyHolds_28 hl (by decide) rfl (fun ls hl => ?_)
          have L1430227 : ∀ (n : Nat), ∀ (f1430221 : Nat → va_E) (y1430225 : Int32) (m1430222 : oI (f1430221 a1429707) 0 = y1429710) (m1430223 : oR (f1430221 a1429707) 1 = a1429717) (m1430224 : oR (f1430221 h0) 4 = a1429707) (b1430226 : (0 : Int) ≤ y1430225.toInt ∧ y1430225.toInt ≤ 12) (hm : (13 : Int) - y1430225.toInt ≤ n) (H : Heap) (locs : List Loc) (ls : Array Slot), WS G cI cJ cZ cD cR cT A kp L f1430221 s H locs → FM kp L ms_X0_anyHolds f0 f1430221 → lv_has ls 7 [(6, .int y1430225), (5, .ref a1429723), (4, .int y1429704), (0, .ref h0), (1, .int u1), (2, .int u2), (3, .int u3)] → W p l e ({ frames := 4, cells := 0, slots := 0, locals := 117 }) s m ([.ref h0, .int u1, .int u2, .int u3] : List Value).toArray below meth c H locs 0 0 (MQ below (QT (po_X0_anyHolds kp L f0 h0 u1 u2 u3) G cI cJ cZ cD cR cT A kp L) ([.ref h0, .int u1, .int u2, .int u3] : List Value).toArray s 0 0 A) (F0 m 30 ls []) := by
            intro n
            induction n with
            | zero =>
              intro f1430221 y1430225 m1430222 m1430223 m1430224 b1430226 hm H locs ls hW hF hl
              have hz := i32_b y1430225
              exfalso; omega
            | succ n ih =>
              intro f1430221 y1430225 m1430222 m1430223 m1430224 b1430226 hm H locs ls hW hF hl
              have ih30 := ih
              refine lv_aload hx hb dX0_anyHolds_30 (lv_at hl 1 rfl) ?_
              refine lv_ifnull hx hb dX0_anyHolds_32 ?_
              refine lv_iload hx hb dX0_anyHolds_35 (lv_at hl 0 rfl) ?_
              refine lv_aload hx hb dX0_anyHolds_37 (lv_at hl 1 rfl) ?_
              refine fg_RX0_291 E hW r1429724 dX0_anyHolds_39 (fun y1430228 m1430229 b1430230 => ?_)
              refine q_icmp_ge (tgt := 96) hx hb dX0_anyHolds_42 (by decide) rfl rfl (fun c1430231 => ?_) (fun c1430231 => ?_)
              · refine q_iinc hx hb dX0_anyHolds_96 hl (k := 2) rfl rfl rfl (by omega) (by decide) (fun i1430232 ls h1430233 hl => ?_)
                have hl : lv_has ls 7 [(4, .int i1430232), (6, .int y1430225), (5, .ref a1429723), (0, .ref h0), (1, .int u1), (2, .int u2), (3, .int u3)] := hl
                refine lv_goto (tgt := 3) hx hb dX0_anyHolds_99 (by decide) ?_
                exact ih3 f1430221 i1430232 (by omega) (by omega) _ _ _ hW hF (lv_sub hl [0, 3, 4, 5, 6] rfl)
              · refine lv_aload hx hb dX0_anyHolds_45 (lv_at hl 1 rfl) ?_
                refine fg_RX0_296 E hW r1429724 dX0_anyHolds_47 (fun a1430234 m1430235 r1430236 => ?_)
                refine lv_iload hx hb dX0_anyHolds_50 (lv_at hl 0 rfl) ?_
                refine gl_643 E hW r1430236 ⟨by omega, by omega⟩ dX0_anyHolds_52 (fun y1430237 m1430238 => ?_)
                refine lv_iload_n hx hb dX0_anyHolds_53 rfl (lv_at hl 4 rfl) ?_
                refine q_icmp_ne (tgt := 90) hx hb dX0_anyHolds_54 (by decide) rfl rfl (fun c1430240 => ?_) (fun c1430240 => ?_)
                · refine q_iinc hx hb dX0_anyHolds_90 hl (k := 0) rfl rfl rfl (by omega) (by decide) (fun i1430241 ls h1430242 hl => ?_)
                  have hl : lv_has ls 7 [(6, .int i1430241), (5, .ref a1429723), (4, .int y1429704), (0, .ref h0), (1, .int u1), (2, .int u2), (3, .int u3)] := hl
                  refine lv_goto (tgt := 30) hx hb dX0_anyHolds_93 (by decide) ?_
                  exact ih30 f1430221 i1430241 m1430222 m1430223 m1430224 (by omega) (by omega) _ _ _ hW hF (lv_sub hl [0, 1, 2, 3, 4, 5, 6] rfl)
                · refine lv_aload_n hx hb dX0_anyHolds_57 rfl (lv_at hl 3 rfl) ?_
                  refine fg_RX0_42 E hW rh0 dX0_anyHolds_58 (fun a1430243 m1430244 r1430245 => ?_)
                  obtain rfl : a1429707 = a1430243 := (m1430224).symm.trans m1430244
                  refine lv_iload hx hb dX0_anyHolds_61 (lv_at hl 2 rfl) ?_
                  refine lv_iload hx hb dX0_anyHolds_63 (lv_at hl 0 rfl) ?_
                  refine t_callV (As := [.int y1429704, .int y1430225]) (rest := []) E hW (c_X2_isInForce l G cI cJ cZ cD cR cT kp L f1430221 hW.2.2.2 _ a1429707 y1429704 y1430225 r1429709 (by omega) (by omega)) r1429709 (by decide) rfl wk_X2_isInForce tw_716 rfl ⟨Nat.le_of_ble_eq_true rfl, Nat.le_of_ble_eq_true rfl⟩ ⟨rfl, rfl⟩ hl.1 rfl (Nat.le_of_ble_eq_true rfl) dX0_anyHolds_65 ⟨Nat.le_of_ble_eq_true rfl, Nat.le_of_ble_eq_true rfl⟩ (fun v1430246 f1430247 H locs q1430248 hW => ?_)
                  obtain ⟨⟨x1430250, rfl, p1430251⟩, g1430249⟩ := q1430248
                  have hF := FM.tr hF g1430249 rfl
                  refine q_if_eq (tgt := 90) hx hb dX0_anyHolds_68 (by decide) rfl (fun c1430252 => ?_) (fun c1430252 => ?_)
                  · refine q_iinc hx hb dX0_anyHolds_90 hl (k := 0) rfl rfl rfl (by omega) (by decide) (fun i1430253 ls h1430254 hl => ?_)
                    have hl : lv_has ls 7 [(6, .int i1430253), (5, .ref a1429723), (4, .int y1429704), (0, .ref h0), (1, .int u1), (2, .int u2), (3, .int u3)] := hl
                    refine lv_goto (tgt := 30) hx hb dX0_anyHolds_93 (by decide) ?_
                    exact ih30 f1430247 i1430253 ((fm_I g1430249 r1429709 rfl).trans m1430222) ((fm_R g1430249 r1429709 rfl).trans m1430223) ((fm_R g1430249 rh0 rfl).trans m1430244) (by omega) (by omega) _ _ _ hW hF (lv_sub hl [0, 1, 2, 3, 4, 5, 6] rfl)
                  · refine lv_aload_n hx hb dX0_anyHolds_71 rfl (lv_at hl 3 rfl) ?_
                    refine lv_aload hx hb dX0_anyHolds_72 (lv_at hl 1 rfl) ?_
                    refine lv_iload hx hb dX0_anyHolds_74 (lv_at hl 0 rfl) ?_
                    refine lv_iload_n hx hb dX0_anyHolds_76 rfl (lv_at hl 5 rfl) ?_
                    refine lv_iload_n hx hb dX0_anyHolds_77 rfl (lv_at hl 6 rfl) ?_
                    refine t_callV (As := [.ref a1429723, .int y1430225, .int u2, .int u3]) (rest := []) E hW (c_X0_ask l G cI cJ cZ cD cR cT kp L f1430247 hW.2.2.2 _ h0 a1429723 y1430225 u2 u3 rh0 r1429724 (by omega) (by omega) (by omega) (by rw [((fm_I g1430249 r1429724 rfl).trans m1430229)]; omega)) rh0 (by decide) rfl wk_X0_ask tw_717 rfl ⟨Nat.le_of_ble_eq_true rfl, Nat.le_of_ble_eq_true rfl⟩ ⟨rfl, rfl⟩ hl.1 rfl (Nat.le_of_ble_eq_true rfl) dX0_anyHolds_78 ⟨Nat.le_of_ble_eq_true rfl, Nat.le_of_ble_eq_true rfl⟩ (fun v1430255 f1430256 H locs q1430257 hW => ?_)
                    obtain ⟨⟨x1430259, rfl, p1430260⟩, g1430258⟩ := q1430257
                    clear p1430260
                    have hF := FM.tr hF g1430258 rfl
                    refine lv_ldc2 (v := (-4000000000000000000)) hx hb hown (hts _ tw_721) dX0_anyHolds_81 ?_
                    refine q_lcmp_eq (Y := -4000000000000000000) (tgt := 90) hx hb dX0_anyHolds_84 dX0_anyHolds_85 (by decide) rfl rfl (fun c1430261 => ?_) (fun c1430261 => ?_)
                    · refine q_iinc hx hb dX0_anyHolds_90 hl (k := 0) rfl rfl rfl (by omega) (by decide) (fun i1430262 ls h1430263 hl => ?_)
                      have hl : lv_has ls 7 [(6, .int i1430262), (5, .ref a1429723), (4, .int y1429704), (0, .ref h0), (1, .int u1), (2, .int u2), (3, .int u3)] := hl
                      refine lv_goto (tgt := 30) hx hb dX0_anyHolds_93 (by decide) ?_
                      exact ih30 f1430256 i1430262 ((fm_I g1430258 r1429709 rfl).trans ((fm_I g1430249 r1429709 rfl).trans m1430222)) ((fm_R g1430258 r1429709 rfl).trans ((fm_R g1430249 r1429709 rfl).trans m1430223)) ((fm_R g1430258 rh0 rfl).trans ((fm_R g1430249 rh0 rfl).trans m1430244)) (by omega) (by omega) _ _ _ hW hF (lv_sub hl [0, 1, 2, 3, 4, 5, 6] rfl)
                    · refine lv_iconst (v := 1) hx hb dX0_anyHolds_88 (by decide) ?_
                      exact e_Z E hW rfl (by decide) ⟨⟨_, rfl, (by have hk : (1 : Int32).toInt = 1 := rfl; first | decide | omega)⟩, hF⟩ dX0_anyHolds_89
          have hk1430264 : (0 : Int32).toInt = 0 := rfl
          exact L1430227 13 f1429703 0 m1429711 m1429718 m1429715 (by decide) (by omega) _ _ _ hW hF (lv_sub hl [0, 1, 2, 3, 4, 5, 6] rfl)
  have hk1430265 : (0 : Int32).toInt = 0 := rfl
  exact L1429706 21 f0 0 (by decide) (by omega) _ _ _ hW hF (lv_sub hl [0, 1, 2, 3, 4] rfl)
def ms_X0_clauseHolds : List (Nat × Nat) := [(115, 0)]
def po_X0_clauseHolds (kp : Nat → Nat) (L : List Nat) (f0 : Nat → va_E) (h0 : Nat) (u1 : Int32) (u2 : Int32) (u3 : Int32) (u4 : Int32) : Option Value → (Nat → va_E) → Prop := fun v f => (∃ r : Int32, v = some (.int r) ∧ ((0 : Int) ≤ r.toInt ∧ r.toInt ≤ 1)) ∧ FM kp L ms_X0_clauseHolds f0 f
set_option maxHeartbeats 4000000 in
set_option maxRecDepth 100000 in
theorem c_X0_clauseHolds (l : Launch) (G : va_G) (cI cJ cZ cD cR cT : ClassId) (kp : Nat → Nat) (L : List Nat) (f0 : Nat → va_E) (hTH : TH cI cJ cZ cD cR cT kp L f0) (sz : Nat) (h0 : Nat) (u1 : Int32) (u2 : Int32) (u3 : Int32) (u4 : Int32) (rh0 : RK kp L h0 0) (pu1 : (0 : Int) ≤ u1.toInt ∧ u1.toInt ≤ 19) (pu2 : (0 : Int) ≤ u2.toInt ∧ u2.toInt ≤ 11) (pu3 : (-1 : Int) ≤ u3.toInt ∧ u3.toInt ≤ 39) (pu4 : (-1 : Int) ≤ u4.toInt ∧ u4.toInt ≤ 39) (hcl : ∀ T : Nat, aQ (f0 (oR (f0 (oR (f0 h0) 4)) 1)) u1.toNatClampNeg = some T → u2.toInt < (oI (f0 T) 1).toInt) : Met l yX0_clauseHolds (Cond.code yX0_clauseHolds cX0_clauseHolds 7 (some .boolean) :: wTab) ({ frames := 4, cells := 0, slots := 0, locals := 117 }) (va_Pc [.ref h0, .int u1, .int u2, .int u3, .int u4] (PreW G (tys6 cI cJ cZ cD cR cT) (va_pl L f0) sz)) (QT (po_X0_clauseHolds kp L f0 h0 u1 u2 u3 u4) G cI cJ cZ cD cR cT (va_A (va_pl L f0) sz) kp L) 0 0 (va_A (va_pl L f0) sz) := by
  refine metT (by decide) (Nat.le_of_ble_eq_true rfl) hTH ?_
  intro p e s m below meth c A ls E hW hl
  obtain ⟨hx, hb, -, hml, hown, hts, -, -, -⟩ := id E
  have hF : FM kp L ms_X0_clauseHolds f0 f0 := FM.rf
  have hl : lv_has ls 7 [(0, .ref h0), (1, .int u1), (2, .int u2), (3, .int u3), (4, .int u4)] := hl
  refine lv_aload_n hx hb dX0_clauseHolds_0 rfl (lv_at hl 0 rfl) ?_
  refine fg_RX0_42 E hW rh0 dX0_clauseHolds_1 (fun a1430266 m1430267 r1430268 => ?_)
  refine fg_RX0_287 E hW r1430268 dX0_clauseHolds_4 (fun a1430269 m1430270 r1430271 => ?_)
  refine lv_iload_n hx hb dX0_clauseHolds_7 rfl (lv_at hl 1 rfl) ?_
  refine gl_221 E hW r1430271 ⟨by omega, by omega⟩ dX0_clauseHolds_8 (fun o1430272 m1430274 k1430273 => ?_)
  rcases o1430272 with _ | a1430275
  · have hl : lv_has ls 7 [(0, .ref h0), (1, .int u1), (2, .int u2), (3, .int u3), (4, .int u4)] := hl
    show W p l e ({ frames := 4, cells := 0, slots := 0, locals := 117 }) s m ([.ref h0, .int u1, .int u2, .int u3, .int u4] : List Value).toArray below meth c _ _ 0 0 (MQ below (QT (po_X0_clauseHolds kp L f0 h0 u1 u2 u3 u4) G cI cJ cZ cD cR cT A kp L) ([.ref h0, .int u1, .int u2, .int u3, .int u4] : List Value).toArray s 0 0 A) (F0 m 9 ls [.null])
    refine lv_astoreN (lv' := [(5, .null), (0, .ref h0), (1, .int u1), (2, .int u2), (3, .int u3), (4, .int u4)]) hx hb dX0_clauseHolds_9 hl (by decide) rfl (fun ls hl => ?_)
    refine lv_aloadN hx hb dX0_clauseHolds_11 (lv_at hl 0 rfl) ?_
    refine lv_ifnullN (tgt := 28) hx hb dX0_clauseHolds_13 (by decide) ?_
    refine lv_iconst (v := 0) hx hb dX0_clauseHolds_28 (by decide) ?_
    exact e_Z E hW rfl (by decide) ⟨⟨_, rfl, (by have hk : (0 : Int32).toInt = 0 := rfl; first | decide | omega)⟩, hF⟩ dX0_clauseHolds_29
  · have r1430276 : RK kp L a1430275 9 := k1430273 _ rfl
    have hl : lv_has ls 7 [(0, .ref h0), (1, .int u1), (2, .int u2), (3, .int u3), (4, .int u4)] := hl
    show W p l e ({ frames := 4, cells := 0, slots := 0, locals := 117 }) s m ([.ref h0, .int u1, .int u2, .int u3, .int u4] : List Value).toArray below meth c _ _ 0 0 (MQ below (QT (po_X0_clauseHolds kp L f0 h0 u1 u2 u3 u4) G cI cJ cZ cD cR cT A kp L) ([.ref h0, .int u1, .int u2, .int u3, .int u4] : List Value).toArray s 0 0 A) (F0 m 9 ls [.ref a1430275])
    refine lv_astore (lv' := [(5, .ref a1430275), (0, .ref h0), (1, .int u1), (2, .int u2), (3, .int u3), (4, .int u4)]) hx hb dX0_clauseHolds_9 hl (by decide) rfl (fun ls hl => ?_)
    refine lv_aload hx hb dX0_clauseHolds_11 (lv_at hl 0 rfl) ?_
    refine lv_ifnull hx hb dX0_clauseHolds_13 ?_
    refine lv_aload_n hx hb dX0_clauseHolds_16 rfl (lv_at hl 1 rfl) ?_
    refine fg_RX0_42 E hW rh0 dX0_clauseHolds_17 (fun a1430277 m1430278 r1430279 => ?_)
    obtain rfl : a1430266 = a1430277 := (m1430267).symm.trans m1430278
    refine lv_iload_n hx hb dX0_clauseHolds_20 rfl (lv_at hl 2 rfl) ?_
    refine lv_iload_n hx hb dX0_clauseHolds_21 rfl (lv_at hl 3 rfl) ?_
    refine t_callV (As := [.int u1, .int u2]) (rest := []) E hW (c_X2_isInForce l G cI cJ cZ cD cR cT kp L f0 hW.2.2.2 _ a1430266 u1 u2 r1430268 (by omega) (by omega)) r1430268 (by decide) rfl wk_X2_isInForce tw_716 rfl ⟨Nat.le_of_ble_eq_true rfl, Nat.le_of_ble_eq_true rfl⟩ ⟨rfl, rfl⟩ hl.1 rfl (Nat.le_of_ble_eq_true rfl) dX0_clauseHolds_22 ⟨Nat.le_of_ble_eq_true rfl, Nat.le_of_ble_eq_true rfl⟩ (fun v1430280 f1430281 H locs q1430282 hW => ?_)
    obtain ⟨⟨x1430284, rfl, p1430285⟩, g1430283⟩ := q1430282
    have hF := FM.tr hF g1430283 rfl
    refine q_if_ne (tgt := 30) hx hb dX0_clauseHolds_25 (by decide) rfl (fun c1430286 => ?_) (fun c1430286 => ?_)
    · refine lv_aload hx hb dX0_clauseHolds_30 (lv_at hl 0 rfl) ?_
      refine fg_RX0_296 E hW r1430276 dX0_clauseHolds_32 (fun a1430287 m1430288 r1430289 => ?_)
      refine lv_iload_n hx hb dX0_clauseHolds_35 rfl (lv_at hl 3 rfl) ?_
      refine gl_643 E hW r1430289 ⟨by omega, by omega⟩ dX0_clauseHolds_36 (fun y1430290 m1430291 => ?_)
      refine lv_istore (lv' := [(6, .int y1430290), (5, .ref a1430275), (0, .ref h0), (1, .int u1), (2, .int u2), (3, .int u3), (4, .int u4)]) hx hb dX0_clauseHolds_37 hl (by decide) rfl (fun ls hl => ?_)
      refine lv_iload hx hb dX0_clauseHolds_39 (lv_at hl 0 rfl) ?_
      refine lv_sipush (v := 256) hx hb dX0_clauseHolds_41 (by decide) ?_
      have J1430307 : ∀ (f1430301 : Nat → va_E) (y1430305 : Int32) (m1430302 : oR (f1430301 a1430266) 1 = a1430269) (m1430303 : oR (f1430301 a1430275) 3 = a1430287) (m1430304 : oR (f1430301 h0) 4 = a1430266) (b1430306 : (0 : Int) ≤ y1430305.toInt ∧ y1430305.toInt ≤ 1) (H : Heap) (locs : List Loc) (ls : Array Slot), WS G cI cJ cZ cD cR cT A kp L f1430301 s H locs → FM kp L ms_X0_clauseHolds f0 f1430301 → lv_has ls 7 [(6, .int y1430290), (5, .ref a1430275), (0, .ref h0), (1, .int u1), (2, .int u2), (3, .int u3), (4, .int u4)] → W p l e ({ frames := 4, cells := 0, slots := 0, locals := 117 }) s m ([.ref h0, .int u1, .int u2, .int u3, .int u4] : List Value).toArray below meth c H locs 0 0 (MQ below (QT (po_X0_clauseHolds kp L f0 h0 u1 u2 u3 u4) G cI cJ cZ cD cR cT A kp L) ([.ref h0, .int u1, .int u2, .int u3, .int u4] : List Value).toArray s 0 0 A) (F0 m 77 ls [.int y1430305]) := by
        intro f1430301 y1430305 m1430302 m1430303 m1430304 b1430306 H locs ls hW hF hl
        clear p1430285 c1430286
        exact e_Z E hW rfl (by omega) ⟨⟨_, rfl, (by first | omega | trivial)⟩, hF⟩ dX0_clauseHolds_77
      refine q_icmp_eq (Y := 256) (tgt := 76) hx hb dX0_clauseHolds_44 (by decide) rfl rfl (fun c1430308 => ?_) (fun c1430308 => ?_)
      · refine lv_iconst (v := 0) hx hb dX0_clauseHolds_76 (by decide) ?_
        exact J1430307 f1430281 0 ((fm_R g1430283 r1430268 rfl).trans m1430270) m1430288 ((fm_R g1430283 rh0 rfl).trans m1430278) (by decide) _ _ _ hW hF (lv_sub hl [0, 1, 2, 3, 4, 5, 6] rfl)
      · refine lv_iload hx hb dX0_clauseHolds_47 (lv_at hl 0 rfl) ?_
        refine lv_sipush (v := 258) hx hb dX0_clauseHolds_49 (by decide) ?_
        refine q_icmp_eq (Y := 258) (tgt := 76) hx hb dX0_clauseHolds_52 (by decide) rfl rfl (fun c1430309 => ?_) (fun c1430309 => ?_)
        · refine lv_iconst (v := 0) hx hb dX0_clauseHolds_76 (by decide) ?_
          exact J1430307 f1430281 0 ((fm_R g1430283 r1430268 rfl).trans m1430270) m1430288 ((fm_R g1430283 rh0 rfl).trans m1430278) (by decide) _ _ _ hW hF (lv_sub hl [0, 1, 2, 3, 4, 5, 6] rfl)
        · refine lv_aload_n hx hb dX0_clauseHolds_55 rfl (lv_at hl 2 rfl) ?_
          refine lv_aload hx hb dX0_clauseHolds_56 (lv_at hl 1 rfl) ?_
          refine lv_iload_n hx hb dX0_clauseHolds_58 rfl (lv_at hl 4 rfl) ?_
          refine lv_iload_n hx hb dX0_clauseHolds_59 rfl (lv_at hl 5 rfl) ?_
          refine lv_iload hx hb dX0_clauseHolds_60 (lv_at hl 6 rfl) ?_
          refine t_callV (As := [.ref a1430275, .int u2, .int u3, .int u4]) (rest := []) E hW (c_X0_ask l G cI cJ cZ cD cR cT kp L f1430281 hW.2.2.2 _ h0 a1430275 u2 u3 u4 rh0 r1430276 (by omega) (by omega) (by omega) (by rw [fm_I hF r1430276 rfl]; exact hcl _ (by rw [m1430267, m1430270]; exact m1430274))) rh0 (by decide) rfl wk_X0_ask tw_717 rfl ⟨Nat.le_of_ble_eq_true rfl, Nat.le_of_ble_eq_true rfl⟩ ⟨rfl, rfl⟩ hl.1 rfl (Nat.le_of_ble_eq_true rfl) dX0_clauseHolds_62 ⟨Nat.le_of_ble_eq_true rfl, Nat.le_of_ble_eq_true rfl⟩ (fun v1430310 f1430311 H locs q1430312 hW => ?_)
          obtain ⟨⟨x1430314, rfl, p1430315⟩, g1430313⟩ := q1430312
          clear p1430315
          have hF := FM.tr hF g1430313 rfl
          refine lv_ldc2 (v := (-4000000000000000000)) hx hb hown (hts _ tw_721) dX0_clauseHolds_65 ?_
          refine q_lcmp_eq (Y := -4000000000000000000) (tgt := 76) hx hb dX0_clauseHolds_68 dX0_clauseHolds_69 (by decide) rfl rfl (fun c1430316 => ?_) (fun c1430316 => ?_)
          · refine lv_iconst (v := 0) hx hb dX0_clauseHolds_76 (by decide) ?_
            exact J1430307 f1430311 0 ((fm_R g1430313 r1430268 rfl).trans ((fm_R g1430283 r1430268 rfl).trans m1430270)) ((fm_R g1430313 r1430276 rfl).trans m1430288) ((fm_R g1430313 rh0 rfl).trans ((fm_R g1430283 rh0 rfl).trans m1430278)) (by decide) _ _ _ hW hF (lv_sub hl [0, 1, 2, 3, 4, 5, 6] rfl)
          · refine lv_iconst (v := 1) hx hb dX0_clauseHolds_72 (by decide) ?_
            refine lv_goto (tgt := 77) hx hb dX0_clauseHolds_73 (by decide) ?_
            exact J1430307 f1430311 1 ((fm_R g1430313 r1430268 rfl).trans ((fm_R g1430283 r1430268 rfl).trans m1430270)) ((fm_R g1430313 r1430276 rfl).trans m1430288) ((fm_R g1430313 rh0 rfl).trans ((fm_R g1430283 rh0 rfl).trans m1430278)) (by decide) _ _ _ hW hF (lv_sub hl [0, 1, 2, 3, 4, 5, 6] rfl)
    · refine lv_iconst (v := 0) hx hb dX0_clauseHolds_28 (by decide) ?_
      exact e_Z E hW rfl (by decide) ⟨⟨_, rfl, (by have hk : (0 : Int32).toInt = 0 := rfl; first | decide | omega)⟩, hF⟩ dX0_clauseHolds_29
def ms_X0_fairOf : List (Nat × Nat) := [(115, 0)]
def po_X0_fairOf (kp : Nat → Nat) (L : List Nat) (f0 : Nat → va_E) (h0 : Nat) (u1 : Int32) : Option Value → (Nat → va_E) → Prop := fun v f => (∃ r : Int32, v = some (.int r) ∧ ((0 : Int) ≤ r.toInt)) ∧ FM kp L ms_X0_fairOf f0 f
set_option maxHeartbeats 4000000 in
set_option maxRecDepth 100000 in
theorem c_X0_fairOf (l : Launch) (G : va_G) (cI cJ cZ cD cR cT : ClassId) (kp : Nat → Nat) (L : List Nat) (f0 : Nat → va_E) (hTH : TH cI cJ cZ cD cR cT kp L f0) (sz : Nat) (h0 : Nat) (u1 : Int32) (rh0 : RK kp L h0 0) (pu1 : (0 : Int) ≤ u1.toInt ∧ u1.toInt ≤ 39) : Met l yX0_fairOf (Cond.code yX0_fairOf cX0_fairOf 8 (some .int) :: wTab) ({ frames := 4, cells := 0, slots := 0, locals := 117 }) (va_Pc [.ref h0, .int u1] (PreW G (tys6 cI cJ cZ cD cR cT) (va_pl L f0) sz)) (QT (po_X0_fairOf kp L f0 h0 u1) G cI cJ cZ cD cR cT (va_A (va_pl L f0) sz) kp L) 0 0 (va_A (va_pl L f0) sz) := by
  refine metT (by decide) (Nat.le_of_ble_eq_true rfl) hTH ?_
  intro p e s m below meth c A ls E hW hl
  obtain ⟨hx, hb, -, hml, hown, hts, -, -, -⟩ := id E
  have hF : FM kp L ms_X0_fairOf f0 f0 := FM.rf
  have hl : lv_has ls 8 [(0, .ref h0), (1, .int u1)] := hl
  refine lv_aload_n hx hb dX0_fairOf_0 rfl (lv_at hl 0 rfl) ?_
  refine fg_RX0_21 E hW rh0 dX0_fairOf_1 (fun a1430317 m1430318 r1430319 => ?_)
  refine lv_iload_n hx hb dX0_fairOf_4 rfl (lv_at hl 1 rfl) ?_
  refine t_callV (As := [.int u1]) (rest := []) E hW (c_X1_rentOf l G cI cJ cZ cD cR cT kp L f0 hW.2.2.2 _ a1430317 u1 r1430319 (by omega)) r1430319 (by decide) rfl wk_X1_rentOf tw_709 rfl ⟨Nat.le_of_ble_eq_true rfl, Nat.le_of_ble_eq_true rfl⟩ ⟨rfl, rfl⟩ hl.1 rfl (Nat.le_of_ble_eq_true rfl) dX0_fairOf_5 ⟨Nat.le_of_ble_eq_true rfl, Nat.le_of_ble_eq_true rfl⟩ (fun v1430320 f1430321 H locs q1430322 hW => ?_)
  obtain ⟨⟨x1430324, rfl, p1430325⟩, g1430323⟩ := q1430322
  have hF := FM.tr hF g1430323 rfl
  refine lv_istore_n (lv' := [(2, .int x1430324), (0, .ref h0), (1, .int u1)]) hx hb dX0_fairOf_8 rfl hl (by decide) rfl (fun ls hl => ?_)
  refine lv_aload_n hx hb dX0_fairOf_9 rfl (lv_at hl 1 rfl) ?_
  refine fg_RX0_42 E hW rh0 dX0_fairOf_10 (fun a1430326 m1430327 r1430328 => ?_)
  refine fg_RX0_286 E hW r1430328 dX0_fairOf_13 (fun y1430329 m1430330 b1430331 => ?_)
  refine lv_iconst (v := 1) hx hb dX0_fairOf_16 (by decide) ?_
  refine q_isub (Y := 1) hx hb dX0_fairOf_17 rfl rfl (by omega) (fun x1430332 h1430333 => ?_)
  refine lv_istore_n (lv' := [(3, .int x1430332), (2, .int x1430324), (0, .ref h0), (1, .int u1)]) hx hb dX0_fairOf_18 rfl hl (by decide) rfl (fun ls hl => ?_)
  have L1430501 : ∀ (n : Nat), ∀ (f1430495 : Nat → va_E) (y1430499 : Int32) (m1430496 : oI (f1430495 a1430326) 0 = y1430329) (m1430497 : oR (f1430495 h0) 1 = a1430317) (m1430498 : oR (f1430495 h0) 4 = a1430326) (b1430500 : (-1 : Int) ≤ y1430499.toInt ∧ y1430499.toInt ≤ 19) (hm : y1430499.toInt - (-2 : Int) ≤ n) (H : Heap) (locs : List Loc) (ls : Array Slot), WS G cI cJ cZ cD cR cT A kp L f1430495 s H locs → FM kp L ms_X0_fairOf f0 f1430495 → lv_has ls 8 [(3, .int y1430499), (2, .int x1430324), (0, .ref h0), (1, .int u1)] → W p l e ({ frames := 4, cells := 0, slots := 0, locals := 117 }) s m ([.ref h0, .int u1] : List Value).toArray below meth c H locs 0 0 (MQ below (QT (po_X0_fairOf kp L f0 h0 u1) G cI cJ cZ cD cR cT A kp L) ([.ref h0, .int u1] : List Value).toArray s 0 0 A) (F0 m 19 ls []) := by
    intro n
    induction n with
    | zero =>
      intro f1430495 y1430499 m1430496 m1430497 m1430498 b1430500 hm H locs ls hW hF hl
      have hz := i32_b y1430499
      exfalso; omega
    | succ n ih =>
      intro f1430495 y1430499 m1430496 m1430497 m1430498 b1430500 hm H locs ls hW hF hl
      have ih19 := ih
      refine lv_iload_n hx hb dX0_fairOf_19 rfl (lv_at hl 0 rfl) ?_
      refine q_if_lt (tgt := 141) hx hb dX0_fairOf_20 (by decide) rfl (fun c1430502 => ?_) (fun c1430502 => ?_)
      · refine lv_iload_n hx hb dX0_fairOf_141 rfl (lv_at hl 1 rfl) ?_
        exact e_I E hW rfl ⟨⟨_, rfl, (by first | omega | trivial)⟩, hF⟩ dX0_fairOf_142
      · refine lv_aload_n hx hb dX0_fairOf_23 rfl (lv_at hl 2 rfl) ?_
        refine fg_RX0_42 E hW rh0 dX0_fairOf_24 (fun a1430503 m1430504 r1430505 => ?_)
        obtain rfl : a1430326 = a1430503 := (m1430498).symm.trans m1430504
        refine fg_RX0_287 E hW r1430328 dX0_fairOf_27 (fun a1430506 m1430507 r1430508 => ?_)
        refine lv_iload_n hx hb dX0_fairOf_30 rfl (lv_at hl 0 rfl) ?_
        refine gl_221 E hW r1430508 ⟨by omega, by omega⟩ dX0_fairOf_31 (fun o1430509 m1430511 k1430510 => ?_)
        rcases o1430509 with _ | a1430512
        · have hl : lv_has ls 8 [(3, .int y1430499), (2, .int x1430324), (0, .ref h0), (1, .int u1)] := hl
          show W p l e ({ frames := 4, cells := 0, slots := 0, locals := 117 }) s m ([.ref h0, .int u1] : List Value).toArray below meth c _ _ 0 0 (MQ below (QT (po_X0_fairOf kp L f0 h0 u1) G cI cJ cZ cD cR cT A kp L) ([.ref h0, .int u1] : List Value).toArray s 0 0 A) (F0 m 32 ls [.null])
          refine lv_astoreN (lv' := [(4, .null), (3, .int y1430499), (2, .int x1430324), (0, .ref h0), (1, .int u1)]) hx hb dX0_fairOf_32 hl (by decide) rfl (fun ls hl => ?_)
          refine lv_aloadN hx hb dX0_fairOf_34 (lv_at hl 0 rfl) ?_
          refine lv_ifnonnullN hx hb dX0_fairOf_36 ?_
          refine lv_iconst (v := (-1)) hx hb dX0_fairOf_39 (by decide) ?_
          refine lv_goto (tgt := 50) hx hb dX0_fairOf_40 (by decide) ?_
          refine lv_istore (lv' := [(5, .int (-1)), (4, .null), (3, .int y1430499), (2, .int x1430324), (0, .ref h0), (1, .int u1)]) hx hb dX0_fairOf_50 hl (by decide) rfl (fun ls hl => ?_)
          have L1430529 : ∀ (n : Nat), ∀ (f1430522 : Nat → va_E) (y1430527 : Int32) (m1430523 : oI (f1430522 a1430326) 0 = y1430329) (m1430524 : oR (f1430522 a1430326) 1 = a1430506) (m1430525 : oR (f1430522 h0) 1 = a1430317) (m1430526 : oR (f1430522 h0) 4 = a1430326) (b1430528 : (-1 : Int) ≤ y1430527.toInt ∧ y1430527.toInt ≤ -1) (hm : (1 : Int) ≤ n) (H : Heap) (locs : List Loc) (ls : Array Slot), WS G cI cJ cZ cD cR cT A kp L f1430522 s H locs → FM kp L ms_X0_fairOf f0 f1430522 → lv_has ls 8 [(5, .int y1430527), (4, .null), (3, .int y1430499), (2, .int x1430324), (0, .ref h0), (1, .int u1)] → W p l e ({ frames := 4, cells := 0, slots := 0, locals := 117 }) s m ([.ref h0, .int u1] : List Value).toArray below meth c H locs 0 0 (MQ below (QT (po_X0_fairOf kp L f0 h0 u1) G cI cJ cZ cD cR cT A kp L) ([.ref h0, .int u1] : List Value).toArray s 0 0 A) (F0 m 52 ls []) := by
            intro n
            induction n with
            | zero =>
              intro f1430522 y1430527 m1430523 m1430524 m1430525 m1430526 b1430528 hm H locs ls hW hF hl
              exfalso; omega
            | succ n ih =>
              intro f1430522 y1430527 m1430523 m1430524 m1430525 m1430526 b1430528 hm H locs ls hW hF hl
              have ih52 := ih
              refine lv_iload hx hb dX0_fairOf_52 (lv_at hl 0 rfl) ?_
              refine q_if_lt (tgt := 135) hx hb dX0_fairOf_54 (by decide) rfl (fun c1430530 => ?_) (fun c1430530 => ?_)
              · refine q_iinc hx hb dX0_fairOf_135 hl (k := 2) rfl rfl rfl (by omega) (by decide) (fun i1430531 ls h1430532 hl => ?_)
                have hl : lv_has ls 8 [(3, .int i1430531), (5, .int y1430527), (4, .null), (2, .int x1430324), (0, .ref h0), (1, .int u1)] := hl
                refine lv_goto (tgt := 19) hx hb dX0_fairOf_138 (by decide) ?_
                exact ih19 f1430522 i1430531 m1430523 m1430525 m1430526 (by omega) (by omega) _ _ _ hW hF (lv_sub hl [0, 3, 4, 5] rfl)
              · exfalso; omega
          have hk1430533 : ((-1) : Int32).toInt = -1 := rfl
          exact L1430529 1 f1430495 (-1) m1430496 m1430507 m1430497 m1430504 (by decide) (by omega) _ _ _ hW hF (lv_sub hl [0, 1, 2, 3, 4, 5] rfl)
        · have r1430513 : RK kp L a1430512 9 := k1430510 _ rfl
          have hl : lv_has ls 8 [(3, .int y1430499), (2, .int x1430324), (0, .ref h0), (1, .int u1)] := hl
          show W p l e ({ frames := 4, cells := 0, slots := 0, locals := 117 }) s m ([.ref h0, .int u1] : List Value).toArray below meth c _ _ 0 0 (MQ below (QT (po_X0_fairOf kp L f0 h0 u1) G cI cJ cZ cD cR cT A kp L) ([.ref h0, .int u1] : List Value).toArray s 0 0 A) (F0 m 32 ls [.ref a1430512])
          refine lv_astore (lv' := [(4, .ref a1430512), (3, .int y1430499), (2, .int x1430324), (0, .ref h0), (1, .int u1)]) hx hb dX0_fairOf_32 hl (by decide) rfl (fun ls hl => ?_)
          refine lv_aload hx hb dX0_fairOf_34 (lv_at hl 0 rfl) ?_
          refine lv_ifnonnull (tgt := 43) hx hb dX0_fairOf_36 (by decide) ?_
          refine lv_aload hx hb dX0_fairOf_43 (lv_at hl 0 rfl) ?_
          refine fg_RX0_291 E hW r1430513 dX0_fairOf_45 (fun y1430534 m1430535 b1430536 => ?_)
          refine lv_iconst (v := 1) hx hb dX0_fairOf_48 (by decide) ?_
          refine q_isub (Y := 1) hx hb dX0_fairOf_49 rfl rfl (by omega) (fun x1430537 h1430538 => ?_)
          refine lv_istore (lv' := [(5, .int x1430537), (4, .ref a1430512), (3, .int y1430499), (2, .int x1430324), (0, .ref h0), (1, .int u1)]) hx hb dX0_fairOf_50 hl (by decide) rfl (fun ls hl => ?_)
          have L1430606 : ∀ (n : Nat), ∀ (f1430597 : Nat → va_E) (y1430603 : Int32) (m1430598 : oI (f1430597 a1430326) 0 = y1430329) (m1430599 : oR (f1430597 a1430326) 1 = a1430506) (m1430600 : oI (f1430597 a1430512) 1 = y1430534) (m1430601 : oR (f1430597 h0) 1 = a1430317) (m1430602 : oR (f1430597 h0) 4 = a1430326) (b1430604 : (-1 : Int) ≤ y1430603.toInt ∧ y1430603.toInt ≤ 11) (v1430605 : y1430603.toInt < y1430534.toInt) (hm : y1430603.toInt - (-2 : Int) ≤ n) (H : Heap) (locs : List Loc) (ls : Array Slot), WS G cI cJ cZ cD cR cT A kp L f1430597 s H locs → FM kp L ms_X0_fairOf f0 f1430597 → lv_has ls 8 [(5, .int y1430603), (4, .ref a1430512), (3, .int y1430499), (2, .int x1430324), (0, .ref h0), (1, .int u1)] → W p l e ({ frames := 4, cells := 0, slots := 0, locals := 117 }) s m ([.ref h0, .int u1] : List Value).toArray below meth c H locs 0 0 (MQ below (QT (po_X0_fairOf kp L f0 h0 u1) G cI cJ cZ cD cR cT A kp L) ([.ref h0, .int u1] : List Value).toArray s 0 0 A) (F0 m 52 ls []) := by
            intro n
            induction n with
            | zero =>
              intro f1430597 y1430603 m1430598 m1430599 m1430600 m1430601 m1430602 b1430604 v1430605 hm H locs ls hW hF hl
              have hz := i32_b y1430603
              exfalso; omega
            | succ n ih =>
              intro f1430597 y1430603 m1430598 m1430599 m1430600 m1430601 m1430602 b1430604 v1430605 hm H locs ls hW hF hl
              have ih52 := ih
              refine lv_iload hx hb dX0_fairOf_52 (lv_at hl 0 rfl) ?_
              refine q_if_lt (tgt := 135) hx hb dX0_fairOf_54 (by decide) rfl (fun c1430607 => ?_) (fun c1430607 => ?_)
              · refine q_iinc hx hb dX0_fairOf_135 hl (k := 2) rfl rfl rfl (by omega) (by decide) (fun i1430608 ls h1430609 hl => ?_)
                have hl : lv_has ls 8 [(3, .int i1430608), (5, .int y1430603), (4, .ref a1430512), (2, .int x1430324), (0, .ref h0), (1, .int u1)] := hl
                refine lv_goto (tgt := 19) hx hb dX0_fairOf_138 (by decide) ?_
                exact ih19 f1430597 i1430608 m1430598 m1430601 m1430602 (by omega) (by omega) _ _ _ hW hF (lv_sub hl [0, 3, 4, 5] rfl)
              · refine lv_aload hx hb dX0_fairOf_57 (lv_at hl 1 rfl) ?_
                refine fg_RX0_296 E hW r1430513 dX0_fairOf_59 (fun a1430610 m1430611 r1430612 => ?_)
                refine lv_iload hx hb dX0_fairOf_62 (lv_at hl 0 rfl) ?_
                refine gl_643 E hW r1430612 ⟨by omega, by omega⟩ dX0_fairOf_64 (fun y1430613 m1430614 => ?_)
                refine lv_sipush (v := 260) hx hb dX0_fairOf_65 (by decide) ?_
                refine q_icmp_ne (Y := 260) (tgt := 129) hx hb dX0_fairOf_68 (by decide) rfl rfl (fun c1430616 => ?_) (fun c1430616 => ?_)
                · refine q_iinc hx hb dX0_fairOf_129 hl (k := 0) rfl rfl rfl (by omega) (by decide) (fun i1430617 ls h1430618 hl => ?_)
                  have hl : lv_has ls 8 [(5, .int i1430617), (4, .ref a1430512), (3, .int y1430499), (2, .int x1430324), (0, .ref h0), (1, .int u1)] := hl
                  refine lv_goto (tgt := 52) hx hb dX0_fairOf_132 (by decide) ?_
                  exact ih52 f1430597 i1430617 m1430598 m1430599 m1430600 m1430601 m1430602 (by omega) (by omega) (by omega) _ _ _ hW hF (lv_sub hl [0, 1, 2, 3, 4, 5] rfl)
                · refine lv_aload_n hx hb dX0_fairOf_71 rfl (lv_at hl 4 rfl) ?_
                  refine fg_RX0_42 E hW rh0 dX0_fairOf_72 (fun a1430619 m1430620 r1430621 => ?_)
                  obtain rfl : a1430326 = a1430619 := (m1430602).symm.trans m1430620
                  refine lv_iload_n hx hb dX0_fairOf_75 rfl (lv_at hl 2 rfl) ?_
                  refine lv_iload hx hb dX0_fairOf_76 (lv_at hl 0 rfl) ?_
                  refine t_callV (As := [.int y1430499, .int y1430603]) (rest := []) E hW (c_X2_isInForce l G cI cJ cZ cD cR cT kp L f1430597 hW.2.2.2 _ a1430326 y1430499 y1430603 r1430328 (by omega) (by omega)) r1430328 (by decide) rfl wk_X2_isInForce tw_716 rfl ⟨Nat.le_of_ble_eq_true rfl, Nat.le_of_ble_eq_true rfl⟩ ⟨rfl, rfl⟩ hl.1 rfl (Nat.le_of_ble_eq_true rfl) dX0_fairOf_78 ⟨Nat.le_of_ble_eq_true rfl, Nat.le_of_ble_eq_true rfl⟩ (fun v1430622 f1430623 H locs q1430624 hW => ?_)
                  obtain ⟨⟨x1430626, rfl, p1430627⟩, g1430625⟩ := q1430624
                  have hF := FM.tr hF g1430625 rfl
                  refine q_if_ne (tgt := 87) hx hb dX0_fairOf_81 (by decide) rfl (fun c1430628 => ?_) (fun c1430628 => ?_)
                  · refine lv_aload_n hx hb dX0_fairOf_87 rfl (lv_at hl 4 rfl) ?_
                    refine lv_aload hx hb dX0_fairOf_88 (lv_at hl 1 rfl) ?_
                    refine lv_iload hx hb dX0_fairOf_90 (lv_at hl 0 rfl) ?_
                    refine lv_aload_n hx hb dX0_fairOf_92 rfl (lv_at hl 4 rfl) ?_
                    refine fg_RX0_21 E hW rh0 dX0_fairOf_93 (fun a1430629 m1430630 r1430631 => ?_)
                    obtain rfl : a1430317 = a1430629 := (((fm_R g1430625 rh0 rfl).trans m1430601)).symm.trans m1430630
                    refine fg_RX0_124 E hW r1430319 dX0_fairOf_96 (fun a1430632 m1430633 r1430634 => ?_)
                    refine lv_iload_n hx hb dX0_fairOf_99 rfl (lv_at hl 5 rfl) ?_
                    refine gl_164 E hW r1430634 ⟨by omega, by omega⟩ dX0_fairOf_100 (fun y1430635 m1430636 b1430637 => ?_)
                    refine lv_iload_n hx hb dX0_fairOf_101 rfl (lv_at hl 5 rfl) ?_
                    refine t_callV (As := [.ref a1430512, .int y1430603, .int y1430635, .int u1]) (rest := []) E hW (c_X0_ask l G cI cJ cZ cD cR cT kp L f1430623 hW.2.2.2 _ h0 a1430512 y1430603 y1430635 u1 rh0 r1430513 (by omega) (by omega) (by omega) (by rw [((fm_I g1430625 r1430513 rfl).trans m1430600)]; omega)) rh0 (by decide) rfl wk_X0_ask tw_717 rfl ⟨Nat.le_of_ble_eq_true rfl, Nat.le_of_ble_eq_true rfl⟩ ⟨rfl, rfl⟩ hl.1 rfl (Nat.le_of_ble_eq_true rfl) dX0_fairOf_102 ⟨Nat.le_of_ble_eq_true rfl, Nat.le_of_ble_eq_true rfl⟩ (fun v1430638 f1430639 H locs q1430640 hW => ?_)
                    obtain ⟨⟨x1430642, rfl, p1430643⟩, g1430641⟩ := q1430640
                    clear p1430643
                    have hF := FM.tr hF g1430641 rfl
                    refine lv_lstore (lv' := [(6, .long x1430642), (5, .int y1430603), (4, .ref a1430512), (3, .int y1430499), (2, .int x1430324), (0, .ref h0), (1, .int u1)]) hx hb dX0_fairOf_105 hl (by decide) rfl (fun ls hl => ?_)
                    refine lv_lload hx hb dX0_fairOf_107 (lv_at hl 0 rfl) ?_
                    refine lv_ldc2 (v := (-4000000000000000000)) hx hb hown (hts _ tw_721) dX0_fairOf_109 ?_
                    refine q_lcmp_eq (Y := -4000000000000000000) (tgt := 129) hx hb dX0_fairOf_112 dX0_fairOf_113 (by decide) rfl rfl (fun c1430644 => ?_) (fun c1430644 => ?_)
                    · refine q_iinc hx hb dX0_fairOf_129 hl (k := 1) rfl rfl rfl (by omega) (by decide) (fun i1430645 ls h1430646 hl => ?_)
                      have hl : lv_has ls 8 [(5, .int i1430645), (6, .long x1430642), (4, .ref a1430512), (3, .int y1430499), (2, .int x1430324), (0, .ref h0), (1, .int u1)] := hl
                      refine lv_goto (tgt := 52) hx hb dX0_fairOf_132 (by decide) ?_
                      exact ih52 f1430639 i1430645 ((fm_I g1430641 r1430328 rfl).trans ((fm_I g1430625 r1430328 rfl).trans m1430598)) ((fm_R g1430641 r1430328 rfl).trans ((fm_R g1430625 r1430328 rfl).trans m1430599)) ((fm_I g1430641 r1430513 rfl).trans ((fm_I g1430625 r1430513 rfl).trans m1430600)) ((fm_R g1430641 rh0 rfl).trans m1430630) ((fm_R g1430641 rh0 rfl).trans ((fm_R g1430625 rh0 rfl).trans m1430620)) (by omega) (by omega) (by omega) _ _ _ hW hF (lv_sub hl [0, 2, 3, 4, 5, 6] rfl)
                    · refine lv_lconst (v := 0) hx hb dX0_fairOf_116 (by decide) ?_
                      refine lv_lload hx hb dX0_fairOf_117 (lv_at hl 0 rfl) ?_
                      refine lv_iload_n hx hb dX0_fairOf_119 rfl (lv_at hl 4 rfl) ?_
                      refine q_i2l hx hb dX0_fairOf_120 rfl (fun x1430647 h1430648 => ?_)
                      have hb1430649 : -2147483648 ≤ x1430647.toInt ∧ x1430647.toInt ≤ 2147483647 := by have := i32_b x1430324; omega
                      refine t_min_long (own := RX0) E tw_742 ⟨tw_743, tw_115, tw_744⟩ hl.1 ⟨Nat.le_of_ble_eq_true rfl, Nat.le_of_ble_eq_true rfl⟩ ⟨Nat.le_of_ble_eq_true rfl, Nat.le_of_ble_eq_true rfl⟩ rfl rfl dX0_fairOf_121 (fun x1430650 h1430651 => ?_)
                      refine t_max_long (X := 0) (own := RX0) E tw_745 ⟨tw_746, tw_115, tw_747⟩ hl.1 ⟨Nat.le_of_ble_eq_true rfl, Nat.le_of_ble_eq_true rfl⟩ ⟨Nat.le_of_ble_eq_true rfl, Nat.le_of_ble_eq_true rfl⟩ rfl rfl dX0_fairOf_124 (fun x1430652 h1430653 => ?_)
                      refine q_l2i hx hb dX0_fairOf_127 rfl (by omega) (fun x1430654 h1430655 => ?_)
                      exact e_I E hW rfl ⟨⟨_, rfl, (by first | omega | trivial)⟩, hF⟩ dX0_fairOf_128
                  · refine lv_goto (tgt := 129) hx hb dX0_fairOf_84 (by decide) ?_
                    refine q_iinc hx hb dX0_fairOf_129 hl (k := 0) rfl rfl rfl (by omega) (by decide) (fun i1430656 ls h1430657 hl => ?_)
                    have hl : lv_has ls 8 [(5, .int i1430656), (4, .ref a1430512), (3, .int y1430499), (2, .int x1430324), (0, .ref h0), (1, .int u1)] := hl
                    refine lv_goto (tgt := 52) hx hb dX0_fairOf_132 (by decide) ?_
                    exact ih52 f1430623 i1430656 ((fm_I g1430625 r1430328 rfl).trans m1430598) ((fm_R g1430625 r1430328 rfl).trans m1430599) ((fm_I g1430625 r1430513 rfl).trans m1430600) ((fm_R g1430625 rh0 rfl).trans m1430601) ((fm_R g1430625 rh0 rfl).trans m1430620) (by omega) (by omega) (by omega) _ _ _ hW hF (lv_sub hl [0, 1, 2, 3, 4, 5] rfl)
          exact L1430606 13 f1430495 x1430537 m1430496 m1430507 m1430535 m1430497 m1430504 (by omega) (by omega) (by omega) _ _ _ hW hF (lv_sub hl [0, 1, 2, 3, 4, 5] rfl)
  exact L1430501 21 f1430321 x1430332 m1430330 ((fm_R g1430323 rh0 rfl).trans m1430318) m1430327 (by omega) (by omega) _ _ _ hW hF (lv_sub hl [0, 1, 2, 3] rfl)
def ms_X0_pay : List (Nat × Nat) := [(342, 0), (345, 0)]
def po_X0_pay (kp : Nat → Nat) (L : List Nat) (f0 : Nat → va_E) (h0 : Nat) (u1 : Int32) (u2 : Int32) : Option Value → (Nat → va_E) → Prop := fun v f => (∃ r : Int32, v = some (.int r) ∧ (True)) ∧ FM kp L ms_X0_pay f0 f
set_option maxHeartbeats 4000000 in
set_option maxRecDepth 100000 in
theorem c_X0_pay (l : Launch) (G : va_G) (cI cJ cZ cD cR cT : ClassId) (kp : Nat → Nat) (L : List Nat) (f0 : Nat → va_E) (hTH : TH cI cJ cZ cD cR cT kp L f0) (sz : Nat) (h0 : Nat) (u1 : Int32) (u2 : Int32) (rh0 : RK kp L h0 0) (pu1 : (0 : Int) ≤ u1.toInt ∧ u1.toInt ≤ 39) : Met l yX0_pay (Cond.code yX0_pay cX0_pay 5 (some .int) :: wTab) ({ frames := 1, cells := 0, slots := 0, locals := 60 }) (va_Pc [.ref h0, .int u1, .int u2] (PreW G (tys6 cI cJ cZ cD cR cT) (va_pl L f0) sz)) (QT (po_X0_pay kp L f0 h0 u1 u2) G cI cJ cZ cD cR cT (va_A (va_pl L f0) sz) kp L) 0 0 (va_A (va_pl L f0) sz) := by
  refine metT (by decide) (Nat.le_of_ble_eq_true rfl) hTH ?_
  intro p e s m below meth c A ls E hW hl
  obtain ⟨hx, hb, -, hml, hown, hts, -, -, -⟩ := id E
  have hF : FM kp L ms_X0_pay f0 f0 := FM.rf
  have hl : lv_has ls 5 [(0, .ref h0), (1, .int u1), (2, .int u2)] := hl
  refine lv_iload_n hx hb dX0_pay_0 rfl (lv_at hl 2 rfl) ?_
  refine lv_aload_n hx hb dX0_pay_1 rfl (lv_at hl 0 rfl) ?_
  refine fg_RX0_12 E hW rh0 dX0_pay_2 (fun a1430658 m1430659 r1430660 => ?_)
  refine fg_RX0_213 E hW r1430660 dX0_pay_5 (fun a1430661 m1430662 r1430663 => ?_)
  refine lv_iload_n hx hb dX0_pay_8 rfl (lv_at hl 1 rfl) ?_
  refine gl_342 E hW r1430663 ⟨by omega, by omega⟩ dX0_pay_9 (fun y1430664 m1430665 => ?_)
  refine u_isub hx hb dX0_pay_10 (fun x1430667 => ?_)
  refine lv_istore_n (lv' := [(3, .int x1430667), (0, .ref h0), (1, .int u1), (2, .int u2)]) hx hb dX0_pay_11 rfl hl (by decide) rfl (fun ls hl => ?_)
  refine lv_iload_n hx hb dX0_pay_12 rfl (lv_at hl 0 rfl) ?_
  have J1430727 : ∀ (f1430724 : Nat → va_E) (m1430725 : oR (f1430724 a1430658) 2 = a1430661) (m1430726 : oR (f1430724 h0) 0 = a1430658) (H : Heap) (locs : List Loc) (ls : Array Slot), WS G cI cJ cZ cD cR cT A kp L f1430724 s H locs → FM kp L ms_X0_pay f0 f1430724 → lv_has ls 5 [(3, .int x1430667), (0, .ref h0), (1, .int u1), (2, .int u2)] → W p l e ({ frames := 1, cells := 0, slots := 0, locals := 60 }) s m ([.ref h0, .int u1, .int u2] : List Value).toArray below meth c H locs 0 0 (MQ below (QT (po_X0_pay kp L f0 h0 u1 u2) G cI cJ cZ cD cR cT A kp L) ([.ref h0, .int u1, .int u2] : List Value).toArray s 0 0 A) (F0 m 83 ls []) := by
    intro f1430724 m1430725 m1430726 H locs ls hW hF hl
    refine lv_iload_n hx hb dX0_pay_83 rfl (lv_at hl 3 rfl) ?_
    refine lv_aload_n hx hb dX0_pay_84 rfl (lv_at hl 1 rfl) ?_
    refine fg_RX0_12 E hW rh0 dX0_pay_85 (fun a1430728 m1430729 r1430730 => ?_)
    obtain rfl : a1430658 = a1430728 := (m1430726).symm.trans m1430729
    refine fg_RX0_213 E hW r1430660 dX0_pay_88 (fun a1430731 m1430732 r1430733 => ?_)
    obtain rfl : a1430661 = a1430731 := (m1430725).symm.trans m1430732
    refine lv_iload_n hx hb dX0_pay_91 rfl (lv_at hl 2 rfl) ?_
    refine gl_342 E hW r1430663 ⟨by omega, by omega⟩ dX0_pay_92 (fun y1430734 m1430735 => ?_)
    refine t_min (own := RX0) E tw_1133 ⟨tw_637, tw_115, tw_638⟩ hl.1 ⟨Nat.le_of_ble_eq_true rfl, Nat.le_of_ble_eq_true rfl⟩ ⟨Nat.le_of_ble_eq_true rfl, Nat.le_of_ble_eq_true rfl⟩ rfl rfl dX0_pay_93 (fun x1430737 h1430738 => ?_)
    refine lv_istore (lv' := [(4, .int x1430737), (3, .int x1430667), (0, .ref h0), (1, .int u1), (2, .int u2)]) hx hb dX0_pay_96 hl (by decide) rfl (fun ls hl => ?_)
    refine lv_aload_n hx hb dX0_pay_98 rfl (lv_at hl 2 rfl) ?_
    refine fg_RX0_12 E hW rh0 dX0_pay_99 (fun a1430739 m1430740 r1430741 => ?_)
    obtain rfl : a1430658 = a1430739 := (m1430729).symm.trans m1430740
    refine fg_RX0_213 E hW r1430660 dX0_pay_102 (fun a1430742 m1430743 r1430744 => ?_)
    obtain rfl : a1430661 = a1430742 := (m1430732).symm.trans m1430743
    refine lv_iload_n hx hb dX0_pay_105 rfl (lv_at hl 3 rfl) ?_
    refine lv_dup2_11 hx hb dX0_pay_106 rfl rfl ?_
    refine gl_342 E hW r1430663 ⟨by omega, by omega⟩ dX0_pay_107 (fun y1430745 m1430746 => ?_)
    obtain rfl : y1430734 = y1430745 := (m1430735).symm.trans m1430746
    refine lv_iload hx hb dX0_pay_108 (lv_at hl 0 rfl) ?_
    refine u_isub hx hb dX0_pay_110 (fun x1430748 => ?_)
    refine gs_342 E hW r1430663 ⟨by omega, by omega⟩ dX0_pay_111 (fun f1430749 H locs e1430750 n1430751 g1430752 hW => ?_)
    have hF := FM.tr hF g1430752 rfl
    refine lv_iload hx hb dX0_pay_112 (lv_at hl 0 rfl) ?_
    exact e_I E hW rfl ⟨⟨_, rfl, trivial⟩, hF⟩ dX0_pay_114
  refine q_if_le (tgt := 83) hx hb dX0_pay_13 (by decide) rfl (fun c1430753 => ?_) (fun c1430753 => ?_)
  · exact J1430727 f0 m1430662 m1430659 _ _ _ hW hF (lv_sub hl [0, 1, 2, 3] rfl)
  · refine lv_aload_n hx hb dX0_pay_16 rfl (lv_at hl 1 rfl) ?_
    refine fg_RX0_121 E hW rh0 dX0_pay_17 (fun y1430754 m1430755 => ?_)
    refine q_if_le (tgt := 83) hx hb dX0_pay_20 (by decide) rfl (fun c1430757 => ?_) (fun c1430757 => ?_)
    · exact J1430727 f0 m1430662 m1430659 _ _ _ hW hF (lv_sub hl [0, 1, 2, 3] rfl)
    · refine lv_iload_n hx hb dX0_pay_23 rfl (lv_at hl 0 rfl) ?_
      refine lv_aload_n hx hb dX0_pay_24 rfl (lv_at hl 1 rfl) ?_
      refine fg_RX0_121 E hW rh0 dX0_pay_25 (fun y1430758 m1430759 => ?_)
      obtain rfl : y1430754 = y1430758 := (m1430755).symm.trans m1430759
      refine u_iadd hx hb dX0_pay_28 (fun x1430761 => ?_)
      refine lv_iconst (v := 1) hx hb dX0_pay_29 (by decide) ?_
      refine u_isub hx hb dX0_pay_30 (fun x1430762 => ?_)
      refine lv_aload_n hx hb dX0_pay_31 rfl (lv_at hl 1 rfl) ?_
      refine fg_RX0_121 E hW rh0 dX0_pay_32 (fun y1430763 m1430764 => ?_)
      obtain rfl : y1430754 = y1430763 := (m1430759).symm.trans m1430764
      refine u_idiv hx hb dX0_pay_35 (by omega) (fun x1430766 => ?_)
      refine lv_aload_n hx hb dX0_pay_36 rfl (lv_at hl 1 rfl) ?_
      refine fg_RX0_12 E hW rh0 dX0_pay_37 (fun a1430767 m1430768 r1430769 => ?_)
      obtain rfl : a1430658 = a1430767 := (m1430659).symm.trans m1430768
      refine fg_RX0_179 E hW r1430660 dX0_pay_40 (fun a1430770 m1430771 r1430772 => ?_)
      refine lv_iload_n hx hb dX0_pay_43 rfl (lv_at hl 2 rfl) ?_
      refine gl_345 E hW r1430772 ⟨by omega, by omega⟩ dX0_pay_44 (fun y1430773 m1430774 => ?_)
      refine t_min (own := RX0) E tw_1133 ⟨tw_637, tw_115, tw_638⟩ hl.1 ⟨Nat.le_of_ble_eq_true rfl, Nat.le_of_ble_eq_true rfl⟩ ⟨Nat.le_of_ble_eq_true rfl, Nat.le_of_ble_eq_true rfl⟩ rfl rfl dX0_pay_45 (fun x1430776 h1430777 => ?_)
      refine lv_istore (lv' := [(4, .int x1430776), (3, .int x1430667), (0, .ref h0), (1, .int u1), (2, .int u2)]) hx hb dX0_pay_48 hl (by decide) rfl (fun ls hl => ?_)
      refine lv_aload_n hx hb dX0_pay_50 rfl (lv_at hl 2 rfl) ?_
      refine fg_RX0_12 E hW rh0 dX0_pay_51 (fun a1430778 m1430779 r1430780 => ?_)
      obtain rfl : a1430658 = a1430778 := (m1430768).symm.trans m1430779
      refine fg_RX0_179 E hW r1430660 dX0_pay_54 (fun a1430781 m1430782 r1430783 => ?_)
      obtain rfl : a1430770 = a1430781 := (m1430771).symm.trans m1430782
      refine lv_iload_n hx hb dX0_pay_57 rfl (lv_at hl 3 rfl) ?_
      refine lv_dup2_11 hx hb dX0_pay_58 rfl rfl ?_
      refine gl_345 E hW r1430772 ⟨by omega, by omega⟩ dX0_pay_59 (fun y1430784 m1430785 => ?_)
      obtain rfl : y1430773 = y1430784 := (m1430774).symm.trans m1430785
      refine lv_iload hx hb dX0_pay_60 (lv_at hl 0 rfl) ?_
      refine u_isub hx hb dX0_pay_62 (fun x1430787 => ?_)
      refine gs_345 E hW r1430772 ⟨by omega, by omega⟩ dX0_pay_63 (fun f1430788 H locs e1430789 n1430790 g1430791 hW => ?_)
      have hF := FM.tr hF g1430791 rfl
      refine lv_aload_n hx hb dX0_pay_64 rfl (lv_at hl 2 rfl) ?_
      refine fg_RX0_12 E hW rh0 dX0_pay_65 (fun a1430792 m1430793 r1430794 => ?_)
      obtain rfl : a1430658 = a1430792 := (((fm_R g1430791 rh0 rfl).trans m1430779)).symm.trans m1430793
      refine fg_RX0_213 E hW r1430660 dX0_pay_68 (fun a1430795 m1430796 r1430797 => ?_)
      obtain rfl : a1430661 = a1430795 := (((fm_R g1430791 r1430660 rfl).trans m1430662)).symm.trans m1430796
      refine lv_iload_n hx hb dX0_pay_71 rfl (lv_at hl 3 rfl) ?_
      refine lv_dup2_11 hx hb dX0_pay_72 rfl rfl ?_
      refine gl_342 E hW r1430663 ⟨by omega, by omega⟩ dX0_pay_73 (fun y1430798 m1430799 => ?_)
      obtain rfl : y1430664 = y1430798 := (((congrArg (fun z => aI z (u1 : Int32).toNatClampNeg) (fm_A g1430791 r1430663 (by decide) rfl)).trans m1430665)).symm.trans m1430799
      refine lv_iload hx hb dX0_pay_74 (lv_at hl 0 rfl) ?_
      refine lv_aload_n hx hb dX0_pay_76 rfl (lv_at hl 2 rfl) ?_
      refine fg_RX0_121 E hW rh0 dX0_pay_77 (fun y1430801 m1430802 => ?_)
      obtain rfl : y1430754 = y1430801 := (((fm_I g1430791 rh0 rfl).trans m1430764)).symm.trans m1430802
      refine u_imul hx hb dX0_pay_80 (fun x1430804 => ?_)
      refine u_iadd hx hb dX0_pay_81 (fun x1430805 => ?_)
      refine gs_342 E hW r1430663 ⟨by omega, by omega⟩ dX0_pay_82 (fun f1430806 H locs e1430807 n1430808 g1430809 hW => ?_)
      have hF := FM.tr hF g1430809 rfl
      exact J1430727 f1430806 ((fm_R g1430809 r1430660 rfl).trans m1430796) ((fm_R g1430809 rh0 rfl).trans m1430793) _ _ _ hW hF (lv_sub hl [1, 2, 3, 4] rfl)
def ms_X0_collectRents : List (Nat × Nat) := [(0, 13), (115, 0), (165, 0), (169, 0), (342, 0), (345, 0)]
def po_X0_collectRents (kp : Nat → Nat) (L : List Nat) (f0 : Nat → va_E) (h0 : Nat) : Option Value → (Nat → va_E) → Prop := fun v f => v = none ∧ FM kp L ms_X0_collectRents f0 f
set_option maxHeartbeats 4000000 in
set_option maxRecDepth 100000 in
theorem c_X0_collectRents (l : Launch) (G : va_G) (cI cJ cZ cD cR cT : ClassId) (kp : Nat → Nat) (L : List Nat) (f0 : Nat → va_E) (hTH : TH cI cJ cZ cD cR cT kp L f0) (sz : Nat) (h0 : Nat) (rh0 : RK kp L h0 0) : Met l yX0_collectRents (Cond.code yX0_collectRents cX0_collectRents 7 none :: wTab) ({ frames := 5, cells := 0, slots := 0, locals := 144 }) (va_Pc [.ref h0] (PreW G (tys6 cI cJ cZ cD cR cT) (va_pl L f0) sz)) (QT (po_X0_collectRents kp L f0 h0) G cI cJ cZ cD cR cT (va_A (va_pl L f0) sz) kp L) 0 0 (va_A (va_pl L f0) sz) := by
  refine metT (by decide) (Nat.le_of_ble_eq_true rfl) hTH ?_
  intro p e s m below meth c A ls E hW hl
  obtain ⟨hx, hb, -, hml, hown, hts, -, -, -⟩ := id E
  have hF : FM kp L ms_X0_collectRents f0 f0 := FM.rf
  have hl : lv_has ls 7 [(0, .ref h0)] := hl
  refine lv_iconst (v := 0) hx hb dX0_collectRents_0 (by decide) ?_
  refine lv_istore_n (lv' := [(1, .int 0), (0, .ref h0)]) hx hb dX0_collectRents_1 rfl hl (by decide) rfl (fun ls hl => ?_)
  have L1436950 : ∀ (n : Nat), ∀ (f1436947 : Nat → va_E) (y1436948 : Int32) (b1436949 : (0 : Int) ≤ y1436948.toInt ∧ y1436948.toInt ≤ 40) (hm : (41 : Int) - y1436948.toInt ≤ n) (H : Heap) (locs : List Loc) (ls : Array Slot), WS G cI cJ cZ cD cR cT A kp L f1436947 s H locs → FM kp L ms_X0_collectRents f0 f1436947 → lv_has ls 7 [(1, .int y1436948), (0, .ref h0)] → W p l e ({ frames := 5, cells := 0, slots := 0, locals := 144 }) s m ([.ref h0] : List Value).toArray below meth c H locs 0 0 (MQ below (QT (po_X0_collectRents kp L f0 h0) G cI cJ cZ cD cR cT A kp L) ([.ref h0] : List Value).toArray s 0 0 A) (F0 m 2 ls []) := by
    intro n
    induction n with
    | zero =>
      intro f1436947 y1436948 b1436949 hm H locs ls hW hF hl
      have hz := i32_b y1436948
      exfalso; omega
    | succ n ih =>
      intro f1436947 y1436948 b1436949 hm H locs ls hW hF hl
      have ih2 := ih
      refine lv_iload_n hx hb dX0_collectRents_2 rfl (lv_at hl 0 rfl) ?_
      refine lv_aload_n hx hb dX0_collectRents_3 rfl (lv_at hl 1 rfl) ?_
      refine fg_RX0_21 E hW rh0 dX0_collectRents_4 (fun a1436951 m1436952 r1436953 => ?_)
      refine fg_RX0_171 E hW r1436953 dX0_collectRents_7 (fun y1436954 m1436955 b1436956 => ?_)
      refine q_icmp_ge (tgt := 181) hx hb dX0_collectRents_10 (by decide) rfl rfl (fun c1437270 => ?_) (fun c1437270 => ?_)
      · exact e_V E hW rfl ⟨rfl, hF⟩ dX0_collectRents_181
      · refine lv_aload_n hx hb dX0_collectRents_13 rfl (lv_at hl 1 rfl) ?_
        refine fg_RX0_21 E hW rh0 dX0_collectRents_14 (fun a1437271 m1437272 r1437273 => ?_)
        obtain rfl : a1436951 = a1437271 := (m1436952).symm.trans m1437272
        refine fg_RX0_124 E hW r1436953 dX0_collectRents_17 (fun a1437274 m1437275 r1437276 => ?_)
        refine lv_iload_n hx hb dX0_collectRents_20 rfl (lv_at hl 0 rfl) ?_
        refine gl_164 E hW r1437276 ⟨by omega, by omega⟩ dX0_collectRents_21 (fun y1437277 m1437278 b1437279 => ?_)
        refine lv_istore_n (lv' := [(2, .int y1437277), (1, .int y1436948), (0, .ref h0)]) hx hb dX0_collectRents_22 rfl hl (by decide) rfl (fun ls hl => ?_)
        refine lv_iload_n hx hb dX0_collectRents_23 rfl (lv_at hl 0 rfl) ?_
        refine lv_iconst (v := (-1)) hx hb dX0_collectRents_24 (by decide) ?_
        have J1437432 : ∀ (f1437428 : Nat → va_E) (m1437429 : oI (f1437428 a1436951) 0 = y1436954) (m1437430 : oR (f1437428 a1436951) 4 = a1437274) (m1437431 : oR (f1437428 h0) 1 = a1436951) (H : Heap) (locs : List Loc) (ls : Array Slot), WS G cI cJ cZ cD cR cT A kp L f1437428 s H locs → FM kp L ms_X0_collectRents f0 f1437428 → lv_has ls 7 [(2, .int y1437277), (1, .int y1436948), (0, .ref h0)] → W p l e ({ frames := 5, cells := 0, slots := 0, locals := 144 }) s m ([.ref h0] : List Value).toArray below meth c H locs 0 0 (MQ below (QT (po_X0_collectRents kp L f0 h0) G cI cJ cZ cD cR cT A kp L) ([.ref h0] : List Value).toArray s 0 0 A) (F0 m 175 ls []) := by
          intro f1437428 m1437429 m1437430 m1437431 H locs ls hW hF hl
          refine q_iinc hx hb dX0_collectRents_175 hl (k := 1) rfl rfl rfl (by omega) (by decide) (fun i1437433 ls h1437434 hl => ?_)
          have hl : lv_has ls 7 [(1, .int i1437433), (2, .int y1437277), (0, .ref h0)] := hl
          refine lv_goto (tgt := 2) hx hb dX0_collectRents_178 (by decide) ?_
          exact ih2 f1437428 i1437433 (by omega) (by omega) _ _ _ hW hF (lv_sub hl [0, 2] rfl)
        refine q_icmp_eq (Y := -1) (tgt := 175) hx hb dX0_collectRents_25 (by decide) rfl rfl (fun c1437435 => ?_) (fun c1437435 => ?_)
        · exact J1437432 f1436947 m1436955 m1437275 m1437272 _ _ _ hW hF (lv_sub hl [0, 1, 2] rfl)
        · refine lv_aload_n hx hb dX0_collectRents_28 rfl (lv_at hl 2 rfl) ?_
          refine fg_RX0_12 E hW rh0 dX0_collectRents_29 (fun a1437436 m1437437 r1437438 => ?_)
          refine fg_RX0_182 E hW r1437438 dX0_collectRents_32 (fun a1437439 m1437440 r1437441 => ?_)
          refine lv_iload_n hx hb dX0_collectRents_35 rfl (lv_at hl 0 rfl) ?_
          refine gl_346 E hW r1437441 ⟨by omega, by omega⟩ dX0_collectRents_36 (fun y1437442 m1437443 => ?_)
          refine q_if_ne (tgt := 175) hx hb dX0_collectRents_37 (by decide) rfl (fun c1437445 => ?_) (fun c1437445 => ?_)
          · exact J1437432 f1436947 m1436955 m1437275 m1437272 _ _ _ hW hF (lv_sub hl [0, 1, 2] rfl)
          · refine lv_aload_n hx hb dX0_collectRents_40 rfl (lv_at hl 2 rfl) ?_
            refine fg_RX0_21 E hW rh0 dX0_collectRents_41 (fun a1437446 m1437447 r1437448 => ?_)
            obtain rfl : a1436951 = a1437446 := (m1437272).symm.trans m1437447
            refine lv_iload_n hx hb dX0_collectRents_44 rfl (lv_at hl 1 rfl) ?_
            refine t_callV (As := [.int y1436948]) (rest := []) E hW (c_X1_rentOf l G cI cJ cZ cD cR cT kp L f1436947 hW.2.2.2 _ a1436951 y1436948 r1436953 (by omega)) r1436953 (by decide) rfl wk_X1_rentOf tw_709 rfl ⟨Nat.le_of_ble_eq_true rfl, Nat.le_of_ble_eq_true rfl⟩ ⟨rfl, rfl⟩ hl.1 rfl (Nat.le_of_ble_eq_true rfl) dX0_collectRents_45 ⟨Nat.le_of_ble_eq_true rfl, Nat.le_of_ble_eq_true rfl⟩ (fun v1437449 f1437450 H locs q1437451 hW => ?_)
            obtain ⟨⟨x1437453, rfl, p1437454⟩, g1437452⟩ := q1437451
            have hF := FM.tr hF g1437452 rfl
            refine lv_aload_n hx hb dX0_collectRents_48 rfl (lv_at hl 2 rfl) ?_
            refine fg_RX0_21 E hW rh0 dX0_collectRents_49 (fun a1437455 m1437456 r1437457 => ?_)
            obtain rfl : a1436951 = a1437455 := (((fm_R g1437452 rh0 rfl).trans m1437447)).symm.trans m1437456
            refine fg_RX0_188 E hW r1436953 dX0_collectRents_52 (fun a1437458 m1437459 r1437460 => ?_)
            refine lv_iload_n hx hb dX0_collectRents_55 rfl (lv_at hl 1 rfl) ?_
            refine gl_165 E hW r1437460 ⟨by omega, by omega⟩ dX0_collectRents_56 (fun y1437461 m1437462 => ?_)
            refine u_iadd hx hb dX0_collectRents_57 (fun x1437464 => ?_)
            refine lv_istore_n (lv' := [(3, .int x1437464), (2, .int y1437277), (1, .int y1436948), (0, .ref h0)]) hx hb dX0_collectRents_58 rfl hl (by decide) rfl (fun ls hl => ?_)
            refine lv_aload_n hx hb dX0_collectRents_59 rfl (lv_at hl 3 rfl) ?_
            refine fg_RX0_53 E hW rh0 dX0_collectRents_60 (fun a1437465 m1437466 r1437467 => ?_)
            refine lv_iload_n hx hb dX0_collectRents_63 rfl (lv_at hl 2 rfl) ?_
            refine gl_108 E hW r1437467 ⟨by omega, by omega⟩ dX0_collectRents_64 (fun y1437468 m1437469 => ?_)
            refine lv_iconst (v := (-1)) hx hb dX0_collectRents_65 (by decide) ?_
            have J1437494 : ∀ (f1437484 : Nat → va_E) (y1437492 : Int32) (m1437485 : oI (f1437484 a1436951) 0 = y1436954) (m1437486 : oR (f1437484 a1436951) 4 = a1437274) (m1437487 : oR (f1437484 a1436951) 5 = a1437458) (m1437488 : oR (f1437484 a1437436) 6 = a1437439) (m1437489 : oR (f1437484 h0) 0 = a1437436) (m1437490 : oR (f1437484 h0) 1 = a1436951) (m1437491 : oR (f1437484 h0) 8 = a1437465) (b1437493 : (0 : Int) ≤ y1437492.toInt ∧ y1437492.toInt ≤ 1) (H : Heap) (locs : List Loc) (ls : Array Slot), WS G cI cJ cZ cD cR cT A kp L f1437484 s H locs → FM kp L ms_X0_collectRents f0 f1437484 → lv_has ls 7 [(3, .int x1437464), (2, .int y1437277), (1, .int y1436948), (0, .ref h0)] → W p l e ({ frames := 5, cells := 0, slots := 0, locals := 144 }) s m ([.ref h0] : List Value).toArray below meth c H locs 0 0 (MQ below (QT (po_X0_collectRents kp L f0 h0) G cI cJ cZ cD cR cT A kp L) ([.ref h0] : List Value).toArray s 0 0 A) (F0 m 96 ls [.int y1437492]) := by
              intro f1437484 y1437492 m1437485 m1437486 m1437487 m1437488 m1437489 m1437490 m1437491 b1437493 H locs ls hW hF hl
              clear c1437445 p1437454
              refine lv_istore (lv' := [(4, .int y1437492), (3, .int x1437464), (2, .int y1437277), (1, .int y1436948), (0, .ref h0)]) hx hb dX0_collectRents_96 hl (by decide) rfl (fun ls hl => ?_)
              refine lv_iload hx hb dX0_collectRents_98 (lv_at hl 0 rfl) ?_
              have J1437510 : ∀ (f1437501 : Nat → va_E) (y1437509 : Int32) (m1437502 : oI (f1437501 a1436951) 0 = y1436954) (m1437503 : oR (f1437501 a1436951) 4 = a1437274) (m1437504 : oR (f1437501 a1436951) 5 = a1437458) (m1437505 : oR (f1437501 a1437436) 6 = a1437439) (m1437506 : oR (f1437501 h0) 0 = a1437436) (m1437507 : oR (f1437501 h0) 1 = a1436951) (m1437508 : oR (f1437501 h0) 8 = a1437465) (H : Heap) (locs : List Loc) (ls : Array Slot), WS G cI cJ cZ cD cR cT A kp L f1437501 s H locs → FM kp L ms_X0_collectRents f0 f1437501 → lv_has ls 7 [(4, .int y1437492), (3, .int x1437464), (2, .int y1437277), (1, .int y1436948), (0, .ref h0)] → W p l e ({ frames := 5, cells := 0, slots := 0, locals := 144 }) s m ([.ref h0] : List Value).toArray below meth c H locs 0 0 (MQ below (QT (po_X0_collectRents kp L f0 h0) G cI cJ cZ cD cR cT A kp L) ([.ref h0] : List Value).toArray s 0 0 A) (F0 m 112 ls [.int y1437509]) := by
                intro f1437501 y1437509 m1437502 m1437503 m1437504 m1437505 m1437506 m1437507 m1437508 H locs ls hW hF hl
                refine lv_istore (lv' := [(5, .int y1437509), (4, .int y1437492), (3, .int x1437464), (2, .int y1437277), (1, .int y1436948), (0, .ref h0)]) hx hb dX0_collectRents_112 hl (by decide) rfl (fun ls hl => ?_)
                refine lv_aload_n hx hb dX0_collectRents_114 rfl (lv_at hl 5 rfl) ?_
                refine lv_iload_n hx hb dX0_collectRents_115 rfl (lv_at hl 3 rfl) ?_
                refine lv_iload hx hb dX0_collectRents_116 (lv_at hl 0 rfl) ?_
                refine t_callV (As := [.int y1437277, .int y1437509]) (rest := []) E hW (c_X0_pay l G cI cJ cZ cD cR cT kp L f1437501 hW.2.2.2 _ h0 y1437277 y1437509 rh0 (by omega)) rh0 (by decide) rfl wk_X0_pay tw_1129 rfl ⟨Nat.le_of_ble_eq_true rfl, Nat.le_of_ble_eq_true rfl⟩ ⟨rfl, rfl⟩ hl.1 rfl (Nat.le_of_ble_eq_true rfl) dX0_collectRents_118 ⟨Nat.le_of_ble_eq_true rfl, Nat.le_of_ble_eq_true rfl⟩ (fun v1437511 f1437512 H locs q1437513 hW => ?_)
                obtain ⟨⟨x1437515, rfl, p1437516⟩, g1437514⟩ := q1437513
                clear p1437516
                have hF := FM.tr hF g1437514 rfl
                refine lv_istore (lv' := [(6, .int x1437515), (5, .int y1437509), (4, .int y1437492), (3, .int x1437464), (2, .int y1437277), (1, .int y1436948), (0, .ref h0)]) hx hb dX0_collectRents_121 hl (by decide) rfl (fun ls hl => ?_)
                refine lv_aload_n hx hb dX0_collectRents_123 rfl (lv_at hl 6 rfl) ?_
                refine fg_RX0_21 E hW rh0 dX0_collectRents_124 (fun a1437517 m1437518 r1437519 => ?_)
                obtain rfl : a1436951 = a1437517 := (((fm_R g1437514 rh0 rfl).trans m1437507)).symm.trans m1437518
                refine fg_RX0_201 E hW r1436953 dX0_collectRents_127 (fun a1437520 m1437521 r1437522 => ?_)
                refine lv_aload_n hx hb dX0_collectRents_130 rfl (lv_at hl 6 rfl) ?_
                refine fg_RX0_21 E hW rh0 dX0_collectRents_131 (fun a1437523 m1437524 r1437525 => ?_)
                obtain rfl : a1436951 = a1437523 := (m1437518).symm.trans m1437524
                refine fg_RX0_204 E hW r1436953 dX0_collectRents_134 (fun a1437526 m1437527 r1437528 => ?_)
                refine lv_iload_n hx hb dX0_collectRents_137 rfl (lv_at hl 5 rfl) ?_
                refine gl_161 E hW r1437528 ⟨by omega, by omega⟩ dX0_collectRents_138 (fun y1437529 m1437530 b1437531 => ?_)
                refine lv_dup2_11 hx hb dX0_collectRents_139 rfl rfl ?_
                refine gl_169 E hW r1437522 ⟨by omega, by omega⟩ dX0_collectRents_140 (fun y1437532 m1437533 => ?_)
                refine lv_iload hx hb dX0_collectRents_141 (lv_at hl 0 rfl) ?_
                refine u_iadd hx hb dX0_collectRents_143 (fun x1437535 => ?_)
                refine gs_169 E hW r1437522 ⟨by omega, by omega⟩ dX0_collectRents_144 (fun f1437536 H locs e1437537 n1437538 g1437539 hW => ?_)
                have hF := FM.tr hF g1437539 rfl
                refine lv_aload_n hx hb dX0_collectRents_145 rfl (lv_at hl 6 rfl) ?_
                refine lv_dup hx hb dX0_collectRents_146 rfl ?_
                refine fg_RX0_103 E hW rh0 dX0_collectRents_147 (fun y1437540 m1437541 => ?_)
                refine lv_iload hx hb dX0_collectRents_150 (lv_at hl 0 rfl) ?_
                refine q_i2l hx hb dX0_collectRents_152 rfl (fun x1437542 h1437543 => ?_)
                have hb1437544 : -2147483648 ≤ x1437542.toInt ∧ x1437542.toInt ≤ 2147483647 := by have := i32_b x1437515; omega
                refine u_ladd hx hb dX0_collectRents_153 (fun x1437545 => ?_)
                refine fp_RX0_103 E hW rh0 dX0_collectRents_154 (fun f1437546 H locs e1437547 n1437548 g1437549 hW => ?_)
                have hF := FM.tr hF g1437549 rfl
                refine lv_aload_n hx hb dX0_collectRents_157 rfl (lv_at hl 6 rfl) ?_
                refine fg_RX0_21 E hW rh0 dX0_collectRents_158 (fun a1437550 m1437551 r1437552 => ?_)
                obtain rfl : a1436951 = a1437550 := (((fm_R g1437549 rh0 rfl).trans ((fm_R g1437539 rh0 rfl).trans m1437524))).symm.trans m1437551
                refine fg_RX0_188 E hW r1436953 dX0_collectRents_161 (fun a1437553 m1437554 r1437555 => ?_)
                obtain rfl : a1437458 = a1437553 := (((fm_R g1437549 r1436953 rfl).trans ((fm_R g1437539 r1436953 rfl).trans ((fm_R g1437514 r1436953 rfl).trans m1437504)))).symm.trans m1437554
                refine lv_iload_n hx hb dX0_collectRents_164 rfl (lv_at hl 5 rfl) ?_
                refine lv_iload_n hx hb dX0_collectRents_165 rfl (lv_at hl 3 rfl) ?_
                refine lv_iload hx hb dX0_collectRents_166 (lv_at hl 0 rfl) ?_
                refine u_isub hx hb dX0_collectRents_168 (fun x1437556 => ?_)
                refine lv_ldc (v := 10000000) hx hb hown (hts _ tw_1134) dX0_collectRents_169 ?_
                refine t_min (Y := 10000000) (own := RX0) E tw_1133 ⟨tw_637, tw_115, tw_638⟩ hl.1 ⟨Nat.le_of_ble_eq_true rfl, Nat.le_of_ble_eq_true rfl⟩ ⟨Nat.le_of_ble_eq_true rfl, Nat.le_of_ble_eq_true rfl⟩ rfl rfl dX0_collectRents_171 (fun x1437557 h1437558 => ?_)
                refine gs_165 E hW r1437460 ⟨by omega, by omega⟩ dX0_collectRents_174 (fun f1437559 H locs e1437560 n1437561 g1437562 hW => ?_)
                have hF := FM.tr hF g1437562 rfl
                exact J1437432 f1437559 ((fm_I g1437562 r1436953 rfl).trans ((fm_I g1437549 r1436953 rfl).trans ((fm_I g1437539 r1436953 rfl).trans ((fm_I g1437514 r1436953 rfl).trans m1437502)))) ((fm_R g1437562 r1436953 rfl).trans ((fm_R g1437549 r1436953 rfl).trans ((fm_R g1437539 r1436953 rfl).trans ((fm_R g1437514 r1436953 rfl).trans m1437503)))) ((fm_R g1437562 rh0 rfl).trans m1437551) _ _ _ hW hF (lv_sub hl [4, 5, 6] rfl)
              refine q_if_eq (tgt := 111) hx hb dX0_collectRents_100 (by decide) rfl (fun c1437563 => ?_) (fun c1437563 => ?_)
              · refine lv_iload_n hx hb dX0_collectRents_111 rfl (lv_at hl 1 rfl) ?_
                exact J1437510 f1437484 x1437464 m1437485 m1437486 m1437487 m1437488 m1437489 m1437490 m1437491 _ _ _ hW hF (lv_sub hl [0, 1, 2, 3, 4] rfl)
              · refine lv_aload_n hx hb dX0_collectRents_103 rfl (lv_at hl 4 rfl) ?_
                refine lv_iload_n hx hb dX0_collectRents_104 rfl (lv_at hl 3 rfl) ?_
                refine t_callV (As := [.int y1436948]) (rest := []) E hW (c_X0_fairOf l G cI cJ cZ cD cR cT kp L f1437484 hW.2.2.2 _ h0 y1436948 rh0 (by omega)) rh0 (by decide) rfl wk_X0_fairOf tw_1128 rfl ⟨Nat.le_of_ble_eq_true rfl, Nat.le_of_ble_eq_true rfl⟩ ⟨rfl, rfl⟩ hl.1 rfl (Nat.le_of_ble_eq_true rfl) dX0_collectRents_105 ⟨Nat.le_of_ble_eq_true rfl, Nat.le_of_ble_eq_true rfl⟩ (fun v1437564 f1437565 H locs q1437566 hW => ?_)
                obtain ⟨⟨x1437568, rfl, p1437569⟩, g1437567⟩ := q1437566
                have hF := FM.tr hF g1437567 rfl
                refine lv_goto (tgt := 112) hx hb dX0_collectRents_108 (by decide) ?_
                exact J1437510 f1437565 x1437568 ((fm_I g1437567 r1436953 rfl).trans m1437485) ((fm_R g1437567 r1436953 rfl).trans m1437486) ((fm_R g1437567 r1436953 rfl).trans m1437487) ((fm_R g1437567 r1437438 rfl).trans m1437488) ((fm_R g1437567 rh0 rfl).trans m1437489) ((fm_R g1437567 rh0 rfl).trans m1437490) ((fm_R g1437567 rh0 rfl).trans m1437491) _ _ _ hW hF (lv_sub hl [0, 1, 2, 3, 4] rfl)
            refine q_icmp_ne (Y := -1) (tgt := 81) hx hb dX0_collectRents_66 (by decide) rfl rfl (fun c1437570 => ?_) (fun c1437570 => ?_)
            · refine lv_aload_n hx hb dX0_collectRents_81 rfl (lv_at hl 3 rfl) ?_
              refine fg_RX0_53 E hW rh0 dX0_collectRents_82 (fun a1437571 m1437572 r1437573 => ?_)
              obtain rfl : a1437465 = a1437571 := (m1437466).symm.trans m1437572
              refine lv_iload_n hx hb dX0_collectRents_85 rfl (lv_at hl 2 rfl) ?_
              refine gl_108 E hW r1437467 ⟨by omega, by omega⟩ dX0_collectRents_86 (fun y1437574 m1437575 => ?_)
              obtain rfl : y1437468 = y1437574 := (m1437469).symm.trans m1437575
              refine lv_iconst (v := 1) hx hb dX0_collectRents_87 (by decide) ?_
              refine q_icmp_ne (Y := 1) (tgt := 95) hx hb dX0_collectRents_88 (by decide) rfl rfl (fun c1437577 => ?_) (fun c1437577 => ?_)
              · refine lv_iconst (v := 0) hx hb dX0_collectRents_95 (by decide) ?_
                exact J1437494 f1437450 0 ((fm_I g1437452 r1436953 rfl).trans m1436955) ((fm_R g1437452 r1436953 rfl).trans m1437275) m1437459 ((fm_R g1437452 r1437438 rfl).trans m1437440) ((fm_R g1437452 rh0 rfl).trans m1437437) m1437456 m1437572 (by decide) _ _ _ hW hF (lv_sub hl [0, 1, 2, 3] rfl)
              · refine lv_iconst (v := 1) hx hb dX0_collectRents_91 (by decide) ?_
                refine lv_goto (tgt := 96) hx hb dX0_collectRents_92 (by decide) ?_
                exact J1437494 f1437450 1 ((fm_I g1437452 r1436953 rfl).trans m1436955) ((fm_R g1437452 r1436953 rfl).trans m1437275) m1437459 ((fm_R g1437452 r1437438 rfl).trans m1437440) ((fm_R g1437452 rh0 rfl).trans m1437437) m1437456 m1437572 (by decide) _ _ _ hW hF (lv_sub hl [0, 1, 2, 3] rfl)
            · refine lv_aload_n hx hb dX0_collectRents_69 rfl (lv_at hl 3 rfl) ?_
              refine lv_sipush (v := 262) hx hb dX0_collectRents_70 (by decide) ?_
              refine lv_iload_n hx hb dX0_collectRents_73 rfl (lv_at hl 1 rfl) ?_
              refine lv_iload_n hx hb dX0_collectRents_74 rfl (lv_at hl 2 rfl) ?_
              refine t_callV (As := [.int 262, .int y1437277, .int y1436948]) (rest := []) E hW (c_X0_anyHolds l G cI cJ cZ cD cR cT kp L f1437450 hW.2.2.2 _ h0 262 y1437277 y1436948 rh0 (by decide) (by omega) (by omega)) rh0 (by decide) rfl wk_X0_anyHolds tw_752 rfl ⟨Nat.le_of_ble_eq_true rfl, Nat.le_of_ble_eq_true rfl⟩ ⟨rfl, rfl⟩ hl.1 rfl (Nat.le_of_ble_eq_true rfl) dX0_collectRents_75 ⟨Nat.le_of_ble_eq_true rfl, Nat.le_of_ble_eq_true rfl⟩ (fun v1437578 f1437579 H locs q1437580 hW => ?_)
              obtain ⟨⟨x1437582, rfl, p1437583⟩, g1437581⟩ := q1437580
              have p1437583 : (0 : Int) ≤ x1437582.toInt ∧ x1437582.toInt ≤ 1 := p1437583
              have hF := FM.tr hF g1437581 rfl
              refine lv_goto (tgt := 96) hx hb dX0_collectRents_78 (by decide) ?_
              exact J1437494 f1437579 x1437582 ((fm_I g1437581 r1436953 rfl).trans ((fm_I g1437452 r1436953 rfl).trans m1436955)) ((fm_R g1437581 r1436953 rfl).trans ((fm_R g1437452 r1436953 rfl).trans m1437275)) ((fm_R g1437581 r1436953 rfl).trans m1437459) ((fm_R g1437581 r1437438 rfl).trans ((fm_R g1437452 r1437438 rfl).trans m1437440)) ((fm_R g1437581 rh0 rfl).trans ((fm_R g1437452 rh0 rfl).trans m1437437)) ((fm_R g1437581 rh0 rfl).trans m1437456) ((fm_R g1437581 rh0 rfl).trans m1437466) (by omega) _ _ _ hW hF (lv_sub hl [0, 1, 2, 3] rfl)
  have hk1437584 : (0 : Int32).toInt = 0 := rfl
  exact L1436950 41 f0 0 (by decide) (by omega) _ _ _ hW hF (lv_sub hl [0, 1] rfl)
def ms_X0_copyFrom : List (Nat × Nat) := [(0, 6), (0, 9), (0, 12), (0, 13), (1, 0), (1, 8), (1, 12), (1, 13), (1, 14), (2, 0), (3, 0), (3, 1), (3, 2), (3, 3), (4, 0), (10, 0), (10, 7), (108, 0), (161, 0), (162, 0), (163, 0), (164, 0), (165, 0), (166, 0), (167, 0), (169, 0), (170, 0), (171, 0), (221, 0), (284, 0), (285, 0), (341, 0), (342, 0), (343, 0), (344, 0), (345, 0), (346, 0), (347, 0), (348, 0), (520, 0), (521, 0), (701, 0), (702, 0), (703, 0), (704, 0), (705, 0), (706, 0), (708, 0), (709, 0), (710, 0)]
def po_X0_copyFrom (kp : Nat → Nat) (L : List Nat) (f0 : Nat → va_E) (h0 : Nat) (u1 : Nat) : Option Value → (Nat → va_E) → Prop := fun v f => v = none ∧ FM kp L ms_X0_copyFrom f0 f
set_option maxHeartbeats 4000000 in
set_option maxRecDepth 100000 in
theorem c_X0_copyFrom (l : Launch) (G : va_G) (cI cJ cZ cD cR cT : ClassId) (kp : Nat → Nat) (L : List Nat) (f0 : Nat → va_E) (hTH : TH cI cJ cZ cD cR cT kp L f0) (sz : Nat) (h0 : Nat) (u1 : Nat) (rh0 : RK kp L h0 0) (ru1 : RK kp L u1 0) : Met l yX0_copyFrom (Cond.code yX0_copyFrom cX0_copyFrom 2 none :: wTab) ({ frames := 2, cells := 0, slots := 0, locals := 82 }) (va_Pc [.ref h0, .ref u1] (PreW G (tys6 cI cJ cZ cD cR cT) (va_pl L f0) sz)) (QT (po_X0_copyFrom kp L f0 h0 u1) G cI cJ cZ cD cR cT (va_A (va_pl L f0) sz) kp L) 0 0 (va_A (va_pl L f0) sz) := by
  refine metT (by decide) (Nat.le_of_ble_eq_true rfl) hTH ?_
  intro p e s m below meth c A ls E hW hl
  obtain ⟨hx, hb, -, hml, hown, hts, -, -, -⟩ := id E
  have hF : FM kp L ms_X0_copyFrom f0 f0 := FM.rf
  have hl : lv_has ls 2 [(0, .ref h0), (1, .ref u1)] := hl
  refine lv_aload_n hx hb dX0_copyFrom_0 rfl (lv_at hl 0 rfl) ?_
  refine fg_RX0_12 E hW rh0 dX0_copyFrom_1 (fun a1437585 m1437586 r1437587 => ?_)
  refine lv_aload_n hx hb dX0_copyFrom_4 rfl (lv_at hl 1 rfl) ?_
  refine fg_RX0_12 E hW ru1 dX0_copyFrom_5 (fun a1437588 m1437589 r1437590 => ?_)
  refine t_callV (As := [.ref a1437588]) (rest := []) E hW (c_X4_copyFrom l G cI cJ cZ cD cR cT kp L f0 hW.2.2.2 _ a1437585 a1437588 r1437587 r1437590) r1437587 (by decide) rfl wk_X4_copyFrom tw_1289 rfl ⟨Nat.le_of_ble_eq_true rfl, Nat.le_of_ble_eq_true rfl⟩ ⟨rfl, rfl⟩ hl.1 rfl (Nat.le_of_ble_eq_true rfl) dX0_copyFrom_8 ⟨Nat.le_of_ble_eq_true rfl, Nat.le_of_ble_eq_true rfl⟩ (fun v1437591 f1437592 H locs q1437593 hW => ?_)
  obtain ⟨rfl, g1437594⟩ := q1437593
  have hF := FM.tr hF g1437594 rfl
  refine lv_aload_n hx hb dX0_copyFrom_11 rfl (lv_at hl 0 rfl) ?_
  refine fg_RX0_21 E hW rh0 dX0_copyFrom_12 (fun a1437595 m1437596 r1437597 => ?_)
  refine lv_aload_n hx hb dX0_copyFrom_15 rfl (lv_at hl 1 rfl) ?_
  refine fg_RX0_21 E hW ru1 dX0_copyFrom_16 (fun a1437598 m1437599 r1437600 => ?_)
  refine t_callV (As := [.ref a1437598]) (rest := []) E hW (c_X1_copyFrom l G cI cJ cZ cD cR cT kp L f1437592 hW.2.2.2 _ a1437595 a1437598 r1437597 r1437600) r1437597 (by decide) rfl wk_X1_copyFrom tw_1294 rfl ⟨Nat.le_of_ble_eq_true rfl, Nat.le_of_ble_eq_true rfl⟩ ⟨rfl, rfl⟩ hl.1 rfl (Nat.le_of_ble_eq_true rfl) dX0_copyFrom_19 ⟨Nat.le_of_ble_eq_true rfl, Nat.le_of_ble_eq_true rfl⟩ (fun v1437601 f1437602 H locs q1437603 hW => ?_)
  obtain ⟨rfl, g1437604⟩ := q1437603
  have hF := FM.tr hF g1437604 rfl
  refine lv_aload_n hx hb dX0_copyFrom_22 rfl (lv_at hl 0 rfl) ?_
  refine fg_RX0_28 E hW rh0 dX0_copyFrom_23 (fun a1437605 m1437606 r1437607 => ?_)
  refine lv_aload_n hx hb dX0_copyFrom_26 rfl (lv_at hl 1 rfl) ?_
  refine fg_RX0_28 E hW ru1 dX0_copyFrom_27 (fun a1437608 m1437609 r1437610 => ?_)
  refine t_callV (As := [.ref a1437608]) (rest := []) E hW (c_X10_copyFrom l G cI cJ cZ cD cR cT kp L f1437602 hW.2.2.2 _ a1437605 a1437608 r1437607 r1437610) r1437607 (by decide) rfl wk_X10_copyFrom tw_1299 rfl ⟨Nat.le_of_ble_eq_true rfl, Nat.le_of_ble_eq_true rfl⟩ ⟨rfl, rfl⟩ hl.1 rfl (Nat.le_of_ble_eq_true rfl) dX0_copyFrom_30 ⟨Nat.le_of_ble_eq_true rfl, Nat.le_of_ble_eq_true rfl⟩ (fun v1437611 f1437612 H locs q1437613 hW => ?_)
  obtain ⟨rfl, g1437614⟩ := q1437613
  have hF := FM.tr hF g1437614 rfl
  refine lv_aload_n hx hb dX0_copyFrom_33 rfl (lv_at hl 0 rfl) ?_
  refine fg_RX0_35 E hW rh0 dX0_copyFrom_34 (fun a1437615 m1437616 r1437617 => ?_)
  refine lv_aload_n hx hb dX0_copyFrom_37 rfl (lv_at hl 1 rfl) ?_
  refine fg_RX0_35 E hW ru1 dX0_copyFrom_38 (fun a1437618 m1437619 r1437620 => ?_)
  refine t_callV (As := [.ref a1437618]) (rest := []) E hW (c_X7_copyFrom l G cI cJ cZ cD cR cT kp L f1437612 hW.2.2.2 _ a1437615 a1437618 r1437617 r1437620) r1437617 (by decide) rfl wk_X7_copyFrom tw_1304 rfl ⟨Nat.le_of_ble_eq_true rfl, Nat.le_of_ble_eq_true rfl⟩ ⟨rfl, rfl⟩ hl.1 rfl (Nat.le_of_ble_eq_true rfl) dX0_copyFrom_41 ⟨Nat.le_of_ble_eq_true rfl, Nat.le_of_ble_eq_true rfl⟩ (fun v1437621 f1437622 H locs q1437623 hW => ?_)
  obtain ⟨rfl, g1437624⟩ := q1437623
  have hF := FM.tr hF g1437624 rfl
  refine lv_aload_n hx hb dX0_copyFrom_44 rfl (lv_at hl 0 rfl) ?_
  refine fg_RX0_42 E hW rh0 dX0_copyFrom_45 (fun a1437625 m1437626 r1437627 => ?_)
  refine lv_aload_n hx hb dX0_copyFrom_48 rfl (lv_at hl 1 rfl) ?_
  refine fg_RX0_42 E hW ru1 dX0_copyFrom_49 (fun a1437628 m1437629 r1437630 => ?_)
  refine t_callV (As := [.ref a1437628]) (rest := []) E hW (c_X2_copyFrom l G cI cJ cZ cD cR cT kp L f1437622 hW.2.2.2 _ a1437625 a1437628 r1437627 r1437630) r1437627 (by decide) rfl wk_X2_copyFrom tw_1309 rfl ⟨Nat.le_of_ble_eq_true rfl, Nat.le_of_ble_eq_true rfl⟩ ⟨rfl, rfl⟩ hl.1 rfl (Nat.le_of_ble_eq_true rfl) dX0_copyFrom_52 ⟨Nat.le_of_ble_eq_true rfl, Nat.le_of_ble_eq_true rfl⟩ (fun v1437631 f1437632 H locs q1437633 hW => ?_)
  obtain ⟨rfl, g1437634⟩ := q1437633
  have hF := FM.tr hF g1437634 rfl
  refine lv_aload_n hx hb dX0_copyFrom_55 rfl (lv_at hl 0 rfl) ?_
  refine fg_RX0_49 E hW rh0 dX0_copyFrom_56 (fun a1437635 m1437636 r1437637 => ?_)
  refine lv_aload_n hx hb dX0_copyFrom_59 rfl (lv_at hl 1 rfl) ?_
  refine fg_RX0_49 E hW ru1 dX0_copyFrom_60 (fun a1437638 m1437639 r1437640 => ?_)
  refine t_callV (As := [.ref a1437638]) (rest := []) E hW (c_X3_copyFrom l G cI cJ cZ cD cR cT kp L f1437632 hW.2.2.2 _ a1437635 a1437638 r1437637 r1437640) r1437637 (by decide) rfl wk_X3_copyFrom tw_1313 rfl ⟨Nat.le_of_ble_eq_true rfl, Nat.le_of_ble_eq_true rfl⟩ ⟨rfl, rfl⟩ hl.1 rfl (Nat.le_of_ble_eq_true rfl) dX0_copyFrom_63 ⟨Nat.le_of_ble_eq_true rfl, Nat.le_of_ble_eq_true rfl⟩ (fun v1437641 f1437642 H locs q1437643 hW => ?_)
  obtain ⟨rfl, g1437644⟩ := q1437643
  have hF := FM.tr hF g1437644 rfl
  refine lv_aload_n hx hb dX0_copyFrom_66 rfl (lv_at hl 0 rfl) ?_
  refine lv_aload_n hx hb dX0_copyFrom_67 rfl (lv_at hl 1 rfl) ?_
  refine fg_RX0_93 E hW ru1 dX0_copyFrom_68 (fun y1437645 m1437646 b1437647 => ?_)
  refine fp_RX0_93 E hW rh0 (by omega) dX0_copyFrom_71 (fun f1437648 H locs e1437649 n1437650 g1437651 hW => ?_)
  have hF := FM.tr hF g1437651 rfl
  refine lv_aload_n hx hb dX0_copyFrom_74 rfl (lv_at hl 0 rfl) ?_
  refine fg_RX0_53 E hW rh0 dX0_copyFrom_75 (fun a1437652 m1437653 r1437654 => ?_)
  refine lv_iconst (v := (-1)) hx hb dX0_copyFrom_78 (by decide) ?_
  refine t_callS (As := [.ref a1437652, .int (-1)]) (rest := []) E hW (c_fill l G cI cJ cZ cD cR cT kp L f1437648 hW.2.2.2 _ a1437652 (-1) 108 r1437654 (by decide) rfl (by decide) (fun _ _ _ => trivial) (by decide)) wk_J7_fill_53178 tw_390 rfl ⟨Nat.le_of_ble_eq_true rfl, Nat.le_of_ble_eq_true rfl⟩ ⟨rfl, rfl⟩ hl.1 rfl (Nat.le_of_ble_eq_true rfl) dX0_copyFrom_79 ⟨Nat.le_of_ble_eq_true rfl, Nat.le_of_ble_eq_true rfl⟩ (fun v1437658 f1437655 H locs q1437657 hW => ?_)
  obtain ⟨rfl, g1437656⟩ := q1437657
  have hF := FM.tr hF g1437656 rfl
  refine lv_aload_n hx hb dX0_copyFrom_82 rfl (lv_at hl 0 rfl) ?_
  refine lv_iconst (v := 0) hx hb dX0_copyFrom_83 (by decide) ?_
  refine fp_RX0_97 E hW rh0 (by decide) dX0_copyFrom_84 (fun f1437659 H locs e1437660 n1437661 g1437662 hW => ?_)
  have hF := FM.tr hF g1437662 rfl
  refine lv_aload_n hx hb dX0_copyFrom_87 rfl (lv_at hl 0 rfl) ?_
  refine lv_iconst (v := 0) hx hb dX0_copyFrom_88 (by decide) ?_
  refine fp_RX0_100 E hW rh0 dX0_copyFrom_89 (fun f1437663 H locs e1437664 n1437665 g1437666 hW => ?_)
  have hF := FM.tr hF g1437666 rfl
  refine lv_aload_n hx hb dX0_copyFrom_92 rfl (lv_at hl 0 rfl) ?_
  refine lv_lconst (v := 0) hx hb dX0_copyFrom_93 (by decide) ?_
  refine fp_RX0_103 E hW rh0 dX0_copyFrom_94 (fun f1437667 H locs e1437668 n1437669 g1437670 hW => ?_)
  have hF := FM.tr hF g1437670 rfl
  exact e_V E hW rfl ⟨rfl, hF⟩ dX0_copyFrom_97
def ms_X0_drawOf : List (Nat × Nat) := [(115, 0)]
def po_X0_drawOf (kp : Nat → Nat) (L : List Nat) (f0 : Nat → va_E) (h0 : Nat) (u1 : Int32) : Option Value → (Nat → va_E) → Prop := fun v f => (∃ r : Int64, v = some (.long r) ∧ (True)) ∧ FM kp L ms_X0_drawOf f0 f
set_option maxHeartbeats 4000000 in
set_option maxRecDepth 100000 in
theorem c_X0_drawOf (l : Launch) (G : va_G) (cI cJ cZ cD cR cT : ClassId) (kp : Nat → Nat) (L : List Nat) (f0 : Nat → va_E) (hTH : TH cI cJ cZ cD cR cT kp L f0) (sz : Nat) (h0 : Nat) (u1 : Int32) (rh0 : RK kp L h0 0) (pu1 : (0 : Int) ≤ u1.toInt ∧ u1.toInt ≤ 39) : Met l yX0_drawOf (Cond.code yX0_drawOf cX0_drawOf 9 (some .long) :: wTab) ({ frames := 4, cells := 0, slots := 0, locals := 117 }) (va_Pc [.ref h0, .int u1] (PreW G (tys6 cI cJ cZ cD cR cT) (va_pl L f0) sz)) (QT (po_X0_drawOf kp L f0 h0 u1) G cI cJ cZ cD cR cT (va_A (va_pl L f0) sz) kp L) 0 0 (va_A (va_pl L f0) sz) := by
  refine metT (by decide) (Nat.le_of_ble_eq_true rfl) hTH ?_
  intro p e s m below meth c A ls E hW hl
  obtain ⟨hx, hb, -, hml, hown, hts, -, -, -⟩ := id E
  have hF : FM kp L ms_X0_drawOf f0 f0 := FM.rf
  have hl : lv_has ls 9 [(0, .ref h0), (1, .int u1)] := hl
  refine lv_lconst (v := 0) hx hb dX0_drawOf_0 (by decide) ?_
  refine lv_lstore_n (lv' := [(2, .long 0), (0, .ref h0), (1, .int u1)]) hx hb dX0_drawOf_1 rfl hl (by decide) rfl (fun ls hl => ?_)
  refine lv_iconst (v := 0) hx hb dX0_drawOf_2 (by decide) ?_
  refine lv_istore (lv' := [(4, .int 0), (2, .long 0), (0, .ref h0), (1, .int u1)]) hx hb dX0_drawOf_3 hl (by decide) rfl (fun ls hl => ?_)
  have L1453409 : ∀ (n : Nat), ∀ (f1453405 : Nat → va_E) (y1453406 : Int32) (y1453408 : Int64) (b1453407 : (0 : Int) ≤ y1453406.toInt ∧ y1453406.toInt ≤ 20) (hm : (21 : Int) - y1453406.toInt ≤ n) (H : Heap) (locs : List Loc) (ls : Array Slot), WS G cI cJ cZ cD cR cT A kp L f1453405 s H locs → FM kp L ms_X0_drawOf f0 f1453405 → lv_has ls 9 [(4, .int y1453406), (2, .long y1453408), (0, .ref h0), (1, .int u1)] → W p l e ({ frames := 4, cells := 0, slots := 0, locals := 117 }) s m ([.ref h0, .int u1] : List Value).toArray below meth c H locs 0 0 (MQ below (QT (po_X0_drawOf kp L f0 h0 u1) G cI cJ cZ cD cR cT A kp L) ([.ref h0, .int u1] : List Value).toArray s 0 0 A) (F0 m 5 ls []) := by
    intro n
    induction n with
    | zero =>
      intro f1453405 y1453406 y1453408 b1453407 hm H locs ls hW hF hl
      have hz := i32_b y1453406
      exfalso; omega
    | succ n ih =>
      intro f1453405 y1453406 y1453408 b1453407 hm H locs ls hW hF hl
      have ih5 := ih
      refine lv_iload hx hb dX0_drawOf_5 (lv_at hl 0 rfl) ?_
      refine lv_aload_n hx hb dX0_drawOf_7 rfl (lv_at hl 2 rfl) ?_
      refine fg_RX0_42 E hW rh0 dX0_drawOf_8 (fun a1453410 m1453411 r1453412 => ?_)
      refine fg_RX0_286 E hW r1453412 dX0_drawOf_11 (fun y1453413 m1453414 b1453415 => ?_)
      refine q_icmp_ge (tgt := 117) hx hb dX0_drawOf_14 (by decide) rfl rfl (fun c1454388 => ?_) (fun c1454388 => ?_)
      · refine lv_lload_n hx hb dX0_drawOf_117 rfl (lv_at hl 1 rfl) ?_
        exact e_J E hW rfl ⟨⟨_, rfl, trivial⟩, hF⟩ dX0_drawOf_118
      · refine lv_aload_n hx hb dX0_drawOf_17 rfl (lv_at hl 2 rfl) ?_
        refine fg_RX0_42 E hW rh0 dX0_drawOf_18 (fun a1454389 m1454390 r1454391 => ?_)
        obtain rfl : a1453410 = a1454389 := (m1453411).symm.trans m1454390
        refine fg_RX0_287 E hW r1453412 dX0_drawOf_21 (fun a1454392 m1454393 r1454394 => ?_)
        refine lv_iload hx hb dX0_drawOf_24 (lv_at hl 0 rfl) ?_
        refine gl_221 E hW r1454394 ⟨by omega, by omega⟩ dX0_drawOf_26 (fun o1454395 m1454397 k1454396 => ?_)
        rcases o1454395 with _ | a1454398
        · have hl : lv_has ls 9 [(4, .int y1453406), (2, .long y1453408), (0, .ref h0), (1, .int u1)] := hl
          show W p l e ({ frames := 4, cells := 0, slots := 0, locals := 117 }) s m ([.ref h0, .int u1] : List Value).toArray below meth c _ _ 0 0 (MQ below (QT (po_X0_drawOf kp L f0 h0 u1) G cI cJ cZ cD cR cT A kp L) ([.ref h0, .int u1] : List Value).toArray s 0 0 A) (F0 m 27 ls [.null])
          refine lv_astoreN (lv' := [(5, .null), (4, .int y1453406), (2, .long y1453408), (0, .ref h0), (1, .int u1)]) hx hb dX0_drawOf_27 hl (by decide) rfl (fun ls hl => ?_)
          refine lv_iconst (v := 0) hx hb dX0_drawOf_29 (by decide) ?_
          refine lv_istore (lv' := [(6, .int 0), (5, .null), (4, .int y1453406), (2, .long y1453408), (0, .ref h0), (1, .int u1)]) hx hb dX0_drawOf_30 hl (by decide) rfl (fun ls hl => ?_)
          have L1454414 : ∀ (n : Nat), ∀ (f1454407 : Nat → va_E) (y1454411 : Int32) (y1454413 : Int64) (m1454408 : oI (f1454407 a1453410) 0 = y1453413) (m1454409 : oR (f1454407 a1453410) 1 = a1454392) (m1454410 : oR (f1454407 h0) 4 = a1453410) (b1454412 : (0 : Int) ≤ y1454411.toInt ∧ y1454411.toInt ≤ 0) (hm : (1 : Int) ≤ n) (H : Heap) (locs : List Loc) (ls : Array Slot), WS G cI cJ cZ cD cR cT A kp L f1454407 s H locs → FM kp L ms_X0_drawOf f0 f1454407 → lv_has ls 9 [(6, .int y1454411), (5, .null), (4, .int y1453406), (2, .long y1454413), (0, .ref h0), (1, .int u1)] → W p l e ({ frames := 4, cells := 0, slots := 0, locals := 117 }) s m ([.ref h0, .int u1] : List Value).toArray below meth c H locs 0 0 (MQ below (QT (po_X0_drawOf kp L f0 h0 u1) G cI cJ cZ cD cR cT A kp L) ([.ref h0, .int u1] : List Value).toArray s 0 0 A) (F0 m 32 ls []) := by
            intro n
            induction n with
            | zero =>
              intro f1454407 y1454411 y1454413 m1454408 m1454409 m1454410 b1454412 hm H locs ls hW hF hl
              exfalso; omega
            | succ n ih =>
              intro f1454407 y1454411 y1454413 m1454408 m1454409 m1454410 b1454412 hm H locs ls hW hF hl
              have ih32 := ih
              refine lv_aloadN hx hb dX0_drawOf_32 (lv_at hl 1 rfl) ?_
              refine lv_ifnullN (tgt := 111) hx hb dX0_drawOf_34 (by decide) ?_
              refine q_iinc hx hb dX0_drawOf_111 hl (k := 2) rfl rfl rfl (by omega) (by decide) (fun i1454415 ls h1454416 hl => ?_)
              have hl : lv_has ls 9 [(4, .int i1454415), (6, .int y1454411), (5, .null), (2, .long y1454413), (0, .ref h0), (1, .int u1)] := hl
              refine lv_goto (tgt := 5) hx hb dX0_drawOf_114 (by decide) ?_
              exact ih5 f1454407 i1454415 y1454413 (by omega) (by omega) _ _ _ hW hF (lv_sub hl [0, 3, 4, 5] rfl)
          have hk1454417 : (0 : Int32).toInt = 0 := rfl
          exact L1454414 1 f1453405 0 y1453408 m1453414 m1454393 m1454390 (by decide) (by omega) _ _ _ hW hF (lv_sub hl [0, 1, 2, 3, 4, 5] rfl)
        · have r1454399 : RK kp L a1454398 9 := k1454396 _ rfl
          have hl : lv_has ls 9 [(4, .int y1453406), (2, .long y1453408), (0, .ref h0), (1, .int u1)] := hl
          show W p l e ({ frames := 4, cells := 0, slots := 0, locals := 117 }) s m ([.ref h0, .int u1] : List Value).toArray below meth c _ _ 0 0 (MQ below (QT (po_X0_drawOf kp L f0 h0 u1) G cI cJ cZ cD cR cT A kp L) ([.ref h0, .int u1] : List Value).toArray s 0 0 A) (F0 m 27 ls [.ref a1454398])
          refine lv_astore (lv' := [(5, .ref a1454398), (4, .int y1453406), (2, .long y1453408), (0, .ref h0), (1, .int u1)]) hx hb dX0_drawOf_27 hl (by decide) rfl (fun ls hl => ?_)
          refine lv_iconst (v := 0) hx hb dX0_drawOf_29 (by decide) ?_
          refine lv_istore (lv' := [(6, .int 0), (5, .ref a1454398), (4, .int y1453406), (2, .long y1453408), (0, .ref h0), (1, .int u1)]) hx hb dX0_drawOf_30 hl (by decide) rfl (fun ls hl => ?_)
          have L1455241 : ∀ (n : Nat), ∀ (f1455234 : Nat → va_E) (y1455238 : Int32) (y1455240 : Int64) (m1455235 : oI (f1455234 a1453410) 0 = y1453413) (m1455236 : oR (f1455234 a1453410) 1 = a1454392) (m1455237 : oR (f1455234 h0) 4 = a1453410) (b1455239 : (0 : Int) ≤ y1455238.toInt ∧ y1455238.toInt ≤ 12) (hm : (13 : Int) - y1455238.toInt ≤ n) (H : Heap) (locs : List Loc) (ls : Array Slot), WS G cI cJ cZ cD cR cT A kp L f1455234 s H locs → FM kp L ms_X0_drawOf f0 f1455234 → lv_has ls 9 [(6, .int y1455238), (5, .ref a1454398), (4, .int y1453406), (2, .long y1455240), (0, .ref h0), (1, .int u1)] → W p l e ({ frames := 4, cells := 0, slots := 0, locals := 117 }) s m ([.ref h0, .int u1] : List Value).toArray below meth c H locs 0 0 (MQ below (QT (po_X0_drawOf kp L f0 h0 u1) G cI cJ cZ cD cR cT A kp L) ([.ref h0, .int u1] : List Value).toArray s 0 0 A) (F0 m 32 ls []) := by
            intro n
            induction n with
            | zero =>
              intro f1455234 y1455238 y1455240 m1455235 m1455236 m1455237 b1455239 hm H locs ls hW hF hl
              have hz := i32_b y1455238
              exfalso; omega
            | succ n ih =>
              intro f1455234 y1455238 y1455240 m1455235 m1455236 m1455237 b1455239 hm H locs ls hW hF hl
              have ih32 := ih
              refine lv_aload hx hb dX0_drawOf_32 (lv_at hl 1 rfl) ?_
              refine lv_ifnull hx hb dX0_drawOf_34 ?_
              refine lv_iload hx hb dX0_drawOf_37 (lv_at hl 0 rfl) ?_
              refine lv_aload hx hb dX0_drawOf_39 (lv_at hl 1 rfl) ?_
              refine fg_RX0_291 E hW r1454399 dX0_drawOf_41 (fun y1455242 m1455243 b1455244 => ?_)
              refine q_icmp_ge (tgt := 111) hx hb dX0_drawOf_44 (by decide) rfl rfl (fun c1455302 => ?_) (fun c1455302 => ?_)
              · refine q_iinc hx hb dX0_drawOf_111 hl (k := 2) rfl rfl rfl (by omega) (by decide) (fun i1455303 ls h1455304 hl => ?_)
                have hl : lv_has ls 9 [(4, .int i1455303), (6, .int y1455238), (5, .ref a1454398), (2, .long y1455240), (0, .ref h0), (1, .int u1)] := hl
                refine lv_goto (tgt := 5) hx hb dX0_drawOf_114 (by decide) ?_
                exact ih5 f1455234 i1455303 y1455240 (by omega) (by omega) _ _ _ hW hF (lv_sub hl [0, 3, 4, 5] rfl)
              · refine lv_aload hx hb dX0_drawOf_47 (lv_at hl 1 rfl) ?_
                refine fg_RX0_296 E hW r1454399 dX0_drawOf_49 (fun a1455305 m1455306 r1455307 => ?_)
                refine lv_iload hx hb dX0_drawOf_52 (lv_at hl 0 rfl) ?_
                refine gl_643 E hW r1455307 ⟨by omega, by omega⟩ dX0_drawOf_54 (fun y1455308 m1455309 => ?_)
                refine lv_sipush (v := 261) hx hb dX0_drawOf_55 (by decide) ?_
                have J1455338 : ∀ (f1455331 : Nat → va_E) (y1455337 : Int64) (m1455332 : oI (f1455331 a1453410) 0 = y1453413) (m1455333 : oR (f1455331 a1453410) 1 = a1454392) (m1455334 : oI (f1455331 a1454398) 1 = y1455242) (m1455335 : oR (f1455331 a1454398) 3 = a1455305) (m1455336 : oR (f1455331 h0) 4 = a1453410) (H : Heap) (locs : List Loc) (ls : Array Slot), WS G cI cJ cZ cD cR cT A kp L f1455331 s H locs → FM kp L ms_X0_drawOf f0 f1455331 → lv_has ls 9 [(6, .int y1455238), (5, .ref a1454398), (4, .int y1453406), (2, .long y1455337), (0, .ref h0), (1, .int u1)] → W p l e ({ frames := 4, cells := 0, slots := 0, locals := 117 }) s m ([.ref h0, .int u1] : List Value).toArray below meth c H locs 0 0 (MQ below (QT (po_X0_drawOf kp L f0 h0 u1) G cI cJ cZ cD cR cT A kp L) ([.ref h0, .int u1] : List Value).toArray s 0 0 A) (F0 m 105 ls []) := by
                  intro f1455331 y1455337 m1455332 m1455333 m1455334 m1455335 m1455336 H locs ls hW hF hl
                  refine q_iinc hx hb dX0_drawOf_105 hl (k := 0) rfl rfl rfl (by omega) (by decide) (fun i1455339 ls h1455340 hl => ?_)
                  have hl : lv_has ls 9 [(6, .int i1455339), (5, .ref a1454398), (4, .int y1453406), (2, .long y1455337), (0, .ref h0), (1, .int u1)] := hl
                  refine lv_goto (tgt := 32) hx hb dX0_drawOf_108 (by decide) ?_
                  exact ih32 f1455331 i1455339 y1455337 m1455332 m1455333 m1455336 (by omega) (by omega) _ _ _ hW hF (lv_sub hl [0, 1, 2, 3, 4, 5] rfl)
                refine q_icmp_ne (Y := 261) (tgt := 105) hx hb dX0_drawOf_58 (by decide) rfl rfl (fun c1455341 => ?_) (fun c1455341 => ?_)
                · exact J1455338 f1455234 y1455240 m1455235 m1455236 m1455243 m1455306 m1455237 _ _ _ hW hF (lv_sub hl [0, 1, 2, 3, 4, 5] rfl)
                · refine lv_aload_n hx hb dX0_drawOf_61 rfl (lv_at hl 4 rfl) ?_
                  refine fg_RX0_42 E hW rh0 dX0_drawOf_62 (fun a1455342 m1455343 r1455344 => ?_)
                  obtain rfl : a1453410 = a1455342 := (m1455237).symm.trans m1455343
                  refine lv_iload hx hb dX0_drawOf_65 (lv_at hl 2 rfl) ?_
                  refine lv_iload hx hb dX0_drawOf_67 (lv_at hl 0 rfl) ?_
                  refine t_callV (As := [.int y1453406, .int y1455238]) (rest := []) E hW (c_X2_isInForce l G cI cJ cZ cD cR cT kp L f1455234 hW.2.2.2 _ a1453410 y1453406 y1455238 r1453412 (by omega) (by omega)) r1453412 (by decide) rfl wk_X2_isInForce tw_716 rfl ⟨Nat.le_of_ble_eq_true rfl, Nat.le_of_ble_eq_true rfl⟩ ⟨rfl, rfl⟩ hl.1 rfl (Nat.le_of_ble_eq_true rfl) dX0_drawOf_69 ⟨Nat.le_of_ble_eq_true rfl, Nat.le_of_ble_eq_true rfl⟩ (fun v1455345 f1455346 H locs q1455347 hW => ?_)
                  obtain ⟨⟨x1455349, rfl, p1455350⟩, g1455348⟩ := q1455347
                  have hF := FM.tr hF g1455348 rfl
                  refine q_if_eq (tgt := 105) hx hb dX0_drawOf_72 (by decide) rfl (fun c1455351 => ?_) (fun c1455351 => ?_)
                  · exact J1455338 f1455346 y1455240 ((fm_I g1455348 r1453412 rfl).trans m1455235) ((fm_R g1455348 r1453412 rfl).trans m1455236) ((fm_I g1455348 r1454399 rfl).trans m1455243) ((fm_R g1455348 r1454399 rfl).trans m1455306) ((fm_R g1455348 rh0 rfl).trans m1455343) _ _ _ hW hF (lv_sub hl [0, 1, 2, 3, 4, 5] rfl)
                  · refine lv_aload_n hx hb dX0_drawOf_75 rfl (lv_at hl 4 rfl) ?_
                    refine lv_aload hx hb dX0_drawOf_76 (lv_at hl 1 rfl) ?_
                    refine lv_iload hx hb dX0_drawOf_78 (lv_at hl 0 rfl) ?_
                    refine lv_iload_n hx hb dX0_drawOf_80 rfl (lv_at hl 5 rfl) ?_
                    refine lv_iconst (v := (-1)) hx hb dX0_drawOf_81 (by decide) ?_
                    refine t_callV (As := [.ref a1454398, .int y1455238, .int u1, .int (-1)]) (rest := []) E hW (c_X0_ask l G cI cJ cZ cD cR cT kp L f1455346 hW.2.2.2 _ h0 a1454398 y1455238 u1 (-1) rh0 r1454399 (by omega) (by omega) (by decide) (by rw [((fm_I g1455348 r1454399 rfl).trans m1455243)]; omega)) rh0 (by decide) rfl wk_X0_ask tw_717 rfl ⟨Nat.le_of_ble_eq_true rfl, Nat.le_of_ble_eq_true rfl⟩ ⟨rfl, rfl⟩ hl.1 rfl (Nat.le_of_ble_eq_true rfl) dX0_drawOf_82 ⟨Nat.le_of_ble_eq_true rfl, Nat.le_of_ble_eq_true rfl⟩ (fun v1455352 f1455353 H locs q1455354 hW => ?_)
                    obtain ⟨⟨x1455356, rfl, p1455357⟩, g1455355⟩ := q1455354
                    clear p1455357
                    have hF := FM.tr hF g1455355 rfl
                    refine lv_lstore (lv' := [(7, .long x1455356), (6, .int y1455238), (5, .ref a1454398), (4, .int y1453406), (2, .long y1455240), (0, .ref h0), (1, .int u1)]) hx hb dX0_drawOf_85 hl (by decide) rfl (fun ls hl => ?_)
                    refine lv_lload_n hx hb dX0_drawOf_87 rfl (lv_at hl 4 rfl) ?_
                    refine lv_lload hx hb dX0_drawOf_88 (lv_at hl 0 rfl) ?_
                    refine lv_ldc2 (v := (-4000000000000000000)) hx hb hown (hts _ tw_721) dX0_drawOf_90 ?_
                    have J1455359 : ∀ (y1455358 : Int64) (H : Heap) (locs : List Loc) (ls : Array Slot), WS G cI cJ cZ cD cR cT A kp L f1455353 s H locs → FM kp L ms_X0_drawOf f0 f1455353 → lv_has ls 9 [(7, .long x1455356), (6, .int y1455238), (5, .ref a1454398), (4, .int y1453406), (2, .long y1455240), (0, .ref h0), (1, .int u1)] → W p l e ({ frames := 4, cells := 0, slots := 0, locals := 117 }) s m ([.ref h0, .int u1] : List Value).toArray below meth c H locs 0 0 (MQ below (QT (po_X0_drawOf kp L f0 h0 u1) G cI cJ cZ cD cR cT A kp L) ([.ref h0, .int u1] : List Value).toArray s 0 0 A) (F0 m 103 ls [.long y1455358, .long y1455240]) := by
                      intro y1455358 H locs ls hW hF hl
                      clear p1455350 c1455351
                      refine u_ladd hx hb dX0_drawOf_103 (fun x1455360 => ?_)
                      refine lv_lstore_n (lv' := [(2, .long x1455360), (7, .long x1455356), (6, .int y1455238), (5, .ref a1454398), (4, .int y1453406), (0, .ref h0), (1, .int u1)]) hx hb dX0_drawOf_104 rfl hl (by decide) rfl (fun ls hl => ?_)
                      exact J1455338 f1455353 x1455360 ((fm_I g1455355 r1453412 rfl).trans ((fm_I g1455348 r1453412 rfl).trans m1455235)) ((fm_R g1455355 r1453412 rfl).trans ((fm_R g1455348 r1453412 rfl).trans m1455236)) ((fm_I g1455355 r1454399 rfl).trans ((fm_I g1455348 r1454399 rfl).trans m1455243)) ((fm_R g1455355 r1454399 rfl).trans ((fm_R g1455348 r1454399 rfl).trans m1455306)) ((fm_R g1455355 rh0 rfl).trans ((fm_R g1455348 rh0 rfl).trans m1455343)) _ _ _ hW hF (lv_sub hl [2, 3, 4, 0, 5, 6] rfl)
                    refine q_lcmp_ne (Y := -4000000000000000000) (tgt := 101) hx hb dX0_drawOf_93 dX0_drawOf_94 (by decide) rfl rfl (fun c1455361 => ?_) (fun c1455361 => ?_)
                    · refine lv_lload hx hb dX0_drawOf_101 (lv_at hl 0 rfl) ?_
                      exact J1455359 x1455356  _ _ _ hW hF (lv_sub hl [0, 1, 2, 3, 4, 5, 6] rfl)
                    · refine lv_lconst (v := 0) hx hb dX0_drawOf_97 (by decide) ?_
                      refine lv_goto (tgt := 103) hx hb dX0_drawOf_98 (by decide) ?_
                      exact J1455359 0  _ _ _ hW hF (lv_sub hl [0, 1, 2, 3, 4, 5, 6] rfl)
          have hk1455362 : (0 : Int32).toInt = 0 := rfl
          exact L1455241 13 f1453405 0 y1453408 m1453414 m1454393 m1454390 (by decide) (by omega) _ _ _ hW hF (lv_sub hl [0, 1, 2, 3, 4, 5] rfl)
  have hk1455363 : (0 : Int32).toInt = 0 := rfl
  have hk1455364 : (0 : Int64).toInt = 0 := rfl
  exact L1453409 21 f0 0 0 (by decide) (by omega) _ _ _ hW hF (lv_sub hl [0, 1, 2, 3] rfl)
def ms_X0_falls : List (Nat × Nat) := []
def po_X0_falls (kp : Nat → Nat) (L : List Nat) (f0 : Nat → va_E) (u1 : Int64) (u2 : Int64) (u3 : Int64) (u4 : Int32) : Option Value → (Nat → va_E) → Prop := fun v f => (∃ r : Int32, v = some (.int r) ∧ ((0 : Int) ≤ r.toInt ∧ r.toInt ≤ 1)) ∧ FM kp L ms_X0_falls f0 f
set_option maxHeartbeats 4000000 in
set_option maxRecDepth 100000 in
theorem c_X0_falls (l : Launch) (G : va_G) (cI cJ cZ cD cR cT : ClassId) (kp : Nat → Nat) (L : List Nat) (f0 : Nat → va_E) (hTH : TH cI cJ cZ cD cR cT kp L f0) (sz : Nat) (u1 : Int64) (u2 : Int64) (u3 : Int64) (u4 : Int32) (pu4 : (-29 : Int) ≤ u4.toInt ∧ u4.toInt ≤ 38) : Met l yX0_falls (Cond.code yX0_falls cX0_falls 10 (some .boolean) :: wTab) ({ frames := 1, cells := 0, slots := 0, locals := 40 }) (va_Pc [.long u1, .long u2, .long u3, .int u4] (PreW G (tys6 cI cJ cZ cD cR cT) (va_pl L f0) sz)) (QT (po_X0_falls kp L f0 u1 u2 u3 u4) G cI cJ cZ cD cR cT (va_A (va_pl L f0) sz) kp L) 0 0 (va_A (va_pl L f0) sz) := by
  refine metT (by decide) (Nat.le_of_ble_eq_true rfl) hTH ?_
  intro p e s m below meth c A ls E hW hl
  obtain ⟨hx, hb, -, hml, hown, hts, -, -, -⟩ := id E
  have hF : FM kp L ms_X0_falls f0 f0 := FM.rf
  have hl : lv_has ls 10 [(0, .long u1), (2, .long u2), (4, .long u3), (6, .int u4)] := hl
  refine lv_lload_n hx hb dX0_falls_0 rfl (lv_at hl 0 rfl) ?_
  refine lv_lstore (lv' := [(7, .long u1), (0, .long u1), (2, .long u2), (4, .long u3), (6, .int u4)]) hx hb dX0_falls_1 hl (by decide) rfl (fun ls hl => ?_)
  refine lv_iconst (v := 0) hx hb dX0_falls_3 (by decide) ?_
  refine lv_istore (lv' := [(9, .int 0), (7, .long u1), (0, .long u1), (2, .long u2), (4, .long u3), (6, .int u4)]) hx hb dX0_falls_4 hl (by decide) rfl (fun ls hl => ?_)
  have L1455530 : ∀ (n : Nat), ∀ (y1455527 : Int32) (y1455529 : Int64) (b1455528 : (0 : Int) ≤ y1455527.toInt ∧ y1455527.toInt ≤ 39) (hm : (40 : Int) - y1455527.toInt ≤ n) (H : Heap) (locs : List Loc) (ls : Array Slot), WS G cI cJ cZ cD cR cT A kp L f0 s H locs → FM kp L ms_X0_falls f0 f0 → lv_has ls 10 [(9, .int y1455527), (7, .long y1455529), (0, .long u1), (2, .long u2), (4, .long u3), (6, .int u4)] → W p l e ({ frames := 1, cells := 0, slots := 0, locals := 40 }) s m ([.long u1, .long u2, .long u3, .int u4] : List Value).toArray below meth c H locs 0 0 (MQ below (QT (po_X0_falls kp L f0 u1 u2 u3 u4) G cI cJ cZ cD cR cT A kp L) ([.long u1, .long u2, .long u3, .int u4] : List Value).toArray s 0 0 A) (F0 m 6 ls []) := by
    intro n
    induction n with
    | zero =>
      intro y1455527 y1455529 b1455528 hm H locs ls hW hF hl
      have hz := i32_b y1455527
      exfalso; omega
    | succ n ih =>
      intro y1455527 y1455529 b1455528 hm H locs ls hW hF hl
      have ih6 := ih
      refine lv_iload hx hb dX0_falls_6 (lv_at hl 0 rfl) ?_
      refine lv_iload hx hb dX0_falls_8 (lv_at hl 5 rfl) ?_
      refine q_icmp_ge (tgt := 37) hx hb dX0_falls_10 (by decide) rfl rfl (fun c1455531 => ?_) (fun c1455531 => ?_)
      · refine lv_iconst (v := 0) hx hb dX0_falls_37 (by decide) ?_
        exact e_Z E hW rfl (by decide) ⟨⟨_, rfl, (by have hk : (0 : Int32).toInt = 0 := rfl; first | decide | omega)⟩, hF⟩ dX0_falls_38
      · refine lv_lload hx hb dX0_falls_13 (lv_at hl 1 rfl) ?_
        refine lv_lload_n hx hb dX0_falls_15 rfl (lv_at hl 3 rfl) ?_
        refine lv_lload hx hb dX0_falls_16 (lv_at hl 4 rfl) ?_
        refine u_lsub hx hb dX0_falls_18 (fun x1455532 => ?_)
        refine u_ladd hx hb dX0_falls_19 (fun x1455533 => ?_)
        refine lv_lstore (lv' := [(7, .long x1455533), (9, .int y1455527), (0, .long u1), (2, .long u2), (4, .long u3), (6, .int u4)]) hx hb dX0_falls_20 hl (by decide) rfl (fun ls hl => ?_)
        refine lv_lload hx hb dX0_falls_22 (lv_at hl 0 rfl) ?_
        refine lv_lconst (v := 0) hx hb dX0_falls_24 (by decide) ?_
        refine q_lcmp_ge (Y := 0) (tgt := 31) hx hb dX0_falls_25 dX0_falls_26 (by decide) rfl rfl (fun c1455534 => ?_) (fun c1455534 => ?_)
        · refine q_iinc hx hb dX0_falls_31 hl (k := 1) rfl rfl rfl (by omega) (by decide) (fun i1455535 ls h1455536 hl => ?_)
          have hl : lv_has ls 10 [(9, .int i1455535), (7, .long x1455533), (0, .long u1), (2, .long u2), (4, .long u3), (6, .int u4)] := hl
          refine lv_goto (tgt := 6) hx hb dX0_falls_34 (by decide) ?_
          exact ih6 i1455535 x1455533 (by omega) (by omega) _ _ _ hW hF (lv_sub hl [0, 1, 2, 3, 4, 5] rfl)
        · refine lv_iconst (v := 1) hx hb dX0_falls_29 (by decide) ?_
          exact e_Z E hW rfl (by decide) ⟨⟨_, rfl, (by have hk : (1 : Int32).toInt = 1 := rfl; first | decide | omega)⟩, hF⟩ dX0_falls_30
  have hk1455537 : (0 : Int32).toInt = 0 := rfl
  exact L1455530 40 0 u1 (by decide) (by omega) _ _ _ hW hF (lv_sub hl [0, 1, 2, 3, 4, 5] rfl)
def ms_X0_takeMostSpared : List (Nat × Nat) := [(116, 0)]
def po_X0_takeMostSpared (kp : Nat → Nat) (L : List Nat) (f0 : Nat → va_E) (h0 : Nat) (u1 : Int32) : Option Value → (Nat → va_E) → Prop := fun v f => (∃ r : Int32, v = some (.int r) ∧ ((0 : Int) ≤ r.toInt)) ∧ FM kp L ms_X0_takeMostSpared f0 f
set_option maxHeartbeats 4000000 in
set_option maxRecDepth 100000 in
theorem c_X0_takeMostSpared (l : Launch) (G : va_G) (cI cJ cZ cD cR cT : ClassId) (kp : Nat → Nat) (L : List Nat) (f0 : Nat → va_E) (hTH : TH cI cJ cZ cD cR cT kp L f0) (sz : Nat) (h0 : Nat) (u1 : Int32) (rh0 : RK kp L h0 0) (pu1 : (0 : Int) ≤ u1.toInt ∧ u1.toInt ≤ 40) : Met l yX0_takeMostSpared (Cond.code yX0_takeMostSpared cX0_takeMostSpared 5 (some .int) :: wTab) ({ frames := 1, cells := 0, slots := 0, locals := 40 }) (va_Pc [.ref h0, .int u1] (PreW G (tys6 cI cJ cZ cD cR cT) (va_pl L f0) sz)) (QT (po_X0_takeMostSpared kp L f0 h0 u1) G cI cJ cZ cD cR cT (va_A (va_pl L f0) sz) kp L) 0 0 (va_A (va_pl L f0) sz) := by
  refine metT (by decide) (Nat.le_of_ble_eq_true rfl) hTH ?_
  intro p e s m below meth c A ls E hW hl
  obtain ⟨hx, hb, -, hml, hown, hts, -, -, -⟩ := id E
  have hF : FM kp L ms_X0_takeMostSpared f0 f0 := FM.rf
  have hl : lv_has ls 5 [(0, .ref h0), (1, .int u1)] := hl
  refine lv_iconst (v := 0) hx hb dX0_takeMostSpared_0 (by decide) ?_
  refine lv_istore_n (lv' := [(2, .int 0), (0, .ref h0), (1, .int u1)]) hx hb dX0_takeMostSpared_1 rfl hl (by decide) rfl (fun ls hl => ?_)
  refine lv_iconst (v := 0) hx hb dX0_takeMostSpared_2 (by decide) ?_
  refine lv_istore_n (lv' := [(3, .int 0), (2, .int 0), (0, .ref h0), (1, .int u1)]) hx hb dX0_takeMostSpared_3 rfl hl (by decide) rfl (fun ls hl => ?_)
  refine lv_iconst (v := 0) hx hb dX0_takeMostSpared_4 (by decide) ?_
  refine lv_istore (lv' := [(4, .int 0), (3, .int 0), (2, .int 0), (0, .ref h0), (1, .int u1)]) hx hb dX0_takeMostSpared_5 hl (by decide) rfl (fun ls hl => ?_)
  have L1456189 : ∀ (n : Nat), ∀ (y1456183 : Int32) (y1456185 : Int32) (y1456187 : Int32) (b1456184 : (0 : Int) ≤ y1456183.toInt ∧ y1456183.toInt ≤ 40) (b1456186 : (0 : Int) ≤ y1456185.toInt ∧ y1456185.toInt ≤ 39) (b1456188 : (0 : Int) ≤ y1456187.toInt) (hm : (41 : Int) - y1456183.toInt ≤ n) (H : Heap) (locs : List Loc) (ls : Array Slot), WS G cI cJ cZ cD cR cT A kp L f0 s H locs → FM kp L ms_X0_takeMostSpared f0 f0 → lv_has ls 5 [(4, .int y1456183), (3, .int y1456185), (2, .int y1456187), (0, .ref h0), (1, .int u1)] → W p l e ({ frames := 1, cells := 0, slots := 0, locals := 40 }) s m ([.ref h0, .int u1] : List Value).toArray below meth c H locs 0 0 (MQ below (QT (po_X0_takeMostSpared kp L f0 h0 u1) G cI cJ cZ cD cR cT A kp L) ([.ref h0, .int u1] : List Value).toArray s 0 0 A) (F0 m 7 ls []) := by
    intro n
    induction n with
    | zero =>
      intro y1456183 y1456185 y1456187 b1456184 b1456186 b1456188 hm H locs ls hW hF hl
      have hz := i32_b y1456183
      exfalso; omega
    | succ n ih =>
      intro y1456183 y1456185 y1456187 b1456184 b1456186 b1456188 hm H locs ls hW hF hl
      have ih7 := ih
      refine lv_iload hx hb dX0_takeMostSpared_7 (lv_at hl 0 rfl) ?_
      refine lv_iload_n hx hb dX0_takeMostSpared_9 rfl (lv_at hl 4 rfl) ?_
      refine q_icmp_ge (tgt := 41) hx hb dX0_takeMostSpared_10 (by decide) rfl rfl (fun c1456217 => ?_) (fun c1456217 => ?_)
      · refine lv_aload_n hx hb dX0_takeMostSpared_41 rfl (lv_at hl 3 rfl) ?_
        refine fg_RX0_61 E hW rh0 dX0_takeMostSpared_42 (fun a1456218 m1456219 r1456220 => ?_)
        refine lv_iload_n hx hb dX0_takeMostSpared_45 rfl (lv_at hl 1 rfl) ?_
        refine lv_iconst (v := 0) hx hb dX0_takeMostSpared_46 (by decide) ?_
        refine gs_116 E hW r1456220 ⟨by omega, by omega⟩ dX0_takeMostSpared_47 (fun f1456221 H locs e1456222 n1456223 g1456224 hW => ?_)
        have hF := FM.tr hF g1456224 rfl
        refine lv_iload_n hx hb dX0_takeMostSpared_48 rfl (lv_at hl 2 rfl) ?_
        exact e_I E hW rfl ⟨⟨_, rfl, (by first | omega | trivial)⟩, hF⟩ dX0_takeMostSpared_49
      · refine lv_aload_n hx hb dX0_takeMostSpared_13 rfl (lv_at hl 3 rfl) ?_
        refine fg_RX0_61 E hW rh0 dX0_takeMostSpared_14 (fun a1456225 m1456226 r1456227 => ?_)
        refine lv_iload hx hb dX0_takeMostSpared_17 (lv_at hl 0 rfl) ?_
        refine gl_116 E hW r1456227 ⟨by omega, by omega⟩ dX0_takeMostSpared_19 (fun y1456228 m1456229 => ?_)
        refine lv_iload_n hx hb dX0_takeMostSpared_20 rfl (lv_at hl 2 rfl) ?_
        have J1456241 : ∀ (y1456237 : Int32) (y1456239 : Int32) (b1456238 : (0 : Int) ≤ y1456237.toInt ∧ y1456237.toInt ≤ 39) (b1456240 : (0 : Int) ≤ y1456239.toInt) (H : Heap) (locs : List Loc) (ls : Array Slot), WS G cI cJ cZ cD cR cT A kp L f0 s H locs → FM kp L ms_X0_takeMostSpared f0 f0 → lv_has ls 5 [(4, .int y1456183), (3, .int y1456237), (2, .int y1456239), (0, .ref h0), (1, .int u1)] → W p l e ({ frames := 1, cells := 0, slots := 0, locals := 40 }) s m ([.ref h0, .int u1] : List Value).toArray below meth c H locs 0 0 (MQ below (QT (po_X0_takeMostSpared kp L f0 h0 u1) G cI cJ cZ cD cR cT A kp L) ([.ref h0, .int u1] : List Value).toArray s 0 0 A) (F0 m 35 ls []) := by
          intro y1456237 y1456239 b1456238 b1456240 H locs ls hW hF hl
          clear b1456186 b1456188
          refine q_iinc hx hb dX0_takeMostSpared_35 hl (k := 0) rfl rfl rfl (by omega) (by decide) (fun i1456242 ls h1456243 hl => ?_)
          have hl : lv_has ls 5 [(4, .int i1456242), (3, .int y1456237), (2, .int y1456239), (0, .ref h0), (1, .int u1)] := hl
          refine lv_goto (tgt := 7) hx hb dX0_takeMostSpared_38 (by decide) ?_
          exact ih7 i1456242 y1456237 y1456239 (by omega) (by omega) (by omega) (by omega) _ _ _ hW hF (lv_sub hl [0, 1, 2, 3, 4] rfl)
        refine q_icmp_le (tgt := 35) hx hb dX0_takeMostSpared_21 (by decide) rfl rfl (fun c1456244 => ?_) (fun c1456244 => ?_)
        · exact J1456241 y1456185 y1456187 (by omega) (by omega) _ _ _ hW hF (lv_sub hl [0, 1, 2, 3, 4] rfl)
        · have hb1456245 : y1456187.toInt ≤ 2147483646 := by have := i32_b y1456228; omega
          refine lv_aload_n hx hb dX0_takeMostSpared_24 rfl (lv_at hl 3 rfl) ?_
          refine fg_RX0_61 E hW rh0 dX0_takeMostSpared_25 (fun a1456246 m1456247 r1456248 => ?_)
          obtain rfl : a1456225 = a1456246 := (m1456226).symm.trans m1456247
          refine lv_iload hx hb dX0_takeMostSpared_28 (lv_at hl 0 rfl) ?_
          refine gl_116 E hW r1456227 ⟨by omega, by omega⟩ dX0_takeMostSpared_30 (fun y1456249 m1456250 => ?_)
          obtain rfl : y1456228 = y1456249 := (m1456229).symm.trans m1456250
          refine lv_istore_n (lv' := [(2, .int y1456228), (4, .int y1456183), (3, .int y1456185), (0, .ref h0), (1, .int u1)]) hx hb dX0_takeMostSpared_31 rfl hl (by decide) rfl (fun ls hl => ?_)
          refine lv_iload hx hb dX0_takeMostSpared_32 (lv_at hl 1 rfl) ?_
          refine lv_istore_n (lv' := [(3, .int y1456183), (2, .int y1456228), (4, .int y1456183), (0, .ref h0), (1, .int u1)]) hx hb dX0_takeMostSpared_34 rfl hl (by decide) rfl (fun ls hl => ?_)
          exact J1456241 y1456183 y1456228 (by omega) (by omega) _ _ _ hW hF (lv_sub hl [2, 0, 1, 3, 4] rfl)
  have hk1456252 : (0 : Int32).toInt = 0 := rfl
  have hk1456253 : (0 : Int32).toInt = 0 := rfl
  have hk1456254 : (0 : Int32).toInt = 0 := rfl
  exact L1456189 41 0 0 0 (by decide) (by decide) (by decide) (by omega) _ _ _ hW hF (lv_sub hl [0, 1, 2, 3, 4] rfl)
def ms_X0_fewestKept : List (Nat × Nat) := [(115, 0), (116, 0)]
def po_X0_fewestKept (kp : Nat → Nat) (L : List Nat) (f0 : Nat → va_E) (h0 : Nat) (u1 : Int32) (u2 : Int32) : Option Value → (Nat → va_E) → Prop := fun v f => (∃ r : Int32, v = some (.int r) ∧ ((-1 : Int) ≤ r.toInt ∧ r.toInt ≤ 40)) ∧ FM kp L ms_X0_fewestKept f0 f
set_option maxHeartbeats 4000000 in
set_option maxRecDepth 100000 in
theorem c_X0_fewestKept (l : Launch) (G : va_G) (cI cJ cZ cD cR cT : ClassId) (kp : Nat → Nat) (L : List Nat) (f0 : Nat → va_E) (hTH : TH cI cJ cZ cD cR cT kp L f0) (sz : Nat) (h0 : Nat) (u1 : Int32) (u2 : Int32) (rh0 : RK kp L h0 0) (pu1 : (0 : Int) ≤ u1.toInt ∧ u1.toInt ≤ 7) (pu2 : (-29 : Int) ≤ u2.toInt ∧ u2.toInt ≤ 38) : Met l yX0_fewestKept (Cond.code yX0_fewestKept cX0_fewestKept 7 (some .int) :: wTab) ({ frames := 5, cells := 0, slots := 0, locals := 144 }) (va_Pc [.ref h0, .int u1, .int u2] (PreW G (tys6 cI cJ cZ cD cR cT) (va_pl L f0) sz)) (QT (po_X0_fewestKept kp L f0 h0 u1 u2) G cI cJ cZ cD cR cT (va_A (va_pl L f0) sz) kp L) 0 0 (va_A (va_pl L f0) sz) := by
  refine metT (by decide) (Nat.le_of_ble_eq_true rfl) hTH ?_
  intro p e s m below meth c A ls E hW hl
  obtain ⟨hx, hb, -, hml, hown, hts, -, -, -⟩ := id E
  have hF : FM kp L ms_X0_fewestKept f0 f0 := FM.rf
  have hl : lv_has ls 7 [(0, .ref h0), (1, .int u1), (2, .int u2)] := hl
  refine lv_lconst (v := 0) hx hb dX0_fewestKept_0 (by decide) ?_
  refine lv_lstore_n (lv' := [(3, .long 0), (0, .ref h0), (1, .int u1), (2, .int u2)]) hx hb dX0_fewestKept_1 rfl hl (by decide) rfl (fun ls hl => ?_)
  refine lv_iconst (v := 0) hx hb dX0_fewestKept_2 (by decide) ?_
  refine lv_istore (lv' := [(5, .int 0), (3, .long 0), (0, .ref h0), (1, .int u1), (2, .int u2)]) hx hb dX0_fewestKept_3 hl (by decide) rfl (fun ls hl => ?_)
  refine lv_iconst (v := 0) hx hb dX0_fewestKept_5 (by decide) ?_
  refine lv_istore (lv' := [(6, .int 0), (5, .int 0), (3, .long 0), (0, .ref h0), (1, .int u1), (2, .int u2)]) hx hb dX0_fewestKept_6 hl (by decide) rfl (fun ls hl => ?_)
  have L1459015 : ∀ (n : Nat), ∀ (f1459008 : Nat → va_E) (y1459009 : Int32) (y1459011 : Int32) (y1459013 : Int64) (b1459010 : (0 : Int) ≤ y1459009.toInt ∧ y1459009.toInt ≤ 40) (b1459012 : (0 : Int) ≤ y1459011.toInt ∧ y1459011.toInt ≤ 41) (v1459014 : y1459011.toInt ≤ y1459009.toInt) (hm : (41 : Int) - y1459009.toInt ≤ n) (H : Heap) (locs : List Loc) (ls : Array Slot), WS G cI cJ cZ cD cR cT A kp L f1459008 s H locs → FM kp L ms_X0_fewestKept f0 f1459008 → lv_has ls 7 [(6, .int y1459009), (5, .int y1459011), (3, .long y1459013), (0, .ref h0), (1, .int u1), (2, .int u2)] → W p l e ({ frames := 5, cells := 0, slots := 0, locals := 144 }) s m ([.ref h0, .int u1, .int u2] : List Value).toArray below meth c H locs 0 0 (MQ below (QT (po_X0_fewestKept kp L f0 h0 u1 u2) G cI cJ cZ cD cR cT A kp L) ([.ref h0, .int u1, .int u2] : List Value).toArray s 0 0 A) (F0 m 8 ls []) := by
    intro n
    induction n with
    | zero =>
      intro f1459008 y1459009 y1459011 y1459013 b1459010 b1459012 v1459014 hm H locs ls hW hF hl
      have hz := i32_b y1459009
      exfalso; omega
    | succ n ih =>
      intro f1459008 y1459009 y1459011 y1459013 b1459010 b1459012 v1459014 hm H locs ls hW hF hl
      have ih8 := ih
      refine lv_iload hx hb dX0_fewestKept_8 (lv_at hl 0 rfl) ?_
      refine lv_aload_n hx hb dX0_fewestKept_10 rfl (lv_at hl 3 rfl) ?_
      refine fg_RX0_21 E hW rh0 dX0_fewestKept_11 (fun a1459016 m1459017 r1459018 => ?_)
      refine fg_RX0_171 E hW r1459018 dX0_fewestKept_14 (fun y1459019 m1459020 b1459021 => ?_)
      refine q_icmp_ge (tgt := 93) hx hb dX0_fewestKept_17 (by decide) rfl rfl (fun c1459145 => ?_) (fun c1459145 => ?_)
      · refine lv_iconst (v := 0) hx hb dX0_fewestKept_93 (by decide) ?_
        refine lv_istore (lv' := [(6, .int 0), (5, .int y1459011), (3, .long y1459013), (0, .ref h0), (1, .int u1), (2, .int u2)]) hx hb dX0_fewestKept_94 hl (by decide) rfl (fun ls hl => ?_)
        have L1460152 : ∀ (n : Nat), ∀ (f1460146 : Nat → va_E) (y1460149 : Int32) (y1460151 : Int64) (m1460147 : oI (f1460146 a1459016) 0 = y1459019) (m1460148 : oR (f1460146 h0) 1 = a1459016) (b1460150 : (0 : Int) ≤ y1460149.toInt ∧ y1460149.toInt ≤ 41) (hm : (42 : Int) - y1460149.toInt ≤ n) (H : Heap) (locs : List Loc) (ls : Array Slot), WS G cI cJ cZ cD cR cT A kp L f1460146 s H locs → FM kp L ms_X0_fewestKept f0 f1460146 → lv_has ls 7 [(6, .int y1460149), (5, .int y1459011), (3, .long y1460151), (0, .ref h0), (1, .int u1), (2, .int u2)] → W p l e ({ frames := 5, cells := 0, slots := 0, locals := 144 }) s m ([.ref h0, .int u1, .int u2] : List Value).toArray below meth c H locs 0 0 (MQ below (QT (po_X0_fewestKept kp L f0 h0 u1 u2) G cI cJ cZ cD cR cT A kp L) ([.ref h0, .int u1, .int u2] : List Value).toArray s 0 0 A) (F0 m 96 ls []) := by
          intro n
          induction n with
          | zero =>
            intro f1460146 y1460149 y1460151 m1460147 m1460148 b1460150 hm H locs ls hW hF hl
            have hz := i32_b y1460149
            exfalso; omega
          | succ n ih =>
            intro f1460146 y1460149 y1460151 m1460147 m1460148 b1460150 hm H locs ls hW hF hl
            have ih96 := ih
            refine lv_iload hx hb dX0_fewestKept_96 (lv_at hl 0 rfl) ?_
            refine lv_iload hx hb dX0_fewestKept_98 (lv_at hl 1 rfl) ?_
            refine q_icmp_gt (tgt := 150) hx hb dX0_fewestKept_100 (by decide) rfl rfl (fun c1460153 => ?_) (fun c1460153 => ?_)
            · refine lv_iconst (v := (-1)) hx hb dX0_fewestKept_150 (by decide) ?_
              exact e_I E hW rfl ⟨⟨_, rfl, (by have hk : ((-1) : Int32).toInt = -1 := rfl; first | decide | omega)⟩, hF⟩ dX0_fewestKept_151
            · refine lv_aload_n hx hb dX0_fewestKept_103 rfl (lv_at hl 3 rfl) ?_
              refine fg_RX0_21 E hW rh0 dX0_fewestKept_104 (fun a1460154 m1460155 r1460156 => ?_)
              obtain rfl : a1459016 = a1460154 := (m1460148).symm.trans m1460155
              refine fg_RX0_201 E hW r1459018 dX0_fewestKept_107 (fun a1460157 m1460158 r1460159 => ?_)
              refine lv_iload_n hx hb dX0_fewestKept_110 rfl (lv_at hl 4 rfl) ?_
              refine gl_169 E hW r1460159 ⟨by omega, by omega⟩ dX0_fewestKept_111 (fun y1460160 m1460161 => ?_)
              refine q_i2l hx hb dX0_fewestKept_112 rfl (fun x1460163 h1460164 => ?_)
              have hb1460165 : -2147483648 ≤ x1460163.toInt ∧ x1460163.toInt ≤ 2147483647 := by have := i32_b y1460160; omega
              refine lv_lload_n hx hb dX0_fewestKept_113 rfl (lv_at hl 2 rfl) ?_
              refine lv_aload_n hx hb dX0_fewestKept_114 rfl (lv_at hl 3 rfl) ?_
              refine fg_RX0_21 E hW rh0 dX0_fewestKept_115 (fun a1460166 m1460167 r1460168 => ?_)
              obtain rfl : a1459016 = a1460166 := (m1460155).symm.trans m1460167
              refine fg_RX0_222 E hW r1459018 dX0_fewestKept_118 (fun a1460169 m1460170 r1460171 => ?_)
              refine lv_iload_n hx hb dX0_fewestKept_121 rfl (lv_at hl 4 rfl) ?_
              refine gl_170 E hW r1460171 ⟨by omega, by omega⟩ dX0_fewestKept_122 (fun y1460172 m1460173 => ?_)
              refine q_i2l hx hb dX0_fewestKept_123 rfl (fun x1460175 h1460176 => ?_)
              have hb1460177 : -2147483648 ≤ x1460175.toInt ∧ x1460175.toInt ≤ 2147483647 := by have := i32_b y1460172; omega
              refine lv_iload_n hx hb dX0_fewestKept_124 rfl (lv_at hl 5 rfl) ?_
              refine t_callS (As := [.long x1460163, .long y1460151, .long x1460175, .int u2]) (rest := []) E hW (c_X0_falls l G cI cJ cZ cD cR cT kp L f1460146 hW.2.2.2 _ x1460163 y1460151 x1460175 u2 (by omega)) wk_X0_falls tw_1219 rfl ⟨Nat.le_of_ble_eq_true rfl, Nat.le_of_ble_eq_true rfl⟩ ⟨rfl, rfl⟩ hl.1 rfl (Nat.le_of_ble_eq_true rfl) dX0_fewestKept_125 ⟨Nat.le_of_ble_eq_true rfl, Nat.le_of_ble_eq_true rfl⟩ (fun v1460178 f1460179 H locs q1460180 hW => ?_)
              obtain ⟨⟨x1460182, rfl, p1460183⟩, g1460181⟩ := q1460180
              have hF := FM.tr hF g1460181 rfl
              refine q_if_eq (tgt := 134) hx hb dX0_fewestKept_128 (by decide) rfl (fun c1460184 => ?_) (fun c1460184 => ?_)
              · refine lv_lload_n hx hb dX0_fewestKept_134 rfl (lv_at hl 2 rfl) ?_
                refine lv_aload_n hx hb dX0_fewestKept_135 rfl (lv_at hl 3 rfl) ?_
                refine lv_iload hx hb dX0_fewestKept_136 (lv_at hl 1 rfl) ?_
                refine t_callV (As := [.int y1459011]) (rest := [.long y1460151]) E hW (c_X0_takeMostSpared l G cI cJ cZ cD cR cT kp L f1460179 hW.2.2.2 _ h0 y1459011 rh0 (by omega)) rh0 (by decide) rfl wk_X0_takeMostSpared tw_1222 rfl ⟨Nat.le_of_ble_eq_true rfl, Nat.le_of_ble_eq_true rfl⟩ ⟨rfl, rfl⟩ hl.1 rfl (Nat.le_of_ble_eq_true rfl) dX0_fewestKept_138 ⟨Nat.le_of_ble_eq_true rfl, Nat.le_of_ble_eq_true rfl⟩ (fun v1460185 f1460186 H locs q1460187 hW => ?_)
                obtain ⟨⟨x1460189, rfl, p1460190⟩, g1460188⟩ := q1460187
                have hF := FM.tr hF g1460188 rfl
                refine q_i2l hx hb dX0_fewestKept_141 rfl (fun x1460191 h1460192 => ?_)
                have hb1460193 : -2147483648 ≤ x1460191.toInt ∧ x1460191.toInt ≤ 2147483647 := by have := i32_b x1460189; omega
                refine u_lsub hx hb dX0_fewestKept_142 (fun x1460194 => ?_)
                refine lv_lstore_n (lv' := [(3, .long x1460194), (6, .int y1460149), (5, .int y1459011), (0, .ref h0), (1, .int u1), (2, .int u2)]) hx hb dX0_fewestKept_143 rfl hl (by decide) rfl (fun ls hl => ?_)
                refine q_iinc hx hb dX0_fewestKept_144 hl (k := 1) rfl rfl rfl (by omega) (by decide) (fun i1460195 ls h1460196 hl => ?_)
                have hl : lv_has ls 7 [(6, .int i1460195), (3, .long x1460194), (5, .int y1459011), (0, .ref h0), (1, .int u1), (2, .int u2)] := hl
                refine lv_goto (tgt := 96) hx hb dX0_fewestKept_147 (by decide) ?_
                exact ih96 f1460186 i1460195 x1460194 ((fm_I g1460188 r1459018 rfl).trans ((fm_I g1460181 r1459018 rfl).trans m1460147)) ((fm_R g1460188 rh0 rfl).trans ((fm_R g1460181 rh0 rfl).trans m1460167)) (by omega) (by omega) _ _ _ hW hF (lv_sub hl [0, 2, 1, 3, 4, 5] rfl)
              · refine lv_iload hx hb dX0_fewestKept_131 (lv_at hl 0 rfl) ?_
                exact e_I E hW rfl ⟨⟨_, rfl, (by first | omega | trivial)⟩, hF⟩ dX0_fewestKept_133
        have hk1460197 : (0 : Int32).toInt = 0 := rfl
        exact L1460152 42 f1459008 0 y1459013 m1459020 m1459017 (by decide) (by omega) _ _ _ hW hF (lv_sub hl [0, 1, 2, 3, 4, 5] rfl)
      · refine lv_aload_n hx hb dX0_fewestKept_20 rfl (lv_at hl 3 rfl) ?_
        refine fg_RX0_21 E hW rh0 dX0_fewestKept_21 (fun a1460198 m1460199 r1460200 => ?_)
        obtain rfl : a1459016 = a1460198 := (m1459017).symm.trans m1460199
        refine fg_RX0_204 E hW r1459018 dX0_fewestKept_24 (fun a1460201 m1460202 r1460203 => ?_)
        refine lv_iload hx hb dX0_fewestKept_27 (lv_at hl 0 rfl) ?_
        refine gl_161 E hW r1460203 ⟨by omega, by omega⟩ dX0_fewestKept_29 (fun y1460204 m1460205 b1460206 => ?_)
        refine lv_iload_n hx hb dX0_fewestKept_30 rfl (lv_at hl 4 rfl) ?_
        have J1460266 : ∀ (f1460258 : Nat → va_E) (y1460262 : Int32) (y1460264 : Int64) (m1460259 : oI (f1460258 a1459016) 0 = y1459019) (m1460260 : oR (f1460258 a1459016) 1 = a1460201) (m1460261 : oR (f1460258 h0) 1 = a1459016) (b1460263 : (0 : Int) ≤ y1460262.toInt ∧ y1460262.toInt ≤ 41) (v1460265 : y1460262.toInt ≤ y1459009.toInt + 1) (H : Heap) (locs : List Loc) (ls : Array Slot), WS G cI cJ cZ cD cR cT A kp L f1460258 s H locs → FM kp L ms_X0_fewestKept f0 f1460258 → lv_has ls 7 [(6, .int y1459009), (5, .int y1460262), (3, .long y1460264), (0, .ref h0), (1, .int u1), (2, .int u2)] → W p l e ({ frames := 5, cells := 0, slots := 0, locals := 144 }) s m ([.ref h0, .int u1, .int u2] : List Value).toArray below meth c H locs 0 0 (MQ below (QT (po_X0_fewestKept kp L f0 h0 u1 u2) G cI cJ cZ cD cR cT A kp L) ([.ref h0, .int u1, .int u2] : List Value).toArray s 0 0 A) (F0 m 87 ls []) := by
          intro f1460258 y1460262 y1460264 m1460259 m1460260 m1460261 b1460263 v1460265 H locs ls hW hF hl
          clear b1459012 b1460206
          refine q_iinc hx hb dX0_fewestKept_87 hl (k := 0) rfl rfl rfl (by omega) (by decide) (fun i1460267 ls h1460268 hl => ?_)
          have hl : lv_has ls 7 [(6, .int i1460267), (5, .int y1460262), (3, .long y1460264), (0, .ref h0), (1, .int u1), (2, .int u2)] := hl
          refine lv_goto (tgt := 8) hx hb dX0_fewestKept_90 (by decide) ?_
          exact ih8 f1460258 i1460267 y1460262 y1460264 (by omega) (by omega) (by omega) (by omega) _ _ _ hW hF (lv_sub hl [0, 1, 2, 3, 4, 5] rfl)
        refine q_icmp_ne (tgt := 87) hx hb dX0_fewestKept_31 (by decide) rfl rfl (fun c1460269 => ?_) (fun c1460269 => ?_)
        · exact J1460266 f1459008 y1459011 y1459013 m1459020 m1460202 m1460199 (by omega) (by omega) _ _ _ hW hF (lv_sub hl [0, 1, 2, 3, 4, 5] rfl)
        · refine lv_aload_n hx hb dX0_fewestKept_34 rfl (lv_at hl 3 rfl) ?_
          refine fg_RX0_21 E hW rh0 dX0_fewestKept_35 (fun a1460270 m1460271 r1460272 => ?_)
          obtain rfl : a1459016 = a1460270 := (m1460199).symm.trans m1460271
          refine fg_RX0_124 E hW r1459018 dX0_fewestKept_38 (fun a1460273 m1460274 r1460275 => ?_)
          refine lv_iload hx hb dX0_fewestKept_41 (lv_at hl 0 rfl) ?_
          refine gl_164 E hW r1460275 ⟨by omega, by omega⟩ dX0_fewestKept_43 (fun y1460276 m1460277 b1460278 => ?_)
          refine lv_iconst (v := (-1)) hx hb dX0_fewestKept_44 (by decide) ?_
          refine q_icmp_eq (Y := -1) (tgt := 87) hx hb dX0_fewestKept_45 (by decide) rfl rfl (fun c1460279 => ?_) (fun c1460279 => ?_)
          · exact J1460266 f1459008 y1459011 y1459013 m1459020 m1460202 m1460271 (by omega) (by omega) _ _ _ hW hF (lv_sub hl [0, 1, 2, 3, 4, 5] rfl)
          · refine lv_lload_n hx hb dX0_fewestKept_48 rfl (lv_at hl 2 rfl) ?_
            refine lv_aload_n hx hb dX0_fewestKept_49 rfl (lv_at hl 3 rfl) ?_
            refine fg_RX0_21 E hW rh0 dX0_fewestKept_50 (fun a1460280 m1460281 r1460282 => ?_)
            obtain rfl : a1459016 = a1460280 := (m1460271).symm.trans m1460281
            refine lv_iload hx hb dX0_fewestKept_53 (lv_at hl 0 rfl) ?_
            refine t_callV (As := [.int y1459009]) (rest := [.long y1459013]) E hW (c_X1_rentOf l G cI cJ cZ cD cR cT kp L f1459008 hW.2.2.2 _ a1459016 y1459009 r1459018 (by omega)) r1459018 (by decide) rfl wk_X1_rentOf tw_709 rfl ⟨Nat.le_of_ble_eq_true rfl, Nat.le_of_ble_eq_true rfl⟩ ⟨rfl, rfl⟩ hl.1 rfl (Nat.le_of_ble_eq_true rfl) dX0_fewestKept_55 ⟨Nat.le_of_ble_eq_true rfl, Nat.le_of_ble_eq_true rfl⟩ (fun v1460283 f1460284 H locs q1460285 hW => ?_)
            obtain ⟨⟨x1460287, rfl, p1460288⟩, g1460286⟩ := q1460285
            have hF := FM.tr hF g1460286 rfl
            refine q_i2l hx hb dX0_fewestKept_58 rfl (fun x1460289 h1460290 => ?_)
            have hb1460291 : -2147483648 ≤ x1460289.toInt ∧ x1460289.toInt ≤ 2147483647 := by have := i32_b x1460287; omega
            refine u_ladd hx hb dX0_fewestKept_59 (fun x1460292 => ?_)
            refine lv_lstore_n (lv' := [(3, .long x1460292), (6, .int y1459009), (5, .int y1459011), (0, .ref h0), (1, .int u1), (2, .int u2)]) hx hb dX0_fewestKept_60 rfl hl (by decide) rfl (fun ls hl => ?_)
            refine lv_aload_n hx hb dX0_fewestKept_61 rfl (lv_at hl 3 rfl) ?_
            refine fg_RX0_61 E hW rh0 dX0_fewestKept_62 (fun a1460293 m1460294 r1460295 => ?_)
            refine lv_iload hx hb dX0_fewestKept_65 (lv_at hl 2 rfl) ?_
            refine lv_aload_n hx hb dX0_fewestKept_67 rfl (lv_at hl 3 rfl) ?_
            refine fg_RX0_21 E hW rh0 dX0_fewestKept_68 (fun a1460296 m1460297 r1460298 => ?_)
            obtain rfl : a1459016 = a1460296 := (((fm_R g1460286 rh0 rfl).trans m1460281)).symm.trans m1460297
            refine lv_iload hx hb dX0_fewestKept_71 (lv_at hl 1 rfl) ?_
            refine t_callV (As := [.int y1459009]) (rest := [.int y1459011, .ref a1460293]) E hW (c_X1_rentOf l G cI cJ cZ cD cR cT kp L f1460284 hW.2.2.2 _ a1459016 y1459009 r1459018 (by omega)) r1459018 (by decide) rfl wk_X1_rentOf tw_709 rfl ⟨Nat.le_of_ble_eq_true rfl, Nat.le_of_ble_eq_true rfl⟩ ⟨rfl, rfl⟩ hl.1 rfl (Nat.le_of_ble_eq_true rfl) dX0_fewestKept_73 ⟨Nat.le_of_ble_eq_true rfl, Nat.le_of_ble_eq_true rfl⟩ (fun v1460299 f1460300 H locs q1460301 hW => ?_)
            obtain ⟨⟨x1460303, rfl, p1460304⟩, g1460302⟩ := q1460301
            have hF := FM.tr hF g1460302 rfl
            refine lv_aload_n hx hb dX0_fewestKept_76 rfl (lv_at hl 3 rfl) ?_
            refine lv_iload hx hb dX0_fewestKept_77 (lv_at hl 1 rfl) ?_
            refine t_callV (As := [.int y1459009]) (rest := [.int x1460303, .int y1459011, .ref a1460293]) E hW (c_X0_fairOf l G cI cJ cZ cD cR cT kp L f1460300 hW.2.2.2 _ h0 y1459009 rh0 (by omega)) rh0 (by decide) rfl wk_X0_fairOf tw_1128 rfl ⟨Nat.le_of_ble_eq_true rfl, Nat.le_of_ble_eq_true rfl⟩ ⟨rfl, rfl⟩ hl.1 rfl (Nat.le_of_ble_eq_true rfl) dX0_fewestKept_79 ⟨Nat.le_of_ble_eq_true rfl, Nat.le_of_ble_eq_true rfl⟩ (fun v1460305 f1460306 H locs q1460307 hW => ?_)
            obtain ⟨⟨x1460309, rfl, p1460310⟩, g1460308⟩ := q1460307
            have hF := FM.tr hF g1460308 rfl
            have hb1460313 : -2147483648 ≤ x1460303.toInt ∧ x1460303.toInt ≤ 2147483647 := i32_b x1460303
            have hb1460314 : -2147483648 ≤ x1460309.toInt ∧ x1460309.toInt ≤ 2147483647 := i32_b x1460309
            refine q_isub hx hb dX0_fewestKept_82 rfl rfl (by omega) (fun x1460311 h1460312 => ?_)
            refine gs_116 E hW r1460295 ⟨by omega, by omega⟩ dX0_fewestKept_83 (fun f1460315 H locs e1460316 n1460317 g1460318 hW => ?_)
            have hF := FM.tr hF g1460318 rfl
            refine q_iinc hx hb dX0_fewestKept_84 hl (k := 2) rfl rfl rfl (by omega) (by decide) (fun i1460319 ls h1460320 hl => ?_)
            have hl : lv_has ls 7 [(5, .int i1460319), (3, .long x1460292), (6, .int y1459009), (0, .ref h0), (1, .int u1), (2, .int u2)] := hl
            exact J1460266 f1460315 i1460319 x1460292 ((fm_I g1460318 r1459018 rfl).trans ((fm_I g1460308 r1459018 rfl).trans ((fm_I g1460302 r1459018 rfl).trans ((fm_I g1460286 r1459018 rfl).trans m1459020)))) ((fm_R g1460318 r1459018 rfl).trans ((fm_R g1460308 r1459018 rfl).trans ((fm_R g1460302 r1459018 rfl).trans ((fm_R g1460286 r1459018 rfl).trans m1460202)))) ((fm_R g1460318 rh0 rfl).trans ((fm_R g1460308 rh0 rfl).trans ((fm_R g1460302 rh0 rfl).trans m1460297))) (by omega) (by omega) _ _ _ hW hF (lv_sub hl [2, 0, 1, 3, 4, 5] rfl)
  have hk1460321 : (0 : Int32).toInt = 0 := rfl
  have hk1460322 : (0 : Int32).toInt = 0 := rfl
  have hk1460323 : (0 : Int64).toInt = 0 := rfl
  exact L1459015 41 f0 0 0 0 (by decide) (by decide) (by omega) (by omega) _ _ _ hW hF (lv_sub hl [0, 1, 2, 3, 4, 5] rfl)
def ms_X0_keepsFor : List (Nat × Nat) := [(115, 0)]
def po_X0_keepsFor (kp : Nat → Nat) (L : List Nat) (f0 : Nat → va_E) (h0 : Nat) (u1 : Int32) (u2 : Int32) : Option Value → (Nat → va_E) → Prop := fun v f => (∃ r : Int32, v = some (.int r) ∧ ((0 : Int) ≤ r.toInt ∧ r.toInt ≤ 1)) ∧ FM kp L ms_X0_keepsFor f0 f
set_option maxHeartbeats 4000000 in
set_option maxRecDepth 100000 in
theorem c_X0_keepsFor (l : Launch) (G : va_G) (cI cJ cZ cD cR cT : ClassId) (kp : Nat → Nat) (L : List Nat) (f0 : Nat → va_E) (hTH : TH cI cJ cZ cD cR cT kp L f0) (sz : Nat) (h0 : Nat) (u1 : Int32) (u2 : Int32) (rh0 : RK kp L h0 0) (pu1 : (-1 : Int) ≤ u1.toInt ∧ u1.toInt ≤ 39) (pu2 : (0 : Int) ≤ u2.toInt ∧ u2.toInt ≤ 39) : Met l yX0_keepsFor (Cond.code yX0_keepsFor cX0_keepsFor 3 (some .boolean) :: wTab) ({ frames := 5, cells := 0, slots := 0, locals := 143 }) (va_Pc [.ref h0, .int u1, .int u2] (PreW G (tys6 cI cJ cZ cD cR cT) (va_pl L f0) sz)) (QT (po_X0_keepsFor kp L f0 h0 u1 u2) G cI cJ cZ cD cR cT (va_A (va_pl L f0) sz) kp L) 0 0 (va_A (va_pl L f0) sz) := by
  refine metT (by decide) (Nat.le_of_ble_eq_true rfl) hTH ?_
  intro p e s m below meth c A ls E hW hl
  obtain ⟨hx, hb, -, hml, hown, hts, -, -, -⟩ := id E
  have hF : FM kp L ms_X0_keepsFor f0 f0 := FM.rf
  have hl : lv_has ls 3 [(0, .ref h0), (1, .int u1), (2, .int u2)] := hl
  refine lv_iload_n hx hb dX0_keepsFor_0 rfl (lv_at hl 1 rfl) ?_
  refine lv_iconst (v := (-1)) hx hb dX0_keepsFor_1 (by decide) ?_
  have J1460334 : ∀ (f1460331 : Nat → va_E) (y1460332 : Int32) (b1460333 : (0 : Int) ≤ y1460332.toInt ∧ y1460332.toInt ≤ 1) (H : Heap) (locs : List Loc) (ls : Array Slot), WS G cI cJ cZ cD cR cT A kp L f1460331 s H locs → FM kp L ms_X0_keepsFor f0 f1460331 → lv_has ls 3 [(0, .ref h0), (1, .int u1), (2, .int u2)] → W p l e ({ frames := 5, cells := 0, slots := 0, locals := 143 }) s m ([.ref h0, .int u1, .int u2] : List Value).toArray below meth c H locs 0 0 (MQ below (QT (po_X0_keepsFor kp L f0 h0 u1 u2) G cI cJ cZ cD cR cT A kp L) ([.ref h0, .int u1, .int u2] : List Value).toArray s 0 0 A) (F0 m 22 ls [.int y1460332]) := by
    intro f1460331 y1460332 b1460333 H locs ls hW hF hl
    exact e_Z E hW rfl (by omega) ⟨⟨_, rfl, (by first | omega | trivial)⟩, hF⟩ dX0_keepsFor_22
  refine q_icmp_eq (Y := -1) (tgt := 21) hx hb dX0_keepsFor_2 (by decide) rfl rfl (fun c1460335 => ?_) (fun c1460335 => ?_)
  · refine lv_iconst (v := 0) hx hb dX0_keepsFor_21 (by decide) ?_
    exact J1460334 f0 0 (by decide) _ _ _ hW hF (lv_sub hl [0, 1, 2] rfl)
  · refine lv_aload_n hx hb dX0_keepsFor_5 rfl (lv_at hl 0 rfl) ?_
    refine lv_sipush (v := 262) hx hb dX0_keepsFor_6 (by decide) ?_
    refine lv_iload_n hx hb dX0_keepsFor_9 rfl (lv_at hl 1 rfl) ?_
    refine lv_iload_n hx hb dX0_keepsFor_10 rfl (lv_at hl 2 rfl) ?_
    refine t_callV (As := [.int 262, .int u1, .int u2]) (rest := []) E hW (c_X0_anyHolds l G cI cJ cZ cD cR cT kp L f0 hW.2.2.2 _ h0 262 u1 u2 rh0 (by decide) (by omega) (by omega)) rh0 (by decide) rfl wk_X0_anyHolds tw_752 rfl ⟨Nat.le_of_ble_eq_true rfl, Nat.le_of_ble_eq_true rfl⟩ ⟨rfl, rfl⟩ hl.1 rfl (Nat.le_of_ble_eq_true rfl) dX0_keepsFor_11 ⟨Nat.le_of_ble_eq_true rfl, Nat.le_of_ble_eq_true rfl⟩ (fun v1460336 f1460337 H locs q1460338 hW => ?_)
    obtain ⟨⟨x1460340, rfl, p1460341⟩, g1460339⟩ := q1460338
    have p1460341 : (0 : Int) ≤ x1460340.toInt ∧ x1460340.toInt ≤ 1 := p1460341
    have hF := FM.tr hF g1460339 rfl
    refine q_if_eq (tgt := 21) hx hb dX0_keepsFor_14 (by decide) rfl (fun c1460342 => ?_) (fun c1460342 => ?_)
    · refine lv_iconst (v := 0) hx hb dX0_keepsFor_21 (by decide) ?_
      exact J1460334 f1460337 0 (by decide) _ _ _ hW hF (lv_sub hl [0, 1, 2] rfl)
    · refine lv_iconst (v := 1) hx hb dX0_keepsFor_17 (by decide) ?_
      refine lv_goto (tgt := 22) hx hb dX0_keepsFor_18 (by decide) ?_
      exact J1460334 f1460337 1 (by decide) _ _ _ hW hF (lv_sub hl [0, 1, 2] rfl)
def ms_X0_lookAtNow : List (Nat × Nat) := [(0, 14), (222, 0), (223, 0)]
def po_X0_lookAtNow (kp : Nat → Nat) (L : List Nat) (f0 : Nat → va_E) (h0 : Nat) : Option Value → (Nat → va_E) → Prop := fun v f => v = none ∧ FM kp L ms_X0_lookAtNow f0 f
set_option maxHeartbeats 4000000 in
set_option maxRecDepth 100000 in
theorem c_X0_lookAtNow (l : Launch) (G : va_G) (cI cJ cZ cD cR cT : ClassId) (kp : Nat → Nat) (L : List Nat) (f0 : Nat → va_E) (hTH : TH cI cJ cZ cD cR cT kp L f0) (sz : Nat) (h0 : Nat) (rh0 : RK kp L h0 0) : Met l yX0_lookAtNow (Cond.code yX0_lookAtNow cX0_lookAtNow 1 none :: wTab) ({ frames := 3, cells := 0, slots := 0, locals := 88 }) (va_Pc [.ref h0] (PreW G (tys6 cI cJ cZ cD cR cT) (va_pl L f0) sz)) (QT (po_X0_lookAtNow kp L f0 h0) G cI cJ cZ cD cR cT (va_A (va_pl L f0) sz) kp L) 0 0 (va_A (va_pl L f0) sz) := by
  refine metT (by decide) (Nat.le_of_ble_eq_true rfl) hTH ?_
  intro p e s m below meth c A ls E hW hl
  obtain ⟨hx, hb, -, hml, hown, hts, -, -, -⟩ := id E
  have hF : FM kp L ms_X0_lookAtNow f0 f0 := FM.rf
  have hl : lv_has ls 1 [(0, .ref h0)] := hl
  refine lv_aload_n hx hb dX0_lookAtNow_0 rfl (lv_at hl 0 rfl) ?_
  refine fg_RX0_42 E hW rh0 dX0_lookAtNow_1 (fun a1460343 m1460344 r1460345 => ?_)
  refine lv_aload_n hx hb dX0_lookAtNow_4 rfl (lv_at hl 0 rfl) ?_
  refine fg_RX0_93 E hW rh0 dX0_lookAtNow_5 (fun y1460346 m1460347 b1460348 => ?_)
  refine t_callV (As := [.int y1460346]) (rest := []) E hW (c_X2_mark l G cI cJ cZ cD cR cT kp L f0 hW.2.2.2 _ a1460343 y1460346 r1460345 (by omega)) r1460345 (by decide) rfl wk_X2_mark tw_691 rfl ⟨Nat.le_of_ble_eq_true rfl, Nat.le_of_ble_eq_true rfl⟩ ⟨rfl, rfl⟩ hl.1 rfl (Nat.le_of_ble_eq_true rfl) dX0_lookAtNow_8 ⟨Nat.le_of_ble_eq_true rfl, Nat.le_of_ble_eq_true rfl⟩ (fun v1460349 f1460350 H locs q1460351 hW => ?_)
  obtain ⟨rfl, g1460352⟩ := q1460351
  have hF := FM.tr hF g1460352 rfl
  refine lv_aload_n hx hb dX0_lookAtNow_11 rfl (lv_at hl 0 rfl) ?_
  refine lv_aload_n hx hb dX0_lookAtNow_12 rfl (lv_at hl 0 rfl) ?_
  refine fg_RX0_97 E hW rh0 dX0_lookAtNow_13 (fun y1460353 m1460354 b1460355 => ?_)
  have J1460376 : ∀ (f1460371 : Nat → va_E) (y1460375 : Int32) (m1460372 : oR (f1460371 h0) 4 = a1460343) (m1460373 : oI (f1460371 h0) 6 = y1460346) (m1460374 : oI (f1460371 h0) 9 = y1460353) (H : Heap) (locs : List Loc) (ls : Array Slot), WS G cI cJ cZ cD cR cT A kp L f1460371 s H locs → FM kp L ms_X0_lookAtNow f0 f1460371 → lv_has ls 1 [(0, .ref h0)] → W p l e ({ frames := 3, cells := 0, slots := 0, locals := 88 }) s m ([.ref h0] : List Value).toArray below meth c H locs 0 0 (MQ below (QT (po_X0_lookAtNow kp L f0 h0) G cI cJ cZ cD cR cT A kp L) ([.ref h0] : List Value).toArray s 0 0 A) (F0 m 37 ls [.int y1460375, .ref h0]) := by
    intro f1460371 y1460375 m1460372 m1460373 m1460374 H locs ls hW hF hl
    refine fp_RX0_121 E hW rh0 dX0_lookAtNow_37 (fun f1460377 H locs e1460378 n1460379 g1460380 hW => ?_)
    have hF := FM.tr hF g1460380 rfl
    exact e_V E hW rfl ⟨rfl, hF⟩ dX0_lookAtNow_40
  refine q_if_eq (tgt := 26) hx hb dX0_lookAtNow_16 (by decide) rfl (fun c1460381 => ?_) (fun c1460381 => ?_)
  · refine lv_aload_n hx hb dX0_lookAtNow_26 rfl (lv_at hl 0 rfl) ?_
    refine fg_RX0_35 E hW rh0 dX0_lookAtNow_27 (fun a1460382 m1460383 r1460384 => ?_)
    refine lv_aload_n hx hb dX0_lookAtNow_30 rfl (lv_at hl 0 rfl) ?_
    refine fg_RX0_93 E hW rh0 dX0_lookAtNow_31 (fun y1460385 m1460386 b1460387 => ?_)
    obtain rfl : y1460346 = y1460385 := (((fm_I g1460352 rh0 rfl).trans m1460347)).symm.trans m1460386
    refine t_callV (As := [.int y1460346]) (rest := [.ref h0]) E hW (c_X7_priceIn l G cI cJ cZ cD cR cT kp L f1460350 hW.2.2.2 _ a1460382 y1460346 r1460384 (by omega)) r1460384 (by decide) rfl wk_X7_priceIn tw_700 rfl ⟨Nat.le_of_ble_eq_true rfl, Nat.le_of_ble_eq_true rfl⟩ ⟨rfl, rfl⟩ hl.1 rfl (Nat.le_of_ble_eq_true rfl) dX0_lookAtNow_34 ⟨Nat.le_of_ble_eq_true rfl, Nat.le_of_ble_eq_true rfl⟩ (fun v1460388 f1460389 H locs q1460390 hW => ?_)
    obtain ⟨⟨x1460392, rfl, p1460393⟩, g1460391⟩ := q1460390
    clear p1460393
    have hF := FM.tr hF g1460391 rfl
    exact J1460376 f1460389 x1460392 ((fm_R g1460391 rh0 rfl).trans ((fm_R g1460352 rh0 rfl).trans m1460344)) ((fm_I g1460391 rh0 rfl).trans m1460386) ((fm_I g1460391 rh0 rfl).trans m1460354) _ _ _ hW hF (lv_sub hl [0] rfl)
  · refine lv_aload_n hx hb dX0_lookAtNow_19 rfl (lv_at hl 0 rfl) ?_
    refine fg_RX0_107 E hW rh0 dX0_lookAtNow_20 (fun y1460394 m1460395 => ?_)
    refine lv_goto (tgt := 37) hx hb dX0_lookAtNow_23 (by decide) ?_
    exact J1460376 f1460350 y1460394 ((fm_R g1460352 rh0 rfl).trans m1460344) ((fm_I g1460352 rh0 rfl).trans m1460347) m1460354 _ _ _ hW hF (lv_sub hl [0] rfl)
def ms_X0_reap : List (Nat × Nat) := [(345, 0)]
def po_X0_reap (kp : Nat → Nat) (L : List Nat) (f0 : Nat → va_E) (h0 : Nat) : Option Value → (Nat → va_E) → Prop := fun v f => v = none ∧ FM kp L ms_X0_reap f0 f
set_option maxHeartbeats 4000000 in
set_option maxRecDepth 100000 in
theorem c_X0_reap (l : Launch) (G : va_G) (cI cJ cZ cD cR cT : ClassId) (kp : Nat → Nat) (L : List Nat) (f0 : Nat → va_E) (hTH : TH cI cJ cZ cD cR cT kp L f0) (sz : Nat) (h0 : Nat) (rh0 : RK kp L h0 0) : Met l yX0_reap (Cond.code yX0_reap cX0_reap 5 none :: wTab) ({ frames := 2, cells := 0, slots := 0, locals := 63 }) (va_Pc [.ref h0] (PreW G (tys6 cI cJ cZ cD cR cT) (va_pl L f0) sz)) (QT (po_X0_reap kp L f0 h0) G cI cJ cZ cD cR cT (va_A (va_pl L f0) sz) kp L) 0 0 (va_A (va_pl L f0) sz) := by
  refine metT (by decide) (Nat.le_of_ble_eq_true rfl) hTH ?_
  intro p e s m below meth c A ls E hW hl
  obtain ⟨hx, hb, -, hml, hown, hts, -, -, -⟩ := id E
  have hF : FM kp L ms_X0_reap f0 f0 := FM.rf
  have hl : lv_has ls 5 [(0, .ref h0)] := hl
  refine lv_aload_n hx hb dX0_reap_0 rfl (lv_at hl 0 rfl) ?_
  refine fg_RX0_97 E hW rh0 dX0_reap_1 (fun y1460397 m1460398 b1460399 => ?_)
  have J1460422 : ∀ (y1460420 : Int32) (b1460421 : (0 : Int) ≤ y1460420.toInt ∧ y1460420.toInt ≤ 1) (H : Heap) (locs : List Loc) (ls : Array Slot), WS G cI cJ cZ cD cR cT A kp L f0 s H locs → FM kp L ms_X0_reap f0 f0 → lv_has ls 5 [(0, .ref h0)] → W p l e ({ frames := 2, cells := 0, slots := 0, locals := 63 }) s m ([.ref h0] : List Value).toArray below meth c H locs 0 0 (MQ below (QT (po_X0_reap kp L f0 h0) G cI cJ cZ cD cR cT A kp L) ([.ref h0] : List Value).toArray s 0 0 A) (F0 m 45 ls [.int y1460420]) := by
    intro y1460420 b1460421 H locs ls hW hF hl
    refine lv_istore_n (lv' := [(1, .int y1460420), (0, .ref h0)]) hx hb dX0_reap_45 rfl hl (by decide) rfl (fun ls hl => ?_)
    refine lv_iconst (v := 0) hx hb dX0_reap_46 (by decide) ?_
    refine lv_istore_n (lv' := [(2, .int 0), (1, .int y1460420), (0, .ref h0)]) hx hb dX0_reap_47 rfl hl (by decide) rfl (fun ls hl => ?_)
    have L1462764 : ∀ (n : Nat), ∀ (f1462760 : Nat → va_E) (y1462762 : Int32) (m1462761 : oI (f1462760 h0) 9 = y1460397) (b1462763 : (0 : Int) ≤ y1462762.toInt ∧ y1462762.toInt ≤ 40) (hm : (41 : Int) - y1462762.toInt ≤ n) (H : Heap) (locs : List Loc) (ls : Array Slot), WS G cI cJ cZ cD cR cT A kp L f1462760 s H locs → FM kp L ms_X0_reap f0 f1462760 → lv_has ls 5 [(2, .int y1462762), (1, .int y1460420), (0, .ref h0)] → W p l e ({ frames := 2, cells := 0, slots := 0, locals := 63 }) s m ([.ref h0] : List Value).toArray below meth c H locs 0 0 (MQ below (QT (po_X0_reap kp L f0 h0) G cI cJ cZ cD cR cT A kp L) ([.ref h0] : List Value).toArray s 0 0 A) (F0 m 48 ls []) := by
      intro n
      induction n with
      | zero =>
        intro f1462760 y1462762 m1462761 b1462763 hm H locs ls hW hF hl
        have hz := i32_b y1462762
        exfalso; omega
      | succ n ih =>
        intro f1462760 y1462762 m1462761 b1462763 hm H locs ls hW hF hl
        have ih48 := ih
        refine lv_iload_n hx hb dX0_reap_48 rfl (lv_at hl 1 rfl) ?_
        have J1462883 : ∀ (H : Heap) (locs : List Loc) (ls : Array Slot), WS G cI cJ cZ cD cR cT A kp L f1462760 s H locs → FM kp L ms_X0_reap f0 f1462760 → lv_has ls 5 [(2, .int y1462762), (1, .int y1460420), (0, .ref h0)] → W p l e ({ frames := 2, cells := 0, slots := 0, locals := 63 }) s m ([.ref h0] : List Value).toArray below meth c H locs 0 0 (MQ below (QT (po_X0_reap kp L f0 h0) G cI cJ cZ cD cR cT A kp L) ([.ref h0] : List Value).toArray s 0 0 A) (F0 m 145 ls []) := by
          intro  H locs ls hW hF hl
          exact e_V E hW rfl ⟨rfl, hF⟩ dX0_reap_145
        refine q_if_eq (tgt := 145) hx hb dX0_reap_49 (by decide) rfl (fun c1462884 => ?_) (fun c1462884 => ?_)
        · exact J1462883   _ _ _ hW hF (lv_sub hl [0, 1, 2] rfl)
        · refine lv_iload_n hx hb dX0_reap_52 rfl (lv_at hl 0 rfl) ?_
          refine lv_aload_n hx hb dX0_reap_53 rfl (lv_at hl 2 rfl) ?_
          refine fg_RX0_21 E hW rh0 dX0_reap_54 (fun a1462885 m1462886 r1462887 => ?_)
          refine fg_RX0_171 E hW r1462887 dX0_reap_57 (fun y1462888 m1462889 b1462890 => ?_)
          refine q_icmp_ge (tgt := 145) hx hb dX0_reap_60 (by decide) rfl rfl (fun c1462891 => ?_) (fun c1462891 => ?_)
          · exact J1462883   _ _ _ hW hF (lv_sub hl [0, 1, 2] rfl)
          · refine lv_aload_n hx hb dX0_reap_63 rfl (lv_at hl 2 rfl) ?_
            refine fg_RX0_21 E hW rh0 dX0_reap_64 (fun a1462892 m1462893 r1462894 => ?_)
            obtain rfl : a1462885 = a1462892 := (m1462886).symm.trans m1462893
            refine fg_RX0_124 E hW r1462887 dX0_reap_67 (fun a1462895 m1462896 r1462897 => ?_)
            refine lv_iload_n hx hb dX0_reap_70 rfl (lv_at hl 0 rfl) ?_
            refine gl_164 E hW r1462897 ⟨by omega, by omega⟩ dX0_reap_71 (fun y1462898 m1462899 b1462900 => ?_)
            refine lv_istore_n (lv' := [(3, .int y1462898), (2, .int y1462762), (1, .int y1460420), (0, .ref h0)]) hx hb dX0_reap_72 rfl hl (by decide) rfl (fun ls hl => ?_)
            refine lv_aload_n hx hb dX0_reap_73 rfl (lv_at hl 3 rfl) ?_
            refine fg_RX0_97 E hW rh0 dX0_reap_74 (fun y1462901 m1462902 b1462903 => ?_)
            obtain rfl : y1460397 = y1462901 := (m1462761).symm.trans m1462902
            have J1462936 : ∀ (f1462930 : Nat → va_E) (y1462935 : Int32) (m1462931 : oI (f1462930 a1462885) 0 = y1462888) (m1462932 : oR (f1462930 a1462885) 4 = a1462895) (m1462933 : oR (f1462930 h0) 1 = a1462885) (m1462934 : oI (f1462930 h0) 9 = y1460397) (H : Heap) (locs : List Loc) (ls : Array Slot), WS G cI cJ cZ cD cR cT A kp L f1462930 s H locs → FM kp L ms_X0_reap f0 f1462930 → lv_has ls 5 [(3, .int y1462898), (2, .int y1462762), (1, .int y1460420), (0, .ref h0)] → W p l e ({ frames := 2, cells := 0, slots := 0, locals := 63 }) s m ([.ref h0] : List Value).toArray below meth c H locs 0 0 (MQ below (QT (po_X0_reap kp L f0 h0) G cI cJ cZ cD cR cT A kp L) ([.ref h0] : List Value).toArray s 0 0 A) (F0 m 112 ls [.int y1462935]) := by
              intro f1462930 y1462935 m1462931 m1462932 m1462933 m1462934 H locs ls hW hF hl
              refine lv_istore (lv' := [(4, .int y1462935), (3, .int y1462898), (2, .int y1462762), (1, .int y1460420), (0, .ref h0)]) hx hb dX0_reap_112 hl (by decide) rfl (fun ls hl => ?_)
              refine lv_iload_n hx hb dX0_reap_114 rfl (lv_at hl 1 rfl) ?_
              refine lv_iconst (v := (-1)) hx hb dX0_reap_115 (by decide) ?_
              have J1462957 : ∀ (f1462952 : Nat → va_E) (m1462953 : oI (f1462952 a1462885) 0 = y1462888) (m1462954 : oR (f1462952 a1462885) 4 = a1462895) (m1462955 : oR (f1462952 h0) 1 = a1462885) (m1462956 : oI (f1462952 h0) 9 = y1460397) (H : Heap) (locs : List Loc) (ls : Array Slot), WS G cI cJ cZ cD cR cT A kp L f1462952 s H locs → FM kp L ms_X0_reap f0 f1462952 → lv_has ls 5 [(4, .int y1462935), (3, .int y1462898), (2, .int y1462762), (1, .int y1460420), (0, .ref h0)] → W p l e ({ frames := 2, cells := 0, slots := 0, locals := 63 }) s m ([.ref h0] : List Value).toArray below meth c H locs 0 0 (MQ below (QT (po_X0_reap kp L f0 h0) G cI cJ cZ cD cR cT A kp L) ([.ref h0] : List Value).toArray s 0 0 A) (F0 m 139 ls []) := by
                intro f1462952 m1462953 m1462954 m1462955 m1462956 H locs ls hW hF hl
                refine q_iinc hx hb dX0_reap_139 hl (k := 2) rfl rfl rfl (by omega) (by decide) (fun i1462958 ls h1462959 hl => ?_)
                have hl : lv_has ls 5 [(2, .int i1462958), (4, .int y1462935), (3, .int y1462898), (1, .int y1460420), (0, .ref h0)] := hl
                refine lv_goto (tgt := 48) hx hb dX0_reap_142 (by decide) ?_
                exact ih48 f1462952 i1462958 m1462956 (by omega) (by omega) _ _ _ hW hF (lv_sub hl [0, 3, 4] rfl)
              refine q_icmp_eq (Y := -1) (tgt := 139) hx hb dX0_reap_116 (by decide) rfl rfl (fun c1462960 => ?_) (fun c1462960 => ?_)
              · exact J1462957 f1462930 m1462931 m1462932 m1462933 m1462934 _ _ _ hW hF (lv_sub hl [0, 1, 2, 3, 4] rfl)
              · refine lv_iload hx hb dX0_reap_119 (lv_at hl 0 rfl) ?_
                refine lv_iconst (v := (-1)) hx hb dX0_reap_121 (by decide) ?_
                refine q_icmp_eq (Y := -1) (tgt := 139) hx hb dX0_reap_122 (by decide) rfl rfl (fun c1462961 => ?_) (fun c1462961 => ?_)
                · exact J1462957 f1462930 m1462931 m1462932 m1462933 m1462934 _ _ _ hW hF (lv_sub hl [0, 1, 2, 3, 4] rfl)
                · refine lv_aload_n hx hb dX0_reap_125 rfl (lv_at hl 4 rfl) ?_
                  refine fg_RX0_12 E hW rh0 dX0_reap_126 (fun a1462962 m1462963 r1462964 => ?_)
                  refine fg_RX0_179 E hW r1462964 dX0_reap_129 (fun a1462965 m1462966 r1462967 => ?_)
                  refine lv_iload_n hx hb dX0_reap_132 rfl (lv_at hl 1 rfl) ?_
                  refine lv_dup2_11 hx hb dX0_reap_133 rfl rfl ?_
                  refine gl_345 E hW r1462967 ⟨by omega, by omega⟩ dX0_reap_134 (fun y1462968 m1462969 => ?_)
                  refine lv_iload hx hb dX0_reap_135 (lv_at hl 0 rfl) ?_
                  refine u_iadd hx hb dX0_reap_137 (fun x1462971 => ?_)
                  refine gs_345 E hW r1462967 ⟨by omega, by omega⟩ dX0_reap_138 (fun f1462972 H locs e1462973 n1462974 g1462975 hW => ?_)
                  have hF := FM.tr hF g1462975 rfl
                  exact J1462957 f1462972 ((fm_I g1462975 r1462887 rfl).trans m1462931) ((fm_R g1462975 r1462887 rfl).trans m1462932) ((fm_R g1462975 rh0 rfl).trans m1462933) ((fm_I g1462975 rh0 rfl).trans m1462934) _ _ _ hW hF (lv_sub hl [0, 1, 2, 3, 4] rfl)
            refine q_if_eq (tgt := 100) hx hb dX0_reap_77 (by decide) rfl (fun c1462976 => ?_) (fun c1462976 => ?_)
            · refine lv_aload_n hx hb dX0_reap_100 rfl (lv_at hl 3 rfl) ?_
              refine fg_RX0_35 E hW rh0 dX0_reap_101 (fun a1462977 m1462978 r1462979 => ?_)
              refine lv_iload_n hx hb dX0_reap_104 rfl (lv_at hl 1 rfl) ?_
              refine lv_aload_n hx hb dX0_reap_105 rfl (lv_at hl 3 rfl) ?_
              refine fg_RX0_93 E hW rh0 dX0_reap_106 (fun y1462980 m1462981 b1462982 => ?_)
              refine t_callV (As := [.int y1462762, .int y1462980]) (rest := []) E hW (c_X7_sacksOf l G cI cJ cZ cD cR cT kp L f1462760 hW.2.2.2 _ a1462977 y1462762 y1462980 r1462979 (by omega) (by omega)) r1462979 (by decide) rfl wk_X7_sacksOf tw_1123 rfl ⟨Nat.le_of_ble_eq_true rfl, Nat.le_of_ble_eq_true rfl⟩ ⟨rfl, rfl⟩ hl.1 rfl (Nat.le_of_ble_eq_true rfl) dX0_reap_109 ⟨Nat.le_of_ble_eq_true rfl, Nat.le_of_ble_eq_true rfl⟩ (fun v1462983 f1462984 H locs q1462985 hW => ?_)
              obtain ⟨⟨x1462987, rfl, p1462988⟩, g1462986⟩ := q1462985
              clear p1462988
              have hF := FM.tr hF g1462986 rfl
              exact J1462936 f1462984 x1462987 ((fm_I g1462986 r1462887 rfl).trans m1462889) ((fm_R g1462986 r1462887 rfl).trans m1462896) ((fm_R g1462986 rh0 rfl).trans m1462893) ((fm_I g1462986 rh0 rfl).trans m1462902) _ _ _ hW hF (lv_sub hl [0, 1, 2, 3] rfl)
            · refine lv_aload_n hx hb dX0_reap_80 rfl (lv_at hl 3 rfl) ?_
              refine fg_RX0_110 E hW rh0 dX0_reap_81 (fun y1462989 m1462990 => ?_)
              refine lv_aload_n hx hb dX0_reap_84 rfl (lv_at hl 3 rfl) ?_
              refine fg_RX0_21 E hW rh0 dX0_reap_85 (fun a1462992 m1462993 r1462994 => ?_)
              obtain rfl : a1462885 = a1462992 := (m1462893).symm.trans m1462993
              refine fg_RX0_172 E hW r1462887 dX0_reap_88 (fun a1462995 m1462996 r1462997 => ?_)
              refine lv_iload_n hx hb dX0_reap_91 rfl (lv_at hl 1 rfl) ?_
              refine gl_162 E hW r1462997 ⟨by omega, by omega⟩ dX0_reap_92 (fun y1462998 m1462999 => ?_)
              refine u_imul hx hb dX0_reap_93 (fun x1463001 => ?_)
              refine lv_bipush (v := 100) hx hb dX0_reap_94 (by decide) ?_
              refine u_idiv hx hb dX0_reap_96 (by decide) (fun x1463002 => ?_)
              refine lv_goto (tgt := 112) hx hb dX0_reap_97 (by decide) ?_
              exact J1462936 f1462760 x1463002 m1462889 m1462896 m1462993 m1462902 _ _ _ hW hF (lv_sub hl [0, 1, 2, 3] rfl)
    have hk1463003 : (0 : Int32).toInt = 0 := rfl
    exact L1462764 41 f0 0 m1460398 (by decide) (by omega) _ _ _ hW hF (lv_sub hl [0, 1, 2] rfl)
  refine q_if_eq (tgt := 25) hx hb dX0_reap_4 (by decide) rfl (fun c1463004 => ?_) (fun c1463004 => ?_)
  · refine lv_aload_n hx hb dX0_reap_25 rfl (lv_at hl 0 rfl) ?_
    refine fg_RX0_35 E hW rh0 dX0_reap_26 (fun a1463005 m1463006 r1463007 => ?_)
    refine fg_RX0_167 E hW r1463007 dX0_reap_29 (fun a1463008 m1463009 r1463010 => ?_)
    refine lv_aload_n hx hb dX0_reap_32 rfl (lv_at hl 0 rfl) ?_
    refine fg_RX0_93 E hW rh0 dX0_reap_33 (fun y1463011 m1463012 b1463013 => ?_)
    refine gl_521 E hW r1463010 ⟨by omega, by omega⟩ dX0_reap_36 (fun o1463014 m1463016 k1463015 => ?_)
    rcases o1463014 with _ | a1463017
    · have hl : lv_has ls 5 [(0, .ref h0)] := hl
      show W p l e ({ frames := 2, cells := 0, slots := 0, locals := 63 }) s m ([.ref h0] : List Value).toArray below meth c _ _ 0 0 (MQ below (QT (po_X0_reap kp L f0 h0) G cI cJ cZ cD cR cT A kp L) ([.ref h0] : List Value).toArray s 0 0 A) (F0 m 37 ls [.null])
      refine lv_ifnullN (tgt := 44) hx hb dX0_reap_37 (by decide) ?_
      refine lv_iconst (v := 0) hx hb dX0_reap_44 (by decide) ?_
      exact J1460422 0 (by decide) _ _ _ hW hF (lv_sub hl [0] rfl)
    · have r1463018 : RK kp L a1463017 6 := k1463015 _ rfl
      have hl : lv_has ls 5 [(0, .ref h0)] := hl
      show W p l e ({ frames := 2, cells := 0, slots := 0, locals := 63 }) s m ([.ref h0] : List Value).toArray below meth c _ _ 0 0 (MQ below (QT (po_X0_reap kp L f0 h0) G cI cJ cZ cD cR cT A kp L) ([.ref h0] : List Value).toArray s 0 0 A) (F0 m 37 ls [.ref a1463017])
      refine lv_ifnull hx hb dX0_reap_37 ?_
      refine lv_iconst (v := 1) hx hb dX0_reap_40 (by decide) ?_
      refine lv_goto (tgt := 45) hx hb dX0_reap_41 (by decide) ?_
      exact J1460422 1 (by decide) _ _ _ hW hF (lv_sub hl [0] rfl)
  · refine lv_aload_n hx hb dX0_reap_7 rfl (lv_at hl 0 rfl) ?_
    refine fg_RX0_93 E hW rh0 dX0_reap_8 (fun y1463019 m1463020 b1463021 => ?_)
    refine lv_bipush (v := 13) hx hb dX0_reap_11 (by decide) ?_
    refine q_irem (Y := 13) hx hb dX0_reap_13 rfl rfl (by omega) (by omega) (fun x1463022 h1463023 => ?_)
    refine q_if_ne (tgt := 21) hx hb dX0_reap_14 (by decide) rfl (fun c1463024 => ?_) (fun c1463024 => ?_)
    · refine lv_iconst (v := 0) hx hb dX0_reap_21 (by decide) ?_
      refine lv_goto (tgt := 45) hx hb dX0_reap_22 (by decide) ?_
      exact J1460422 0 (by decide) _ _ _ hW hF (lv_sub hl [0] rfl)
    · refine lv_iconst (v := 1) hx hb dX0_reap_17 (by decide) ?_
      refine lv_goto (tgt := 45) hx hb dX0_reap_18 (by decide) ?_
      exact J1460422 1 (by decide) _ _ _ hW hF (lv_sub hl [0] rfl)
def ms_X0_payMortgages : List (Nat × Nat) := [(169, 0), (171, 0)]
def po_X0_payMortgages (kp : Nat → Nat) (L : List Nat) (f0 : Nat → va_E) (h0 : Nat) : Option Value → (Nat → va_E) → Prop := fun v f => v = none ∧ FM kp L ms_X0_payMortgages f0 f
set_option maxHeartbeats 4000000 in
set_option maxRecDepth 100000 in
theorem c_X0_payMortgages (l : Launch) (G : va_G) (cI cJ cZ cD cR cT : ClassId) (kp : Nat → Nat) (L : List Nat) (f0 : Nat → va_E) (hTH : TH cI cJ cZ cD cR cT kp L f0) (sz : Nat) (h0 : Nat) (rh0 : RK kp L h0 0) : Met l yX0_payMortgages (Cond.code yX0_payMortgages cX0_payMortgages 2 none :: wTab) ({ frames := 1, cells := 0, slots := 0, locals := 40 }) (va_Pc [.ref h0] (PreW G (tys6 cI cJ cZ cD cR cT) (va_pl L f0) sz)) (QT (po_X0_payMortgages kp L f0 h0) G cI cJ cZ cD cR cT (va_A (va_pl L f0) sz) kp L) 0 0 (va_A (va_pl L f0) sz) := by
  refine metT (by decide) (Nat.le_of_ble_eq_true rfl) hTH ?_
  intro p e s m below meth c A ls E hW hl
  obtain ⟨hx, hb, -, hml, hown, hts, -, -, -⟩ := id E
  have hF : FM kp L ms_X0_payMortgages f0 f0 := FM.rf
  have hl : lv_has ls 2 [(0, .ref h0)] := hl
  refine lv_iconst (v := 0) hx hb dX0_payMortgages_0 (by decide) ?_
  refine lv_istore_n (lv' := [(1, .int 0), (0, .ref h0)]) hx hb dX0_payMortgages_1 rfl hl (by decide) rfl (fun ls hl => ?_)
  have L1464513 : ∀ (n : Nat), ∀ (f1464510 : Nat → va_E) (y1464511 : Int32) (b1464512 : (0 : Int) ≤ y1464511.toInt ∧ y1464511.toInt ≤ 8) (hm : (9 : Int) - y1464511.toInt ≤ n) (H : Heap) (locs : List Loc) (ls : Array Slot), WS G cI cJ cZ cD cR cT A kp L f1464510 s H locs → FM kp L ms_X0_payMortgages f0 f1464510 → lv_has ls 2 [(1, .int y1464511), (0, .ref h0)] → W p l e ({ frames := 1, cells := 0, slots := 0, locals := 40 }) s m ([.ref h0] : List Value).toArray below meth c H locs 0 0 (MQ below (QT (po_X0_payMortgages kp L f0 h0) G cI cJ cZ cD cR cT A kp L) ([.ref h0] : List Value).toArray s 0 0 A) (F0 m 2 ls []) := by
    intro n
    induction n with
    | zero =>
      intro f1464510 y1464511 b1464512 hm H locs ls hW hF hl
      have hz := i32_b y1464511
      exfalso; omega
    | succ n ih =>
      intro f1464510 y1464511 b1464512 hm H locs ls hW hF hl
      have ih2 := ih
      refine lv_iload_n hx hb dX0_payMortgages_2 rfl (lv_at hl 0 rfl) ?_
      refine lv_aload_n hx hb dX0_payMortgages_3 rfl (lv_at hl 1 rfl) ?_
      refine fg_RX0_21 E hW rh0 dX0_payMortgages_4 (fun a1464514 m1464515 r1464516 => ?_)
      refine fg_RX0_216 E hW r1464516 dX0_payMortgages_7 (fun y1464517 m1464518 b1464519 => ?_)
      refine q_icmp_ge (tgt := 106) hx hb dX0_payMortgages_10 (by decide) rfl rfl (fun c1464675 => ?_) (fun c1464675 => ?_)
      · exact e_V E hW rfl ⟨rfl, hF⟩ dX0_payMortgages_106
      · refine lv_aload_n hx hb dX0_payMortgages_13 rfl (lv_at hl 1 rfl) ?_
        refine fg_RX0_21 E hW rh0 dX0_payMortgages_14 (fun a1464676 m1464677 r1464678 => ?_)
        obtain rfl : a1464514 = a1464676 := (m1464515).symm.trans m1464677
        refine fg_RX0_219 E hW r1464516 dX0_payMortgages_17 (fun a1464679 m1464680 r1464681 => ?_)
        refine lv_iload_n hx hb dX0_payMortgages_20 rfl (lv_at hl 0 rfl) ?_
        refine gl_171 E hW r1464681 ⟨by omega, by omega⟩ dX0_payMortgages_21 (fun y1464682 m1464683 => ?_)
        refine lv_iconst (v := (-1)) hx hb dX0_payMortgages_22 (by decide) ?_
        have J1464758 : ∀ (f1464754 : Nat → va_E) (m1464755 : oI (f1464754 a1464514) 8 = y1464517) (m1464756 : oR (f1464754 a1464514) 11 = a1464679) (m1464757 : oR (f1464754 h0) 1 = a1464514) (H : Heap) (locs : List Loc) (ls : Array Slot), WS G cI cJ cZ cD cR cT A kp L f1464754 s H locs → FM kp L ms_X0_payMortgages f0 f1464754 → lv_has ls 2 [(1, .int y1464511), (0, .ref h0)] → W p l e ({ frames := 1, cells := 0, slots := 0, locals := 40 }) s m ([.ref h0] : List Value).toArray below meth c H locs 0 0 (MQ below (QT (po_X0_payMortgages kp L f0 h0) G cI cJ cZ cD cR cT A kp L) ([.ref h0] : List Value).toArray s 0 0 A) (F0 m 100 ls []) := by
          intro f1464754 m1464755 m1464756 m1464757 H locs ls hW hF hl
          refine q_iinc hx hb dX0_payMortgages_100 hl (k := 0) rfl rfl rfl (by omega) (by decide) (fun i1464759 ls h1464760 hl => ?_)
          have hl : lv_has ls 2 [(1, .int i1464759), (0, .ref h0)] := hl
          refine lv_goto (tgt := 2) hx hb dX0_payMortgages_103 (by decide) ?_
          exact ih2 f1464754 i1464759 (by omega) (by omega) _ _ _ hW hF (lv_sub hl [0, 1] rfl)
        refine q_icmp_eq (Y := -1) (tgt := 29) hx hb dX0_payMortgages_23 (by decide) rfl rfl (fun c1464761 => ?_) (fun c1464761 => ?_)
        · refine lv_aload_n hx hb dX0_payMortgages_29 rfl (lv_at hl 1 rfl) ?_
          refine fg_RX0_21 E hW rh0 dX0_payMortgages_30 (fun a1464762 m1464763 r1464764 => ?_)
          obtain rfl : a1464514 = a1464762 := (m1464677).symm.trans m1464763
          refine fg_RX0_201 E hW r1464516 dX0_payMortgages_33 (fun a1464765 m1464766 r1464767 => ?_)
          refine lv_iload_n hx hb dX0_payMortgages_36 rfl (lv_at hl 0 rfl) ?_
          refine gl_169 E hW r1464767 ⟨by omega, by omega⟩ dX0_payMortgages_37 (fun y1464768 m1464769 => ?_)
          refine lv_aload_n hx hb dX0_payMortgages_38 rfl (lv_at hl 1 rfl) ?_
          refine fg_RX0_21 E hW rh0 dX0_payMortgages_39 (fun a1464771 m1464772 r1464773 => ?_)
          obtain rfl : a1464514 = a1464771 := (m1464763).symm.trans m1464772
          refine fg_RX0_222 E hW r1464516 dX0_payMortgages_42 (fun a1464774 m1464775 r1464776 => ?_)
          refine lv_iload_n hx hb dX0_payMortgages_45 rfl (lv_at hl 0 rfl) ?_
          refine gl_170 E hW r1464776 ⟨by omega, by omega⟩ dX0_payMortgages_46 (fun y1464777 m1464778 => ?_)
          refine q_icmp_ge (tgt := 79) hx hb dX0_payMortgages_47 (by decide) rfl rfl (fun c1464780 => ?_) (fun c1464780 => ?_)
          · refine lv_aload_n hx hb dX0_payMortgages_79 rfl (lv_at hl 1 rfl) ?_
            refine fg_RX0_21 E hW rh0 dX0_payMortgages_80 (fun a1464781 m1464782 r1464783 => ?_)
            obtain rfl : a1464514 = a1464781 := (m1464772).symm.trans m1464782
            refine fg_RX0_201 E hW r1464516 dX0_payMortgages_83 (fun a1464784 m1464785 r1464786 => ?_)
            obtain rfl : a1464765 = a1464784 := (m1464766).symm.trans m1464785
            refine lv_iload_n hx hb dX0_payMortgages_86 rfl (lv_at hl 0 rfl) ?_
            refine lv_dup2_11 hx hb dX0_payMortgages_87 rfl rfl ?_
            refine gl_169 E hW r1464767 ⟨by omega, by omega⟩ dX0_payMortgages_88 (fun y1464787 m1464788 => ?_)
            obtain rfl : y1464768 = y1464787 := (m1464769).symm.trans m1464788
            refine lv_aload_n hx hb dX0_payMortgages_89 rfl (lv_at hl 1 rfl) ?_
            refine fg_RX0_21 E hW rh0 dX0_payMortgages_90 (fun a1464790 m1464791 r1464792 => ?_)
            obtain rfl : a1464514 = a1464790 := (m1464782).symm.trans m1464791
            refine fg_RX0_222 E hW r1464516 dX0_payMortgages_93 (fun a1464793 m1464794 r1464795 => ?_)
            obtain rfl : a1464774 = a1464793 := (m1464775).symm.trans m1464794
            refine lv_iload_n hx hb dX0_payMortgages_96 rfl (lv_at hl 0 rfl) ?_
            refine gl_170 E hW r1464776 ⟨by omega, by omega⟩ dX0_payMortgages_97 (fun y1464796 m1464797 => ?_)
            obtain rfl : y1464777 = y1464796 := (m1464778).symm.trans m1464797
            refine u_isub hx hb dX0_payMortgages_98 (fun x1464799 => ?_)
            refine gs_169 E hW r1464767 ⟨by omega, by omega⟩ dX0_payMortgages_99 (fun f1464800 H locs e1464801 n1464802 g1464803 hW => ?_)
            have hF := FM.tr hF g1464803 rfl
            exact J1464758 f1464800 ((fm_I g1464803 r1464516 rfl).trans m1464518) ((fm_R g1464803 r1464516 rfl).trans m1464680) ((fm_R g1464803 rh0 rfl).trans m1464791) _ _ _ hW hF (lv_sub hl [0, 1] rfl)
          · have hb1464804 : y1464768.toInt ≤ 2147483646 := by have := i32_b y1464777; omega
            have hb1464805 : -2147483647 ≤ y1464777.toInt := by have := i32_b y1464768; omega
            refine lv_aload_n hx hb dX0_payMortgages_50 rfl (lv_at hl 1 rfl) ?_
            refine fg_RX0_21 E hW rh0 dX0_payMortgages_51 (fun a1464806 m1464807 r1464808 => ?_)
            obtain rfl : a1464514 = a1464806 := (m1464772).symm.trans m1464807
            refine fg_RX0_219 E hW r1464516 dX0_payMortgages_54 (fun a1464809 m1464810 r1464811 => ?_)
            obtain rfl : a1464679 = a1464809 := (m1464680).symm.trans m1464810
            refine lv_iload_n hx hb dX0_payMortgages_57 rfl (lv_at hl 0 rfl) ?_
            refine lv_aload_n hx hb dX0_payMortgages_58 rfl (lv_at hl 1 rfl) ?_
            refine fg_RX0_93 E hW rh0 dX0_payMortgages_59 (fun y1464812 m1464813 b1464814 => ?_)
            refine lv_bipush (v := 13) hx hb dX0_payMortgages_62 (by decide) ?_
            refine q_idiv (Y := 13) hx hb dX0_payMortgages_64 rfl rfl (by omega) (by omega) (fun x1464815 h1464816 => ?_)
            refine gs_171 E hW r1464681 ⟨by omega, by omega⟩ dX0_payMortgages_65 (fun f1464817 H locs e1464818 n1464819 g1464820 hW => ?_)
            have hF := FM.tr hF g1464820 rfl
            refine lv_aload_n hx hb dX0_payMortgages_66 rfl (lv_at hl 1 rfl) ?_
            refine fg_RX0_21 E hW rh0 dX0_payMortgages_67 (fun a1464821 m1464822 r1464823 => ?_)
            obtain rfl : a1464514 = a1464821 := (((fm_R g1464820 rh0 rfl).trans m1464807)).symm.trans m1464822
            refine fg_RX0_201 E hW r1464516 dX0_payMortgages_70 (fun a1464824 m1464825 r1464826 => ?_)
            obtain rfl : a1464765 = a1464824 := (((fm_R g1464820 r1464516 rfl).trans m1464766)).symm.trans m1464825
            refine lv_iload_n hx hb dX0_payMortgages_73 rfl (lv_at hl 0 rfl) ?_
            refine lv_iconst (v := 0) hx hb dX0_payMortgages_74 (by decide) ?_
            refine gs_169 E hW r1464767 ⟨by omega, by omega⟩ dX0_payMortgages_75 (fun f1464827 H locs e1464828 n1464829 g1464830 hW => ?_)
            have hF := FM.tr hF g1464830 rfl
            refine lv_goto (tgt := 100) hx hb dX0_payMortgages_76 (by decide) ?_
            exact J1464758 f1464827 ((fm_I g1464830 r1464516 rfl).trans ((fm_I g1464820 r1464516 rfl).trans m1464518)) ((fm_R g1464830 r1464516 rfl).trans ((fm_R g1464820 r1464516 rfl).trans m1464810)) ((fm_R g1464830 rh0 rfl).trans m1464822) _ _ _ hW hF (lv_sub hl [0, 1] rfl)
        · refine lv_goto (tgt := 100) hx hb dX0_payMortgages_26 (by decide) ?_
          exact J1464758 f1464510 m1464518 m1464680 m1464677 _ _ _ hW hF (lv_sub hl [0, 1] rfl)
  have hk1464831 : (0 : Int32).toInt = 0 := rfl
  exact L1464513 9 f0 0 (by decide) (by omega) _ _ _ hW hF (lv_sub hl [0, 1] rfl)
def ms_X0_tellWrits : List (Nat × Nat) := [(10, 0), (701, 0), (702, 0), (703, 0), (704, 0), (705, 0), (706, 0)]
def po_X0_tellWrits (kp : Nat → Nat) (L : List Nat) (f0 : Nat → va_E) (h0 : Nat) : Option Value → (Nat → va_E) → Prop := fun v f => v = none ∧ FM kp L ms_X0_tellWrits f0 f
set_option maxHeartbeats 4000000 in
set_option maxRecDepth 100000 in
theorem c_X0_tellWrits (l : Launch) (G : va_G) (cI cJ cZ cD cR cT : ClassId) (kp : Nat → Nat) (L : List Nat) (f0 : Nat → va_E) (hTH : TH cI cJ cZ cD cR cT kp L f0) (sz : Nat) (h0 : Nat) (rh0 : RK kp L h0 0) : Met l yX0_tellWrits (Cond.code yX0_tellWrits cX0_tellWrits 2 none :: wTab) ({ frames := 3, cells := 0, slots := 0, locals := 87 }) (va_Pc [.ref h0] (PreW G (tys6 cI cJ cZ cD cR cT) (va_pl L f0) sz)) (QT (po_X0_tellWrits kp L f0 h0) G cI cJ cZ cD cR cT (va_A (va_pl L f0) sz) kp L) 0 0 (va_A (va_pl L f0) sz) := by
  refine metT (by decide) (Nat.le_of_ble_eq_true rfl) hTH ?_
  intro p e s m below meth c A ls E hW hl
  obtain ⟨hx, hb, -, hml, hown, hts, -, -, -⟩ := id E
  have hF : FM kp L ms_X0_tellWrits f0 f0 := FM.rf
  have hl : lv_has ls 2 [(0, .ref h0)] := hl
  refine lv_iconst (v := 0) hx hb dX0_tellWrits_0 (by decide) ?_
  refine lv_istore_n (lv' := [(1, .int 0), (0, .ref h0)]) hx hb dX0_tellWrits_1 rfl hl (by decide) rfl (fun ls hl => ?_)
  have L1467172 : ∀ (n : Nat), ∀ (f1467169 : Nat → va_E) (y1467170 : Int32) (b1467171 : (0 : Int) ≤ y1467170.toInt ∧ y1467170.toInt ≤ 40) (hm : (41 : Int) - y1467170.toInt ≤ n) (H : Heap) (locs : List Loc) (ls : Array Slot), WS G cI cJ cZ cD cR cT A kp L f1467169 s H locs → FM kp L ms_X0_tellWrits f0 f1467169 → lv_has ls 2 [(1, .int y1467170), (0, .ref h0)] → W p l e ({ frames := 3, cells := 0, slots := 0, locals := 87 }) s m ([.ref h0] : List Value).toArray below meth c H locs 0 0 (MQ below (QT (po_X0_tellWrits kp L f0 h0) G cI cJ cZ cD cR cT A kp L) ([.ref h0] : List Value).toArray s 0 0 A) (F0 m 2 ls []) := by
    intro n
    induction n with
    | zero =>
      intro f1467169 y1467170 b1467171 hm H locs ls hW hF hl
      have hz := i32_b y1467170
      exfalso; omega
    | succ n ih =>
      intro f1467169 y1467170 b1467171 hm H locs ls hW hF hl
      have ih2 := ih
      refine lv_iload_n hx hb dX0_tellWrits_2 rfl (lv_at hl 0 rfl) ?_
      refine lv_aload_n hx hb dX0_tellWrits_3 rfl (lv_at hl 1 rfl) ?_
      refine fg_RX0_21 E hW rh0 dX0_tellWrits_4 (fun a1467173 m1467174 r1467175 => ?_)
      refine fg_RX0_171 E hW r1467175 dX0_tellWrits_7 (fun y1467176 m1467177 b1467178 => ?_)
      refine q_icmp_ge (tgt := 85) hx hb dX0_tellWrits_10 (by decide) rfl rfl (fun c1467292 => ?_) (fun c1467292 => ?_)
      · exact e_V E hW rfl ⟨rfl, hF⟩ dX0_tellWrits_85
      · refine lv_aload_n hx hb dX0_tellWrits_13 rfl (lv_at hl 1 rfl) ?_
        refine fg_RX0_21 E hW rh0 dX0_tellWrits_14 (fun a1467293 m1467294 r1467295 => ?_)
        obtain rfl : a1467173 = a1467293 := (m1467174).symm.trans m1467294
        refine fg_RX0_124 E hW r1467175 dX0_tellWrits_17 (fun a1467296 m1467297 r1467298 => ?_)
        refine lv_iload_n hx hb dX0_tellWrits_20 rfl (lv_at hl 0 rfl) ?_
        refine gl_164 E hW r1467298 ⟨by omega, by omega⟩ dX0_tellWrits_21 (fun y1467299 m1467300 b1467301 => ?_)
        refine lv_iconst (v := (-1)) hx hb dX0_tellWrits_22 (by decide) ?_
        have J1467354 : ∀ (f1467350 : Nat → va_E) (m1467351 : oI (f1467350 a1467173) 0 = y1467176) (m1467352 : oR (f1467350 a1467173) 4 = a1467296) (m1467353 : oR (f1467350 h0) 1 = a1467173) (H : Heap) (locs : List Loc) (ls : Array Slot), WS G cI cJ cZ cD cR cT A kp L f1467350 s H locs → FM kp L ms_X0_tellWrits f0 f1467350 → lv_has ls 2 [(1, .int y1467170), (0, .ref h0)] → W p l e ({ frames := 3, cells := 0, slots := 0, locals := 87 }) s m ([.ref h0] : List Value).toArray below meth c H locs 0 0 (MQ below (QT (po_X0_tellWrits kp L f0 h0) G cI cJ cZ cD cR cT A kp L) ([.ref h0] : List Value).toArray s 0 0 A) (F0 m 79 ls []) := by
          intro f1467350 m1467351 m1467352 m1467353 H locs ls hW hF hl
          clear b1467301
          refine q_iinc hx hb dX0_tellWrits_79 hl (k := 0) rfl rfl rfl (by omega) (by decide) (fun i1467355 ls h1467356 hl => ?_)
          have hl : lv_has ls 2 [(1, .int i1467355), (0, .ref h0)] := hl
          refine lv_goto (tgt := 2) hx hb dX0_tellWrits_82 (by decide) ?_
          exact ih2 f1467350 i1467355 (by omega) (by omega) _ _ _ hW hF (lv_sub hl [0, 1] rfl)
        refine q_icmp_eq (Y := -1) (tgt := 79) hx hb dX0_tellWrits_23 (by decide) rfl rfl (fun c1467357 => ?_) (fun c1467357 => ?_)
        · exact J1467354 f1467169 m1467177 m1467297 m1467294 _ _ _ hW hF (lv_sub hl [0, 1] rfl)
        · refine lv_aload_n hx hb dX0_tellWrits_26 rfl (lv_at hl 1 rfl) ?_
          refine fg_RX0_21 E hW rh0 dX0_tellWrits_27 (fun a1467358 m1467359 r1467360 => ?_)
          obtain rfl : a1467173 = a1467358 := (m1467294).symm.trans m1467359
          refine fg_RX0_188 E hW r1467175 dX0_tellWrits_30 (fun a1467361 m1467362 r1467363 => ?_)
          refine lv_iload_n hx hb dX0_tellWrits_33 rfl (lv_at hl 0 rfl) ?_
          refine gl_165 E hW r1467363 ⟨by omega, by omega⟩ dX0_tellWrits_34 (fun y1467364 m1467365 => ?_)
          refine q_if_le (tgt := 79) hx hb dX0_tellWrits_35 (by decide) rfl (fun c1467367 => ?_) (fun c1467367 => ?_)
          · exact J1467354 f1467169 m1467177 m1467297 m1467359 _ _ _ hW hF (lv_sub hl [0, 1] rfl)
          · refine lv_aload_n hx hb dX0_tellWrits_38 rfl (lv_at hl 1 rfl) ?_
            refine fg_RX0_28 E hW rh0 dX0_tellWrits_39 (fun a1467368 m1467369 r1467370 => ?_)
            refine lv_iload_n hx hb dX0_tellWrits_42 rfl (lv_at hl 0 rfl) ?_
            refine t_callV (As := [.int y1467170]) (rest := []) E hW (c_X10_openOn l G cI cJ cZ cD cR cT kp L f1467169 hW.2.2.2 _ a1467368 y1467170 r1467370 (by omega)) r1467370 (by decide) rfl wk_X10_openOn tw_1143 rfl ⟨Nat.le_of_ble_eq_true rfl, Nat.le_of_ble_eq_true rfl⟩ ⟨rfl, rfl⟩ hl.1 rfl (Nat.le_of_ble_eq_true rfl) dX0_tellWrits_43 ⟨Nat.le_of_ble_eq_true rfl, Nat.le_of_ble_eq_true rfl⟩ (fun v1467371 f1467372 H locs q1467373 hW => ?_)
            obtain ⟨⟨x1467375, rfl, p1467376⟩, g1467374⟩ := q1467373
            have hF := FM.tr hF g1467374 rfl
            refine lv_iconst (v := (-1)) hx hb dX0_tellWrits_46 (by decide) ?_
            refine q_icmp_ne (Y := -1) (tgt := 79) hx hb dX0_tellWrits_47 (by decide) rfl rfl (fun c1467377 => ?_) (fun c1467377 => ?_)
            · exact J1467354 f1467372 ((fm_I g1467374 r1467175 rfl).trans m1467177) ((fm_R g1467374 r1467175 rfl).trans m1467297) ((fm_R g1467374 rh0 rfl).trans m1467359) _ _ _ hW hF (lv_sub hl [0, 1] rfl)
            · refine lv_aload_n hx hb dX0_tellWrits_50 rfl (lv_at hl 1 rfl) ?_
              refine fg_RX0_28 E hW rh0 dX0_tellWrits_51 (fun a1467378 m1467379 r1467380 => ?_)
              obtain rfl : a1467368 = a1467378 := (((fm_R g1467374 rh0 rfl).trans m1467369)).symm.trans m1467379
              refine lv_iload_n hx hb dX0_tellWrits_54 rfl (lv_at hl 0 rfl) ?_
              refine lv_aload_n hx hb dX0_tellWrits_55 rfl (lv_at hl 1 rfl) ?_
              refine fg_RX0_21 E hW rh0 dX0_tellWrits_56 (fun a1467381 m1467382 r1467383 => ?_)
              obtain rfl : a1467173 = a1467381 := (((fm_R g1467374 rh0 rfl).trans m1467359)).symm.trans m1467382
              refine fg_RX0_124 E hW r1467175 dX0_tellWrits_59 (fun a1467384 m1467385 r1467386 => ?_)
              obtain rfl : a1467296 = a1467384 := (((fm_R g1467374 r1467175 rfl).trans m1467297)).symm.trans m1467385
              refine lv_iload_n hx hb dX0_tellWrits_62 rfl (lv_at hl 0 rfl) ?_
              refine gl_164 E hW r1467298 ⟨by omega, by omega⟩ dX0_tellWrits_63 (fun y1467387 m1467388 b1467389 => ?_)
              obtain rfl : y1467299 = y1467387 := (((congrArg (fun z => aI z (y1467170 : Int32).toNatClampNeg) (fm_A g1467374 r1467298 (by decide) rfl)).trans m1467300)).symm.trans m1467388
              refine lv_aload_n hx hb dX0_tellWrits_64 rfl (lv_at hl 1 rfl) ?_
              refine fg_RX0_42 E hW rh0 dX0_tellWrits_65 (fun a1467390 m1467391 r1467392 => ?_)
              refine lv_iconst (v := 0) hx hb dX0_tellWrits_68 (by decide) ?_
              refine t_callV (As := [.int 0]) (rest := [.int y1467299, .int y1467170, .ref a1467368]) E hW (c_X2_weeksOf l G cI cJ cZ cD cR cT kp L f1467372 hW.2.2.2 _ a1467390 0 r1467392 (by decide)) r1467392 (by decide) rfl wk_X2_weeksOf tw_1144 rfl ⟨Nat.le_of_ble_eq_true rfl, Nat.le_of_ble_eq_true rfl⟩ ⟨rfl, rfl⟩ hl.1 rfl (Nat.le_of_ble_eq_true rfl) dX0_tellWrits_69 ⟨Nat.le_of_ble_eq_true rfl, Nat.le_of_ble_eq_true rfl⟩ (fun v1467393 f1467394 H locs q1467395 hW => ?_)
              obtain ⟨⟨x1467397, rfl, p1467398⟩, g1467396⟩ := q1467395
              clear p1467398
              have hF := FM.tr hF g1467396 rfl
              refine lv_aload_n hx hb dX0_tellWrits_72 rfl (lv_at hl 1 rfl) ?_
              refine fg_RX0_93 E hW rh0 dX0_tellWrits_73 (fun y1467399 m1467400 b1467401 => ?_)
              refine t_callV (As := [.int y1467170, .int y1467299, .int x1467397, .int y1467399]) (rest := []) E hW (c_X10_add l G cI cJ cZ cD cR cT kp L f1467394 hW.2.2.2 _ a1467368 y1467170 y1467299 x1467397 y1467399 r1467370 (by omega) (by omega) (by omega)) r1467370 (by decide) rfl wk_X10_add tw_1145 rfl ⟨Nat.le_of_ble_eq_true rfl, Nat.le_of_ble_eq_true rfl⟩ ⟨rfl, rfl⟩ hl.1 rfl (Nat.le_of_ble_eq_true rfl) dX0_tellWrits_76 ⟨Nat.le_of_ble_eq_true rfl, Nat.le_of_ble_eq_true rfl⟩ (fun v1467402 f1467403 H locs q1467404 hW => ?_)
              obtain ⟨rfl, g1467405⟩ := q1467404
              have hF := FM.tr hF g1467405 rfl
              exact J1467354 f1467403 ((fm_I g1467405 r1467175 rfl).trans ((fm_I g1467396 r1467175 rfl).trans ((fm_I g1467374 r1467175 rfl).trans m1467177))) ((fm_R g1467405 r1467175 rfl).trans ((fm_R g1467396 r1467175 rfl).trans m1467385)) ((fm_R g1467405 rh0 rfl).trans ((fm_R g1467396 rh0 rfl).trans m1467382)) _ _ _ hW hF (lv_sub hl [0, 1] rfl)
  have hk1467406 : (0 : Int32).toInt = 0 := rfl
  exact L1467172 41 f0 0 (by decide) (by omega) _ _ _ hW hF (lv_sub hl [0, 1] rfl)
def ms_X0_payDraws : List (Nat × Nat) := [(3, 0), (115, 0), (342, 0)]
def po_X0_payDraws (kp : Nat → Nat) (L : List Nat) (f0 : Nat → va_E) (h0 : Nat) : Option Value → (Nat → va_E) → Prop := fun v f => v = none ∧ FM kp L ms_X0_payDraws f0 f
set_option maxHeartbeats 4000000 in
set_option maxRecDepth 100000 in
theorem c_X0_payDraws (l : Launch) (G : va_G) (cI cJ cZ cD cR cT : ClassId) (kp : Nat → Nat) (L : List Nat) (f0 : Nat → va_E) (hTH : TH cI cJ cZ cD cR cT kp L f0) (sz : Nat) (h0 : Nat) (rh0 : RK kp L h0 0) : Met l yX0_payDraws (Cond.code yX0_payDraws cX0_payDraws 4 none :: wTab) ({ frames := 5, cells := 0, slots := 0, locals := 145 }) (va_Pc [.ref h0] (PreW G (tys6 cI cJ cZ cD cR cT) (va_pl L f0) sz)) (QT (po_X0_payDraws kp L f0 h0) G cI cJ cZ cD cR cT (va_A (va_pl L f0) sz) kp L) 0 0 (va_A (va_pl L f0) sz) := by
  refine metT (by decide) (Nat.le_of_ble_eq_true rfl) hTH ?_
  intro p e s m below meth c A ls E hW hl
  obtain ⟨hx, hb, -, hml, hown, hts, -, -, -⟩ := id E
  have hF : FM kp L ms_X0_payDraws f0 f0 := FM.rf
  have hl : lv_has ls 4 [(0, .ref h0)] := hl
  refine lv_iconst (v := 0) hx hb dX0_payDraws_0 (by decide) ?_
  refine lv_istore_n (lv' := [(1, .int 0), (0, .ref h0)]) hx hb dX0_payDraws_1 rfl hl (by decide) rfl (fun ls hl => ?_)
  have L1469899 : ∀ (n : Nat), ∀ (f1469896 : Nat → va_E) (y1469897 : Int32) (b1469898 : (0 : Int) ≤ y1469897.toInt ∧ y1469897.toInt ≤ 40) (hm : (41 : Int) - y1469897.toInt ≤ n) (H : Heap) (locs : List Loc) (ls : Array Slot), WS G cI cJ cZ cD cR cT A kp L f1469896 s H locs → FM kp L ms_X0_payDraws f0 f1469896 → lv_has ls 4 [(1, .int y1469897), (0, .ref h0)] → W p l e ({ frames := 5, cells := 0, slots := 0, locals := 145 }) s m ([.ref h0] : List Value).toArray below meth c H locs 0 0 (MQ below (QT (po_X0_payDraws kp L f0 h0) G cI cJ cZ cD cR cT A kp L) ([.ref h0] : List Value).toArray s 0 0 A) (F0 m 2 ls []) := by
    intro n
    induction n with
    | zero =>
      intro f1469896 y1469897 b1469898 hm H locs ls hW hF hl
      have hz := i32_b y1469897
      exfalso; omega
    | succ n ih =>
      intro f1469896 y1469897 b1469898 hm H locs ls hW hF hl
      have ih2 := ih
      refine lv_iload_n hx hb dX0_payDraws_2 rfl (lv_at hl 0 rfl) ?_
      refine lv_aload_n hx hb dX0_payDraws_3 rfl (lv_at hl 1 rfl) ?_
      refine fg_RX0_12 E hW rh0 dX0_payDraws_4 (fun a1469900 m1469901 r1469902 => ?_)
      refine fg_RX0_263 E hW r1469902 dX0_payDraws_7 (fun y1469903 m1469904 b1469905 => ?_)
      refine q_icmp_ge (tgt := 97) hx hb dX0_payDraws_10 (by decide) rfl rfl (fun c1470027 => ?_) (fun c1470027 => ?_)
      · exact e_V E hW rfl ⟨rfl, hF⟩ dX0_payDraws_97
      · refine lv_aload_n hx hb dX0_payDraws_13 rfl (lv_at hl 1 rfl) ?_
        refine fg_RX0_12 E hW rh0 dX0_payDraws_14 (fun a1470028 m1470029 r1470030 => ?_)
        obtain rfl : a1469900 = a1470028 := (m1469901).symm.trans m1470029
        refine fg_RX0_182 E hW r1469902 dX0_payDraws_17 (fun a1470031 m1470032 r1470033 => ?_)
        refine lv_iload_n hx hb dX0_payDraws_20 rfl (lv_at hl 0 rfl) ?_
        refine gl_346 E hW r1470033 ⟨by omega, by omega⟩ dX0_payDraws_21 (fun y1470034 m1470035 => ?_)
        refine lv_iconst (v := 1) hx hb dX0_payDraws_22 (by decide) ?_
        have J1470093 : ∀ (f1470089 : Nat → va_E) (m1470090 : oI (f1470089 a1469900) 0 = y1469903) (m1470091 : oR (f1470089 a1469900) 6 = a1470031) (m1470092 : oR (f1470089 h0) 0 = a1469900) (H : Heap) (locs : List Loc) (ls : Array Slot), WS G cI cJ cZ cD cR cT A kp L f1470089 s H locs → FM kp L ms_X0_payDraws f0 f1470089 → lv_has ls 4 [(1, .int y1469897), (0, .ref h0)] → W p l e ({ frames := 5, cells := 0, slots := 0, locals := 145 }) s m ([.ref h0] : List Value).toArray below meth c H locs 0 0 (MQ below (QT (po_X0_payDraws kp L f0 h0) G cI cJ cZ cD cR cT A kp L) ([.ref h0] : List Value).toArray s 0 0 A) (F0 m 91 ls []) := by
          intro f1470089 m1470090 m1470091 m1470092 H locs ls hW hF hl
          refine q_iinc hx hb dX0_payDraws_91 hl (k := 0) rfl rfl rfl (by omega) (by decide) (fun i1470094 ls h1470095 hl => ?_)
          have hl : lv_has ls 4 [(1, .int i1470094), (0, .ref h0)] := hl
          refine lv_goto (tgt := 2) hx hb dX0_payDraws_94 (by decide) ?_
          exact ih2 f1470089 i1470094 (by omega) (by omega) _ _ _ hW hF (lv_sub hl [0, 1] rfl)
        refine q_icmp_ne (Y := 1) (tgt := 91) hx hb dX0_payDraws_23 (by decide) rfl rfl (fun c1470096 => ?_) (fun c1470096 => ?_)
        · exact J1470093 f1469896 m1469904 m1470032 m1470029 _ _ _ hW hF (lv_sub hl [0, 1] rfl)
        · refine lv_aload_n hx hb dX0_payDraws_26 rfl (lv_at hl 1 rfl) ?_
          refine fg_RX0_12 E hW rh0 dX0_payDraws_27 (fun a1470097 m1470098 r1470099 => ?_)
          obtain rfl : a1469900 = a1470097 := (m1470029).symm.trans m1470098
          refine fg_RX0_130 E hW r1469902 dX0_payDraws_30 (fun a1470100 m1470101 r1470102 => ?_)
          refine lv_iload_n hx hb dX0_payDraws_33 rfl (lv_at hl 0 rfl) ?_
          refine gl_347 E hW r1470102 ⟨by omega, by omega⟩ dX0_payDraws_34 (fun y1470103 m1470104 => ?_)
          refine lv_iconst (v := (-1)) hx hb dX0_payDraws_35 (by decide) ?_
          refine q_icmp_ne (Y := -1) (tgt := 42) hx hb dX0_payDraws_36 (by decide) rfl rfl (fun c1470106 => ?_) (fun c1470106 => ?_)
          · refine lv_aload_n hx hb dX0_payDraws_42 rfl (lv_at hl 1 rfl) ?_
            refine lv_iload_n hx hb dX0_payDraws_43 rfl (lv_at hl 0 rfl) ?_
            refine t_callV (As := [.int y1469897]) (rest := []) E hW (c_X0_drawOf l G cI cJ cZ cD cR cT kp L f1469896 hW.2.2.2 _ h0 y1469897 rh0 (by omega)) rh0 (by decide) rfl wk_X0_drawOf tw_1162 rfl ⟨Nat.le_of_ble_eq_true rfl, Nat.le_of_ble_eq_true rfl⟩ ⟨rfl, rfl⟩ hl.1 rfl (Nat.le_of_ble_eq_true rfl) dX0_payDraws_44 ⟨Nat.le_of_ble_eq_true rfl, Nat.le_of_ble_eq_true rfl⟩ (fun v1470107 f1470108 H locs q1470109 hW => ?_)
            obtain ⟨⟨x1470111, rfl, p1470112⟩, g1470110⟩ := q1470109
            clear p1470112
            have hF := FM.tr hF g1470110 rfl
            refine lv_lstore_n (lv' := [(2, .long x1470111), (1, .int y1469897), (0, .ref h0)]) hx hb dX0_payDraws_47 rfl hl (by decide) rfl (fun ls hl => ?_)
            refine lv_lload_n hx hb dX0_payDraws_48 rfl (lv_at hl 0 rfl) ?_
            refine lv_lconst (v := 0) hx hb dX0_payDraws_49 (by decide) ?_
            refine q_lcmp_le (Y := 0) (tgt := 91) hx hb dX0_payDraws_50 dX0_payDraws_51 (by decide) rfl rfl (fun c1470113 => ?_) (fun c1470113 => ?_)
            · exact J1470093 f1470108 ((fm_I g1470110 r1469902 rfl).trans m1469904) ((fm_R g1470110 r1469902 rfl).trans m1470032) ((fm_R g1470110 rh0 rfl).trans m1470098) _ _ _ hW hF (lv_sub hl [1, 2] rfl)
            · refine lv_lload_n hx hb dX0_payDraws_54 rfl (lv_at hl 0 rfl) ?_
              refine lv_aload_n hx hb dX0_payDraws_55 rfl (lv_at hl 2 rfl) ?_
              refine fg_RX0_49 E hW rh0 dX0_payDraws_56 (fun a1470114 m1470115 r1470116 => ?_)
              refine fg_RX0_268 E hW r1470116 dX0_payDraws_59 (fun y1470117 m1470118 => ?_)
              refine q_i2l hx hb dX0_payDraws_62 rfl (fun x1470120 h1470121 => ?_)
              have hb1470122 : -2147483648 ≤ x1470120.toInt ∧ x1470120.toInt ≤ 2147483647 := by have := i32_b y1470117; omega
              refine q_lcmp_gt (tgt := 91) hx hb dX0_payDraws_63 dX0_payDraws_64 (by decide) rfl rfl (fun c1470123 => ?_) (fun c1470123 => ?_)
              · exact J1470093 f1470108 ((fm_I g1470110 r1469902 rfl).trans m1469904) ((fm_R g1470110 r1469902 rfl).trans m1470032) ((fm_R g1470110 rh0 rfl).trans m1470098) _ _ _ hW hF (lv_sub hl [1, 2] rfl)
              · refine lv_aload_n hx hb dX0_payDraws_67 rfl (lv_at hl 2 rfl) ?_
                refine fg_RX0_49 E hW rh0 dX0_payDraws_68 (fun a1470124 m1470125 r1470126 => ?_)
                obtain rfl : a1470114 = a1470124 := (m1470115).symm.trans m1470125
                refine lv_dup hx hb dX0_payDraws_71 rfl ?_
                refine fg_RX0_268 E hW r1470116 dX0_payDraws_72 (fun y1470127 m1470128 => ?_)
                obtain rfl : y1470117 = y1470127 := (m1470118).symm.trans m1470128
                refine lv_lload_n hx hb dX0_payDraws_75 rfl (lv_at hl 0 rfl) ?_
                refine q_l2i hx hb dX0_payDraws_76 rfl (by omega) (fun x1470130 h1470131 => ?_)
                have hb1470134 : -2147483648 ≤ y1470117.toInt ∧ y1470117.toInt ≤ 2147483647 := i32_b y1470117
                have hb1470135 : -2147483648 ≤ x1470130.toInt ∧ x1470130.toInt ≤ 2147483647 := i32_b x1470130
                refine q_isub hx hb dX0_payDraws_77 rfl rfl (by omega) (fun x1470132 h1470133 => ?_)
                refine fp_RX0_268 E hW r1470116 dX0_payDraws_78 (fun f1470136 H locs e1470137 n1470138 g1470139 hW => ?_)
                have hF := FM.tr hF g1470139 rfl
                refine lv_aload_n hx hb dX0_payDraws_81 rfl (lv_at hl 2 rfl) ?_
                refine fg_RX0_12 E hW rh0 dX0_payDraws_82 (fun a1470140 m1470141 r1470142 => ?_)
                obtain rfl : a1469900 = a1470140 := (((fm_R g1470139 rh0 rfl).trans ((fm_R g1470110 rh0 rfl).trans m1470098))).symm.trans m1470141
                refine lv_iload_n hx hb dX0_payDraws_85 rfl (lv_at hl 1 rfl) ?_
                refine lv_lload_n hx hb dX0_payDraws_86 rfl (lv_at hl 0 rfl) ?_
                refine q_l2i hx hb dX0_payDraws_87 rfl (by omega) (fun x1470143 h1470144 => ?_)
                refine t_callV (As := [.int y1469897, .int x1470143]) (rest := []) E hW (c_X4_gain l G cI cJ cZ cD cR cT kp L f1470136 hW.2.2.2 _ a1469900 y1469897 x1470143 r1469902 (by omega) (by omega)) r1469902 (by decide) rfl wk_X4_gain tw_1166 rfl ⟨Nat.le_of_ble_eq_true rfl, Nat.le_of_ble_eq_true rfl⟩ ⟨rfl, rfl⟩ hl.1 rfl (Nat.le_of_ble_eq_true rfl) dX0_payDraws_88 ⟨Nat.le_of_ble_eq_true rfl, Nat.le_of_ble_eq_true rfl⟩ (fun v1470145 f1470146 H locs q1470147 hW => ?_)
                obtain ⟨rfl, g1470148⟩ := q1470147
                have hF := FM.tr hF g1470148 rfl
                exact J1470093 f1470146 ((fm_I g1470148 r1469902 rfl).trans ((fm_I g1470139 r1469902 rfl).trans ((fm_I g1470110 r1469902 rfl).trans m1469904))) ((fm_R g1470148 r1469902 rfl).trans ((fm_R g1470139 r1469902 rfl).trans ((fm_R g1470110 r1469902 rfl).trans m1470032))) ((fm_R g1470148 rh0 rfl).trans m1470141) _ _ _ hW hF (lv_sub hl [1, 2] rfl)
          · refine lv_goto (tgt := 91) hx hb dX0_payDraws_39 (by decide) ?_
            exact J1470093 f1469896 m1469904 m1470032 m1470098 _ _ _ hW hF (lv_sub hl [0, 1] rfl)
  have hk1470149 : (0 : Int32).toInt = 0 := rfl
  exact L1469899 41 f0 0 (by decide) (by omega) _ _ _ hW hF (lv_sub hl [0, 1] rfl)
def ms_X0_renewBans : List (Nat × Nat) := [(115, 0), (348, 0), (349, 0)]
def po_X0_renewBans (kp : Nat → Nat) (L : List Nat) (f0 : Nat → va_E) (h0 : Nat) : Option Value → (Nat → va_E) → Prop := fun v f => v = none ∧ FM kp L ms_X0_renewBans f0 f
set_option maxHeartbeats 4000000 in
set_option maxRecDepth 100000 in
theorem c_X0_renewBans (l : Launch) (G : va_G) (cI cJ cZ cD cR cT : ClassId) (kp : Nat → Nat) (L : List Nat) (f0 : Nat → va_E) (hTH : TH cI cJ cZ cD cR cT kp L f0) (sz : Nat) (h0 : Nat) (rh0 : RK kp L h0 0) : Met l yX0_renewBans (Cond.code yX0_renewBans cX0_renewBans 2 none :: wTab) ({ frames := 5, cells := 0, slots := 0, locals := 143 }) (va_Pc [.ref h0] (PreW G (tys6 cI cJ cZ cD cR cT) (va_pl L f0) sz)) (QT (po_X0_renewBans kp L f0 h0) G cI cJ cZ cD cR cT (va_A (va_pl L f0) sz) kp L) 0 0 (va_A (va_pl L f0) sz) := by
  refine metT (by decide) (Nat.le_of_ble_eq_true rfl) hTH ?_
  intro p e s m below meth c A ls E hW hl
  obtain ⟨hx, hb, -, hml, hown, hts, -, -, -⟩ := id E
  have hF : FM kp L ms_X0_renewBans f0 f0 := FM.rf
  have hl : lv_has ls 2 [(0, .ref h0)] := hl
  refine lv_iconst (v := 0) hx hb dX0_renewBans_0 (by decide) ?_
  refine lv_istore_n (lv' := [(1, .int 0), (0, .ref h0)]) hx hb dX0_renewBans_1 rfl hl (by decide) rfl (fun ls hl => ?_)
  have L1470761 : ∀ (n : Nat), ∀ (f1470758 : Nat → va_E) (y1470759 : Int32) (b1470760 : (0 : Int) ≤ y1470759.toInt ∧ y1470759.toInt ≤ 40) (hm : (41 : Int) - y1470759.toInt ≤ n) (H : Heap) (locs : List Loc) (ls : Array Slot), WS G cI cJ cZ cD cR cT A kp L f1470758 s H locs → FM kp L ms_X0_renewBans f0 f1470758 → lv_has ls 2 [(1, .int y1470759), (0, .ref h0)] → W p l e ({ frames := 5, cells := 0, slots := 0, locals := 143 }) s m ([.ref h0] : List Value).toArray below meth c H locs 0 0 (MQ below (QT (po_X0_renewBans kp L f0 h0) G cI cJ cZ cD cR cT A kp L) ([.ref h0] : List Value).toArray s 0 0 A) (F0 m 2 ls []) := by
    intro n
    induction n with
    | zero =>
      intro f1470758 y1470759 b1470760 hm H locs ls hW hF hl
      have hz := i32_b y1470759
      exfalso; omega
    | succ n ih =>
      intro f1470758 y1470759 b1470760 hm H locs ls hW hF hl
      have ih2 := ih
      refine lv_iload_n hx hb dX0_renewBans_2 rfl (lv_at hl 0 rfl) ?_
      refine lv_aload_n hx hb dX0_renewBans_3 rfl (lv_at hl 1 rfl) ?_
      refine fg_RX0_12 E hW rh0 dX0_renewBans_4 (fun a1470762 m1470763 r1470764 => ?_)
      refine fg_RX0_263 E hW r1470764 dX0_renewBans_7 (fun y1470765 m1470766 b1470767 => ?_)
      refine q_icmp_ge (tgt := 45) hx hb dX0_renewBans_10 (by decide) rfl rfl (fun c1470790 => ?_) (fun c1470790 => ?_)
      · refine lv_aload_n hx hb dX0_renewBans_45 rfl (lv_at hl 1 rfl) ?_
        refine fg_RX0_12 E hW rh0 dX0_renewBans_46 (fun a1470791 m1470792 r1470793 => ?_)
        obtain rfl : a1470762 = a1470791 := (m1470763).symm.trans m1470792
        refine fg_RX0_274 E hW r1470764 dX0_renewBans_49 (fun a1470794 m1470795 r1470796 => ?_)
        refine lv_iconst (v := 0) hx hb dX0_renewBans_52 (by decide) ?_
        refine lv_aload_n hx hb dX0_renewBans_53 rfl (lv_at hl 1 rfl) ?_
        refine fg_RX0_12 E hW rh0 dX0_renewBans_54 (fun a1470797 m1470798 r1470799 => ?_)
        obtain rfl : a1470762 = a1470797 := (m1470792).symm.trans m1470798
        refine fg_RX0_277 E hW r1470764 dX0_renewBans_57 (fun a1470800 m1470801 r1470802 => ?_)
        refine lv_iconst (v := 0) hx hb dX0_renewBans_60 (by decide) ?_
        refine lv_aload_n hx hb dX0_renewBans_61 rfl (lv_at hl 1 rfl) ?_
        refine fg_RX0_12 E hW rh0 dX0_renewBans_62 (fun a1470803 m1470804 r1470805 => ?_)
        obtain rfl : a1470762 = a1470803 := (m1470798).symm.trans m1470804
        refine fg_RX0_263 E hW r1470764 dX0_renewBans_65 (fun y1470806 m1470807 b1470808 => ?_)
        obtain rfl : y1470765 = y1470806 := (m1470766).symm.trans m1470807
        refine t_copy (n0 := 40) (n1 := 40) E hW tw_1175 ⟨tw_1004, tw_1003, tw_122⟩ hl.1 rfl r1470796 (by decide) rfl r1470802 (by decide) rfl rfl (by decide) rfl (by decide) (by decide) ⟨by omega, by omega⟩ (fun _ _ => trivial) ⟨Nat.le_of_ble_eq_true rfl, Nat.le_of_ble_eq_true rfl⟩ dX0_renewBans_68 (fun f1470809 H locs n1470811 g1470812 hW => ?_)
        have hF := FM.tr hF g1470812 rfl
        exact e_V E hW rfl ⟨rfl, hF⟩ dX0_renewBans_71
      · refine lv_aload_n hx hb dX0_renewBans_13 rfl (lv_at hl 1 rfl) ?_
        refine fg_RX0_12 E hW rh0 dX0_renewBans_14 (fun a1470813 m1470814 r1470815 => ?_)
        obtain rfl : a1470762 = a1470813 := (m1470763).symm.trans m1470814
        refine fg_RX0_274 E hW r1470764 dX0_renewBans_17 (fun a1470816 m1470817 r1470818 => ?_)
        refine lv_iload_n hx hb dX0_renewBans_20 rfl (lv_at hl 0 rfl) ?_
        refine lv_aload_n hx hb dX0_renewBans_21 rfl (lv_at hl 1 rfl) ?_
        refine lv_sipush (v := 263) hx hb dX0_renewBans_22 (by decide) ?_
        refine lv_iload_n hx hb dX0_renewBans_25 rfl (lv_at hl 0 rfl) ?_
        refine lv_iconst (v := (-1)) hx hb dX0_renewBans_26 (by decide) ?_
        refine t_callV (As := [.int 263, .int y1470759, .int (-1)]) (rest := [.int y1470759, .ref a1470816]) E hW (c_X0_anyHolds l G cI cJ cZ cD cR cT kp L f1470758 hW.2.2.2 _ h0 263 y1470759 (-1) rh0 (by decide) (by omega) (by decide)) rh0 (by decide) rfl wk_X0_anyHolds tw_752 rfl ⟨Nat.le_of_ble_eq_true rfl, Nat.le_of_ble_eq_true rfl⟩ ⟨rfl, rfl⟩ hl.1 rfl (Nat.le_of_ble_eq_true rfl) dX0_renewBans_27 ⟨Nat.le_of_ble_eq_true rfl, Nat.le_of_ble_eq_true rfl⟩ (fun v1470819 f1470820 H locs q1470821 hW => ?_)
        obtain ⟨⟨x1470823, rfl, p1470824⟩, g1470822⟩ := q1470821
        have p1470824 : (0 : Int) ≤ x1470823.toInt ∧ x1470823.toInt ≤ 1 := p1470824
        have hF := FM.tr hF g1470822 rfl
        have J1470827 : ∀ (y1470825 : Int32) (b1470826 : (0 : Int) ≤ y1470825.toInt ∧ y1470825.toInt ≤ 1) (H : Heap) (locs : List Loc) (ls : Array Slot), WS G cI cJ cZ cD cR cT A kp L f1470820 s H locs → FM kp L ms_X0_renewBans f0 f1470820 → lv_has ls 2 [(1, .int y1470759), (0, .ref h0)] → W p l e ({ frames := 5, cells := 0, slots := 0, locals := 143 }) s m ([.ref h0] : List Value).toArray below meth c H locs 0 0 (MQ below (QT (po_X0_renewBans kp L f0 h0) G cI cJ cZ cD cR cT A kp L) ([.ref h0] : List Value).toArray s 0 0 A) (F0 m 38 ls [.int y1470825, .int y1470759, .ref a1470816]) := by
          intro y1470825 b1470826 H locs ls hW hF hl
          clear p1470824
          refine gs_349 E hW r1470818 ⟨by omega, by omega⟩ dX0_renewBans_38 (fun f1470828 H locs e1470829 n1470830 g1470831 hW => ?_)
          have hF := FM.tr hF g1470831 rfl
          refine q_iinc hx hb dX0_renewBans_39 hl (k := 0) rfl rfl rfl (by omega) (by decide) (fun i1470832 ls h1470833 hl => ?_)
          have hl : lv_has ls 2 [(1, .int i1470832), (0, .ref h0)] := hl
          refine lv_goto (tgt := 2) hx hb dX0_renewBans_42 (by decide) ?_
          exact ih2 f1470828 i1470832 (by omega) (by omega) _ _ _ hW hF (lv_sub hl [0, 1] rfl)
        refine q_if_eq (tgt := 37) hx hb dX0_renewBans_30 (by decide) rfl (fun c1470834 => ?_) (fun c1470834 => ?_)
        · refine lv_iconst (v := 0) hx hb dX0_renewBans_37 (by decide) ?_
          exact J1470827 0 (by decide) _ _ _ hW hF (lv_sub hl [0, 1] rfl)
        · refine lv_iconst (v := 1) hx hb dX0_renewBans_33 (by decide) ?_
          refine lv_goto (tgt := 38) hx hb dX0_renewBans_34 (by decide) ?_
          exact J1470827 1 (by decide) _ _ _ hW hF (lv_sub hl [0, 1] rfl)
  have hk1470835 : (0 : Int32).toInt = 0 := rfl
  exact L1470761 41 f0 0 (by decide) (by omega) _ _ _ hW hF (lv_sub hl [0, 1] rfl)
def ms_X0_passWeek : List (Nat × Nat) := [(0, 6), (0, 12), (0, 13), (0, 14), (3, 0), (10, 0), (115, 0), (164, 0), (165, 0), (166, 0), (167, 0), (169, 0), (171, 0), (222, 0), (223, 0), (342, 0), (345, 0), (346, 0), (347, 0), (348, 0), (349, 0), (701, 0), (702, 0), (703, 0), (704, 0), (705, 0), (706, 0)]
def po_X0_passWeek (kp : Nat → Nat) (L : List Nat) (f0 : Nat → va_E) (h0 : Nat) : Option Value → (Nat → va_E) → Prop := fun v f => v = none ∧ FM kp L ms_X0_passWeek f0 f
set_option maxHeartbeats 4000000 in
set_option maxRecDepth 100000 in
theorem c_X0_passWeek (l : Launch) (G : va_G) (cI cJ cZ cD cR cT : ClassId) (kp : Nat → Nat) (L : List Nat) (f0 : Nat → va_E) (hTH : TH cI cJ cZ cD cR cT kp L f0) (sz : Nat) (h0 : Nat) (rh0 : RK kp L h0 0) : Met l yX0_passWeek (Cond.code yX0_passWeek cX0_passWeek 2 none :: wTab) ({ frames := 6, cells := 0, slots := 0, locals := 170 }) (va_Pc [.ref h0] (PreW G (tys6 cI cJ cZ cD cR cT) (va_pl L f0) sz)) (QT (po_X0_passWeek kp L f0 h0) G cI cJ cZ cD cR cT (va_A (va_pl L f0) sz) kp L) 0 0 (va_A (va_pl L f0) sz) := by
  refine metT (by decide) (Nat.le_of_ble_eq_true rfl) hTH ?_
  intro p e s m below meth c A ls E hW hl
  obtain ⟨hx, hb, -, hml, hown, hts, -, -, -⟩ := id E
  have hF : FM kp L ms_X0_passWeek f0 f0 := FM.rf
  have hl : lv_has ls 2 [(0, .ref h0)] := hl
  refine lv_aload_n hx hb dX0_passWeek_0 rfl (lv_at hl 0 rfl) ?_
  refine fg_RX0_93 E hW rh0 dX0_passWeek_1 (fun y1470836 m1470837 b1470838 => ?_)
  refine lv_sipush (v := 399) hx hb dX0_passWeek_4 (by decide) ?_
  refine q_icmp_lt (Y := 399) (tgt := 11) hx hb dX0_passWeek_7 (by decide) rfl rfl (fun c1470839 => ?_) (fun c1470839 => ?_)
  · refine lv_aload_n hx hb dX0_passWeek_11 rfl (lv_at hl 0 rfl) ?_
    refine t_callV (As := []) (rest := []) E hW (c_X0_lookAtNow l G cI cJ cZ cD cR cT kp L f0 hW.2.2.2 _ h0 rh0) rh0 (by decide) rfl wk_X0_lookAtNow tw_1118 rfl ⟨Nat.le_of_ble_eq_true rfl, Nat.le_of_ble_eq_true rfl⟩ ⟨rfl, rfl⟩ hl.1 rfl (Nat.le_of_ble_eq_true rfl) dX0_passWeek_12 ⟨Nat.le_of_ble_eq_true rfl, Nat.le_of_ble_eq_true rfl⟩ (fun v1470840 f1470841 H locs q1470842 hW => ?_)
    obtain ⟨rfl, g1470843⟩ := q1470842
    have hF := FM.tr hF g1470843 rfl
    refine lv_aload_n hx hb dX0_passWeek_15 rfl (lv_at hl 0 rfl) ?_
    refine t_callV (As := []) (rest := []) E hW (c_X0_reap l G cI cJ cZ cD cR cT kp L f1470841 hW.2.2.2 _ h0 rh0) rh0 (by decide) rfl wk_X0_reap tw_1119 rfl ⟨Nat.le_of_ble_eq_true rfl, Nat.le_of_ble_eq_true rfl⟩ ⟨rfl, rfl⟩ hl.1 rfl (Nat.le_of_ble_eq_true rfl) dX0_passWeek_16 ⟨Nat.le_of_ble_eq_true rfl, Nat.le_of_ble_eq_true rfl⟩ (fun v1470844 f1470845 H locs q1470846 hW => ?_)
    obtain ⟨rfl, g1470847⟩ := q1470846
    have hF := FM.tr hF g1470847 rfl
    refine lv_aload_n hx hb dX0_passWeek_19 rfl (lv_at hl 0 rfl) ?_
    refine fg_RX0_93 E hW rh0 dX0_passWeek_20 (fun y1470848 m1470849 b1470850 => ?_)
    obtain rfl : y1470836 = y1470848 := (((fm_I g1470847 rh0 rfl).trans ((fm_I g1470843 rh0 rfl).trans m1470837))).symm.trans m1470849
    have J1470875 : ∀ (f1470873 : Nat → va_E) (m1470874 : oI (f1470873 h0) 6 = y1470836) (H : Heap) (locs : List Loc) (ls : Array Slot), WS G cI cJ cZ cD cR cT A kp L f1470873 s H locs → FM kp L ms_X0_passWeek f0 f1470873 → lv_has ls 2 [(0, .ref h0)] → W p l e ({ frames := 6, cells := 0, slots := 0, locals := 170 }) s m ([.ref h0] : List Value).toArray below meth c H locs 0 0 (MQ below (QT (po_X0_passWeek kp L f0 h0) G cI cJ cZ cD cR cT A kp L) ([.ref h0] : List Value).toArray s 0 0 A) (F0 m 55 ls []) := by
      intro f1470873 m1470874 H locs ls hW hF hl
      refine lv_iconst (v := 0) hx hb dX0_passWeek_55 (by decide) ?_
      refine lv_istore_n (lv' := [(1, .int 0), (0, .ref h0)]) hx hb dX0_passWeek_56 rfl hl (by decide) rfl (fun ls hl => ?_)
      have L1471805 : ∀ (n : Nat), ∀ (f1471801 : Nat → va_E) (y1471803 : Int32) (m1471802 : oI (f1471801 h0) 6 = y1470836) (b1471804 : (0 : Int) ≤ y1471803.toInt ∧ y1471803.toInt ≤ 60) (hm : (61 : Int) - y1471803.toInt ≤ n) (H : Heap) (locs : List Loc) (ls : Array Slot), WS G cI cJ cZ cD cR cT A kp L f1471801 s H locs → FM kp L ms_X0_passWeek f0 f1471801 → lv_has ls 2 [(1, .int y1471803), (0, .ref h0)] → W p l e ({ frames := 6, cells := 0, slots := 0, locals := 170 }) s m ([.ref h0] : List Value).toArray below meth c H locs 0 0 (MQ below (QT (po_X0_passWeek kp L f0 h0) G cI cJ cZ cD cR cT A kp L) ([.ref h0] : List Value).toArray s 0 0 A) (F0 m 57 ls []) := by
        intro n
        induction n with
        | zero =>
          intro f1471801 y1471803 m1471802 b1471804 hm H locs ls hW hF hl
          have hz := i32_b y1471803
          exfalso; omega
        | succ n ih =>
          intro f1471801 y1471803 m1471802 b1471804 hm H locs ls hW hF hl
          have ih57 := ih
          refine lv_iload_n hx hb dX0_passWeek_57 rfl (lv_at hl 0 rfl) ?_
          refine lv_aload_n hx hb dX0_passWeek_58 rfl (lv_at hl 1 rfl) ?_
          refine fg_RX0_28 E hW rh0 dX0_passWeek_59 (fun a1471806 m1471807 r1471808 => ?_)
          refine fg_RX0_148 E hW r1471808 dX0_passWeek_62 (fun y1471809 m1471810 b1471811 => ?_)
          refine q_icmp_ge (tgt := 92) hx hb dX0_passWeek_65 (by decide) rfl rfl (fun c1471838 => ?_) (fun c1471838 => ?_)
          · refine lv_aload_n hx hb dX0_passWeek_92 rfl (lv_at hl 1 rfl) ?_
            refine t_callV (As := []) (rest := []) E hW (c_X0_payDraws l G cI cJ cZ cD cR cT kp L f1471801 hW.2.2.2 _ h0 rh0) rh0 (by decide) rfl wk_X0_payDraws tw_1158 rfl ⟨Nat.le_of_ble_eq_true rfl, Nat.le_of_ble_eq_true rfl⟩ ⟨rfl, rfl⟩ hl.1 rfl (Nat.le_of_ble_eq_true rfl) dX0_passWeek_93 ⟨Nat.le_of_ble_eq_true rfl, Nat.le_of_ble_eq_true rfl⟩ (fun v1471839 f1471840 H locs q1471841 hW => ?_)
            obtain ⟨rfl, g1471842⟩ := q1471841
            have hF := FM.tr hF g1471842 rfl
            refine lv_aload_n hx hb dX0_passWeek_96 rfl (lv_at hl 1 rfl) ?_
            refine fg_RX0_64 E hW rh0 dX0_passWeek_97 (fun y1471843 m1471844 b1471845 => ?_)
            have J1471869 : ∀ (f1471864 : Nat → va_E) (m1471865 : oI (f1471864 a1471806) 0 = y1471809) (m1471866 : oR (f1471864 h0) 2 = a1471806) (m1471867 : oI (f1471864 h0) 6 = y1470836) (m1471868 : oI (f1471864 h0) 7 = y1471843) (H : Heap) (locs : List Loc) (ls : Array Slot), WS G cI cJ cZ cD cR cT A kp L f1471864 s H locs → FM kp L ms_X0_passWeek f0 f1471864 → lv_has ls 2 [(1, .int y1471803), (0, .ref h0)] → W p l e ({ frames := 6, cells := 0, slots := 0, locals := 170 }) s m ([.ref h0] : List Value).toArray below meth c H locs 0 0 (MQ below (QT (po_X0_passWeek kp L f0 h0) G cI cJ cZ cD cR cT A kp L) ([.ref h0] : List Value).toArray s 0 0 A) (F0 m 117 ls []) := by
              intro f1471864 m1471865 m1471866 m1471867 m1471868 H locs ls hW hF hl
              refine lv_aload_n hx hb dX0_passWeek_117 rfl (lv_at hl 1 rfl) ?_
              refine lv_dup hx hb dX0_passWeek_118 rfl ?_
              refine fg_RX0_93 E hW rh0 dX0_passWeek_119 (fun y1471870 m1471871 b1471872 => ?_)
              obtain rfl : y1470836 = y1471870 := (m1471867).symm.trans m1471871
              refine lv_iconst (v := 1) hx hb dX0_passWeek_122 (by decide) ?_
              refine q_iadd (Y := 1) hx hb dX0_passWeek_123 rfl rfl (by omega) (fun x1471873 h1471874 => ?_)
              refine fp_RX0_93 E hW rh0 (by omega) dX0_passWeek_124 (fun f1471875 H locs e1471876 n1471877 g1471878 hW => ?_)
              have hF := FM.tr hF g1471878 rfl
              exact e_V E hW rfl ⟨rfl, hF⟩ dX0_passWeek_127
            refine q_if_eq (tgt := 113) hx hb dX0_passWeek_100 (by decide) rfl (fun c1471879 => ?_) (fun c1471879 => ?_)
            · refine lv_aload_n hx hb dX0_passWeek_113 rfl (lv_at hl 1 rfl) ?_
              refine t_callV (As := []) (rest := []) E hW (c_X0_renewBans l G cI cJ cZ cD cR cT kp L f1471840 hW.2.2.2 _ h0 rh0) rh0 (by decide) rfl wk_X0_renewBans tw_1171 rfl ⟨Nat.le_of_ble_eq_true rfl, Nat.le_of_ble_eq_true rfl⟩ ⟨rfl, rfl⟩ hl.1 rfl (Nat.le_of_ble_eq_true rfl) dX0_passWeek_114 ⟨Nat.le_of_ble_eq_true rfl, Nat.le_of_ble_eq_true rfl⟩ (fun v1471880 f1471881 H locs q1471882 hW => ?_)
              obtain ⟨rfl, g1471883⟩ := q1471882
              have hF := FM.tr hF g1471883 rfl
              exact J1471869 f1471881 ((fm_I g1471883 r1471808 rfl).trans ((fm_I g1471842 r1471808 rfl).trans m1471810)) ((fm_R g1471883 rh0 rfl).trans ((fm_R g1471842 rh0 rfl).trans m1471807)) ((fm_I g1471883 rh0 rfl).trans ((fm_I g1471842 rh0 rfl).trans m1471802)) ((fm_I g1471883 rh0 rfl).trans m1471844) _ _ _ hW hF (lv_sub hl [0, 1] rfl)
            · refine lv_aload_n hx hb dX0_passWeek_103 rfl (lv_at hl 1 rfl) ?_
              refine fg_RX0_42 E hW rh0 dX0_passWeek_104 (fun a1471884 m1471885 r1471886 => ?_)
              refine t_callV (As := []) (rest := []) E hW (c_X2_asksBanned l G cI cJ cZ cD cR cT kp L f1471840 hW.2.2.2 _ a1471884 r1471886) r1471886 (by decide) rfl wk_X2_asksBanned tw_1167 rfl ⟨Nat.le_of_ble_eq_true rfl, Nat.le_of_ble_eq_true rfl⟩ ⟨rfl, rfl⟩ hl.1 rfl (Nat.le_of_ble_eq_true rfl) dX0_passWeek_107 ⟨Nat.le_of_ble_eq_true rfl, Nat.le_of_ble_eq_true rfl⟩ (fun v1471887 f1471888 H locs q1471889 hW => ?_)
              obtain ⟨⟨x1471891, rfl, p1471892⟩, g1471890⟩ := q1471889
              have hF := FM.tr hF g1471890 rfl
              refine q_if_eq (tgt := 117) hx hb dX0_passWeek_110 (by decide) rfl (fun c1471893 => ?_) (fun c1471893 => ?_)
              · exact J1471869 f1471888 ((fm_I g1471890 r1471808 rfl).trans ((fm_I g1471842 r1471808 rfl).trans m1471810)) ((fm_R g1471890 rh0 rfl).trans ((fm_R g1471842 rh0 rfl).trans m1471807)) ((fm_I g1471890 rh0 rfl).trans ((fm_I g1471842 rh0 rfl).trans m1471802)) ((fm_I g1471890 rh0 rfl).trans m1471844) _ _ _ hW hF (lv_sub hl [0, 1] rfl)
              · refine lv_aload_n hx hb dX0_passWeek_113 rfl (lv_at hl 1 rfl) ?_
                refine t_callV (As := []) (rest := []) E hW (c_X0_renewBans l G cI cJ cZ cD cR cT kp L f1471888 hW.2.2.2 _ h0 rh0) rh0 (by decide) rfl wk_X0_renewBans tw_1171 rfl ⟨Nat.le_of_ble_eq_true rfl, Nat.le_of_ble_eq_true rfl⟩ ⟨rfl, rfl⟩ hl.1 rfl (Nat.le_of_ble_eq_true rfl) dX0_passWeek_114 ⟨Nat.le_of_ble_eq_true rfl, Nat.le_of_ble_eq_true rfl⟩ (fun v1471894 f1471895 H locs q1471896 hW => ?_)
                obtain ⟨rfl, g1471897⟩ := q1471896
                have hF := FM.tr hF g1471897 rfl
                exact J1471869 f1471895 ((fm_I g1471897 r1471808 rfl).trans ((fm_I g1471890 r1471808 rfl).trans ((fm_I g1471842 r1471808 rfl).trans m1471810))) ((fm_R g1471897 rh0 rfl).trans ((fm_R g1471890 rh0 rfl).trans ((fm_R g1471842 rh0 rfl).trans m1471807))) ((fm_I g1471897 rh0 rfl).trans ((fm_I g1471890 rh0 rfl).trans ((fm_I g1471842 rh0 rfl).trans m1471802))) ((fm_I g1471897 rh0 rfl).trans ((fm_I g1471890 rh0 rfl).trans m1471844)) _ _ _ hW hF (lv_sub hl [0, 1] rfl)
          · refine lv_aload_n hx hb dX0_passWeek_68 rfl (lv_at hl 1 rfl) ?_
            refine fg_RX0_28 E hW rh0 dX0_passWeek_69 (fun a1471898 m1471899 r1471900 => ?_)
            obtain rfl : a1471806 = a1471898 := (m1471807).symm.trans m1471899
            refine fg_RX0_151 E hW r1471808 dX0_passWeek_72 (fun a1471901 m1471902 r1471903 => ?_)
            refine lv_iload_n hx hb dX0_passWeek_75 rfl (lv_at hl 0 rfl) ?_
            refine gl_706 E hW r1471903 ⟨by omega, by omega⟩ dX0_passWeek_76 (fun y1471904 m1471905 => ?_)
            refine lv_iconst (v := 1) hx hb dX0_passWeek_77 (by decide) ?_
            have J1471916 : ∀ (f1471911 : Nat → va_E) (m1471912 : oI (f1471911 a1471806) 0 = y1471809) (m1471913 : oR (f1471911 a1471806) 6 = a1471901) (m1471914 : oR (f1471911 h0) 2 = a1471806) (m1471915 : oI (f1471911 h0) 6 = y1470836) (H : Heap) (locs : List Loc) (ls : Array Slot), WS G cI cJ cZ cD cR cT A kp L f1471911 s H locs → FM kp L ms_X0_passWeek f0 f1471911 → lv_has ls 2 [(1, .int y1471803), (0, .ref h0)] → W p l e ({ frames := 6, cells := 0, slots := 0, locals := 170 }) s m ([.ref h0] : List Value).toArray below meth c H locs 0 0 (MQ below (QT (po_X0_passWeek kp L f0 h0) G cI cJ cZ cD cR cT A kp L) ([.ref h0] : List Value).toArray s 0 0 A) (F0 m 86 ls []) := by
              intro f1471911 m1471912 m1471913 m1471914 m1471915 H locs ls hW hF hl
              refine q_iinc hx hb dX0_passWeek_86 hl (k := 0) rfl rfl rfl (by omega) (by decide) (fun i1471917 ls h1471918 hl => ?_)
              have hl : lv_has ls 2 [(1, .int i1471917), (0, .ref h0)] := hl
              refine lv_goto (tgt := 57) hx hb dX0_passWeek_89 (by decide) ?_
              exact ih57 f1471911 i1471917 m1471915 (by omega) (by omega) _ _ _ hW hF (lv_sub hl [0, 1] rfl)
            refine q_icmp_ne (Y := 1) (tgt := 86) hx hb dX0_passWeek_78 (by decide) rfl rfl (fun c1471919 => ?_) (fun c1471919 => ?_)
            · exact J1471916 f1471801 m1471810 m1471902 m1471899 m1471802 _ _ _ hW hF (lv_sub hl [0, 1] rfl)
            · refine lv_aload_n hx hb dX0_passWeek_81 rfl (lv_at hl 1 rfl) ?_
              refine lv_iload_n hx hb dX0_passWeek_82 rfl (lv_at hl 0 rfl) ?_
              refine t_callV (As := [.int y1471803]) (rest := []) E hW (c_X0_advanceWrit l G cI cJ cZ cD cR cT kp L f1471801 hW.2.2.2 _ h0 y1471803 rh0 (by omega)) rh0 (by decide) rfl wk_X0_advanceWrit tw_1146 rfl ⟨Nat.le_of_ble_eq_true rfl, Nat.le_of_ble_eq_true rfl⟩ ⟨rfl, rfl⟩ hl.1 rfl (Nat.le_of_ble_eq_true rfl) dX0_passWeek_83 ⟨Nat.le_of_ble_eq_true rfl, Nat.le_of_ble_eq_true rfl⟩ (fun v1471920 f1471921 H locs q1471922 hW => ?_)
              obtain ⟨rfl, g1471923⟩ := q1471922
              have hF := FM.tr hF g1471923 rfl
              exact J1471916 f1471921 ((fm_I g1471923 r1471808 rfl).trans m1471810) ((fm_R g1471923 r1471808 rfl).trans m1471902) ((fm_R g1471923 rh0 rfl).trans m1471899) ((fm_I g1471923 rh0 rfl).trans m1471802) _ _ _ hW hF (lv_sub hl [0, 1] rfl)
      have hk1471924 : (0 : Int32).toInt = 0 := rfl
      exact L1471805 61 f1470873 0 m1470874 (by decide) (by omega) _ _ _ hW hF (lv_sub hl [0, 1] rfl)
    refine q_if_eq (tgt := 55) hx hb dX0_passWeek_23 (by decide) rfl (fun c1471925 => ?_) (fun c1471925 => ?_)
    · exact J1470875 f1470845 m1470849 _ _ _ hW hF (lv_sub hl [0] rfl)
    · refine lv_aload_n hx hb dX0_passWeek_26 rfl (lv_at hl 0 rfl) ?_
      refine fg_RX0_93 E hW rh0 dX0_passWeek_27 (fun y1471926 m1471927 b1471928 => ?_)
      obtain rfl : y1470836 = y1471926 := (m1470849).symm.trans m1471927
      refine lv_bipush (v := 13) hx hb dX0_passWeek_30 (by decide) ?_
      refine q_irem (Y := 13) hx hb dX0_passWeek_32 rfl rfl (by omega) (by omega) (fun x1471929 h1471930 => ?_)
      refine q_if_ne (tgt := 55) hx hb dX0_passWeek_33 (by decide) rfl (fun c1471931 => ?_) (fun c1471931 => ?_)
      · exact J1470875 f1470845 m1471927 _ _ _ hW hF (lv_sub hl [0] rfl)
      · refine lv_aload_n hx hb dX0_passWeek_36 rfl (lv_at hl 0 rfl) ?_
        refine t_callV (As := []) (rest := []) E hW (c_X0_collectRents l G cI cJ cZ cD cR cT kp L f1470845 hW.2.2.2 _ h0 rh0) rh0 (by decide) rfl wk_X0_collectRents tw_1124 rfl ⟨Nat.le_of_ble_eq_true rfl, Nat.le_of_ble_eq_true rfl⟩ ⟨rfl, rfl⟩ hl.1 rfl (Nat.le_of_ble_eq_true rfl) dX0_passWeek_37 ⟨Nat.le_of_ble_eq_true rfl, Nat.le_of_ble_eq_true rfl⟩ (fun v1471932 f1471933 H locs q1471934 hW => ?_)
        obtain ⟨rfl, g1471935⟩ := q1471934
        have hF := FM.tr hF g1471935 rfl
        refine lv_aload_n hx hb dX0_passWeek_40 rfl (lv_at hl 0 rfl) ?_
        refine t_callV (As := []) (rest := []) E hW (c_X0_payMortgages l G cI cJ cZ cD cR cT kp L f1471933 hW.2.2.2 _ h0 rh0) rh0 (by decide) rfl wk_X0_payMortgages tw_1135 rfl ⟨Nat.le_of_ble_eq_true rfl, Nat.le_of_ble_eq_true rfl⟩ ⟨rfl, rfl⟩ hl.1 rfl (Nat.le_of_ble_eq_true rfl) dX0_passWeek_41 ⟨Nat.le_of_ble_eq_true rfl, Nat.le_of_ble_eq_true rfl⟩ (fun v1471936 f1471937 H locs q1471938 hW => ?_)
        obtain ⟨rfl, g1471939⟩ := q1471938
        have hF := FM.tr hF g1471939 rfl
        refine lv_aload_n hx hb dX0_passWeek_44 rfl (lv_at hl 0 rfl) ?_
        refine fg_RX0_97 E hW rh0 dX0_passWeek_45 (fun y1471940 m1471941 b1471942 => ?_)
        refine q_if_eq (tgt := 55) hx hb dX0_passWeek_48 (by decide) rfl (fun c1471943 => ?_) (fun c1471943 => ?_)
        · exact J1470875 f1471937 ((fm_I g1471939 rh0 rfl).trans ((fm_I g1471935 rh0 rfl).trans m1471927)) _ _ _ hW hF (lv_sub hl [0] rfl)
        · refine lv_aload_n hx hb dX0_passWeek_51 rfl (lv_at hl 0 rfl) ?_
          refine t_callV (As := []) (rest := []) E hW (c_X0_tellWrits l G cI cJ cZ cD cR cT kp L f1471937 hW.2.2.2 _ h0 rh0) rh0 (by decide) rfl wk_X0_tellWrits tw_1139 rfl ⟨Nat.le_of_ble_eq_true rfl, Nat.le_of_ble_eq_true rfl⟩ ⟨rfl, rfl⟩ hl.1 rfl (Nat.le_of_ble_eq_true rfl) dX0_passWeek_52 ⟨Nat.le_of_ble_eq_true rfl, Nat.le_of_ble_eq_true rfl⟩ (fun v1471944 f1471945 H locs q1471946 hW => ?_)
          obtain ⟨rfl, g1471947⟩ := q1471946
          have hF := FM.tr hF g1471947 rfl
          exact J1470875 f1471945 ((fm_I g1471947 rh0 rfl).trans ((fm_I g1471939 rh0 rfl).trans ((fm_I g1471935 rh0 rfl).trans m1471927))) _ _ _ hW hF (lv_sub hl [0] rfl)
  · exact e_V E hW rfl ⟨rfl, hF⟩ dX0_passWeek_10
def ms_X0_settle : List (Nat × Nat) := [(164, 0), (166, 0), (347, 0)]
def po_X0_settle (kp : Nat → Nat) (L : List Nat) (f0 : Nat → va_E) (h0 : Nat) (u1 : Int32) (u2 : Int32) (u3 : Int32) : Option Value → (Nat → va_E) → Prop := fun v f => v = none ∧ FM kp L ms_X0_settle f0 f
set_option maxHeartbeats 4000000 in
set_option maxRecDepth 100000 in
theorem c_X0_settle (l : Launch) (G : va_G) (cI cJ cZ cD cR cT : ClassId) (kp : Nat → Nat) (L : List Nat) (f0 : Nat → va_E) (hTH : TH cI cJ cZ cD cR cT kp L f0) (sz : Nat) (h0 : Nat) (u1 : Int32) (u2 : Int32) (u3 : Int32) (rh0 : RK kp L h0 0) (pu1 : (0 : Int) ≤ u1.toInt ∧ u1.toInt ≤ 39) (pu2 : (0 : Int) ≤ u2.toInt ∧ u2.toInt ≤ 39) (pu3 : (0 : Int) ≤ u3.toInt ∧ u3.toInt ≤ 1) : Met l yX0_settle (Cond.code yX0_settle cX0_settle 4 none :: wTab) ({ frames := 1, cells := 0, slots := 0, locals := 40 }) (va_Pc [.ref h0, .int u1, .int u2, .int u3] (PreW G (tys6 cI cJ cZ cD cR cT) (va_pl L f0) sz)) (QT (po_X0_settle kp L f0 h0 u1 u2 u3) G cI cJ cZ cD cR cT (va_A (va_pl L f0) sz) kp L) 0 0 (va_A (va_pl L f0) sz) := by
  refine metT (by decide) (Nat.le_of_ble_eq_true rfl) hTH ?_
  intro p e s m below meth c A ls E hW hl
  obtain ⟨hx, hb, -, hml, hown, hts, -, -, -⟩ := id E
  have hF : FM kp L ms_X0_settle f0 f0 := FM.rf
  have hl : lv_has ls 4 [(0, .ref h0), (1, .int u1), (2, .int u2), (3, .int u3)] := hl
  refine lv_aload_n hx hb dX0_settle_0 rfl (lv_at hl 0 rfl) ?_
  refine fg_RX0_21 E hW rh0 dX0_settle_1 (fun a1471948 m1471949 r1471950 => ?_)
  refine fg_RX0_124 E hW r1471950 dX0_settle_4 (fun a1471951 m1471952 r1471953 => ?_)
  refine lv_iload_n hx hb dX0_settle_7 rfl (lv_at hl 2 rfl) ?_
  refine lv_iload_n hx hb dX0_settle_8 rfl (lv_at hl 1 rfl) ?_
  refine gs_164 E hW r1471953 ⟨by omega, by omega⟩ (by omega) dX0_settle_9 (fun f1471954 H locs e1471955 n1471956 g1471957 hW => ?_)
  have hF := FM.tr hF g1471957 rfl
  refine lv_aload_n hx hb dX0_settle_10 rfl (lv_at hl 0 rfl) ?_
  refine fg_RX0_21 E hW rh0 dX0_settle_11 (fun a1471958 m1471959 r1471960 => ?_)
  obtain rfl : a1471948 = a1471958 := (((fm_R g1471957 rh0 rfl).trans m1471949)).symm.trans m1471959
  refine fg_RX0_127 E hW r1471950 dX0_settle_14 (fun a1471961 m1471962 r1471963 => ?_)
  refine lv_iload_n hx hb dX0_settle_17 rfl (lv_at hl 2 rfl) ?_
  refine lv_iload_n hx hb dX0_settle_18 rfl (lv_at hl 3 rfl) ?_
  refine gs_166 E hW r1471963 ⟨by omega, by omega⟩ dX0_settle_19 (fun f1471964 H locs e1471965 n1471966 g1471967 hW => ?_)
  have hF := FM.tr hF g1471967 rfl
  refine lv_aload_n hx hb dX0_settle_20 rfl (lv_at hl 0 rfl) ?_
  refine fg_RX0_12 E hW rh0 dX0_settle_21 (fun a1471968 m1471969 r1471970 => ?_)
  refine fg_RX0_130 E hW r1471970 dX0_settle_24 (fun a1471971 m1471972 r1471973 => ?_)
  refine lv_iload_n hx hb dX0_settle_27 rfl (lv_at hl 1 rfl) ?_
  refine lv_iconst (v := (-1)) hx hb dX0_settle_28 (by decide) ?_
  refine gs_347 E hW r1471973 ⟨by omega, by omega⟩ dX0_settle_29 (fun f1471974 H locs e1471975 n1471976 g1471977 hW => ?_)
  have hF := FM.tr hF g1471977 rfl
  exact e_V E hW rfl ⟨rfl, hF⟩ dX0_settle_30
def ms_X0_tellCrops : List (Nat × Nat) := [(0, 9), (0, 10), (0, 11)]
def po_X0_tellCrops (kp : Nat → Nat) (L : List Nat) (f0 : Nat → va_E) (h0 : Nat) (u1 : Int32) (u2 : Int32) : Option Value → (Nat → va_E) → Prop := fun v f => v = none ∧ FM kp L ms_X0_tellCrops f0 f
set_option maxHeartbeats 4000000 in
set_option maxRecDepth 100000 in
theorem c_X0_tellCrops (l : Launch) (G : va_G) (cI cJ cZ cD cR cT : ClassId) (kp : Nat → Nat) (L : List Nat) (f0 : Nat → va_E) (hTH : TH cI cJ cZ cD cR cT kp L f0) (sz : Nat) (h0 : Nat) (u1 : Int32) (u2 : Int32) (rh0 : RK kp L h0 0) : Met l yX0_tellCrops (Cond.code yX0_tellCrops cX0_tellCrops 3 none :: wTab) ({ frames := 1, cells := 0, slots := 0, locals := 40 }) (va_Pc [.ref h0, .int u1, .int u2] (PreW G (tys6 cI cJ cZ cD cR cT) (va_pl L f0) sz)) (QT (po_X0_tellCrops kp L f0 h0 u1 u2) G cI cJ cZ cD cR cT (va_A (va_pl L f0) sz) kp L) 0 0 (va_A (va_pl L f0) sz) := by
  refine metT (by decide) (Nat.le_of_ble_eq_true rfl) hTH ?_
  intro p e s m below meth c A ls E hW hl
  obtain ⟨hx, hb, -, hml, hown, hts, -, -, -⟩ := id E
  have hF : FM kp L ms_X0_tellCrops f0 f0 := FM.rf
  have hl : lv_has ls 3 [(0, .ref h0), (1, .int u1), (2, .int u2)] := hl
  refine lv_aload_n hx hb dX0_tellCrops_0 rfl (lv_at hl 0 rfl) ?_
  refine lv_iconst (v := 1) hx hb dX0_tellCrops_1 (by decide) ?_
  refine fp_RX0_97 E hW rh0 (by decide) dX0_tellCrops_2 (fun f1471978 H locs e1471979 n1471980 g1471981 hW => ?_)
  have hF := FM.tr hF g1471981 rfl
  refine lv_aload_n hx hb dX0_tellCrops_5 rfl (lv_at hl 0 rfl) ?_
  refine lv_iload_n hx hb dX0_tellCrops_6 rfl (lv_at hl 1 rfl) ?_
  refine fp_RX0_107 E hW rh0 dX0_tellCrops_7 (fun f1471982 H locs e1471983 n1471984 g1471985 hW => ?_)
  have hF := FM.tr hF g1471985 rfl
  refine lv_aload_n hx hb dX0_tellCrops_10 rfl (lv_at hl 0 rfl) ?_
  refine lv_iload_n hx hb dX0_tellCrops_11 rfl (lv_at hl 2 rfl) ?_
  refine fp_RX0_110 E hW rh0 dX0_tellCrops_12 (fun f1471986 H locs e1471987 n1471988 g1471989 hW => ?_)
  have hF := FM.tr hF g1471989 rfl
  exact e_V E hW rfl ⟨rfl, hF⟩ dX0_tellCrops_15
