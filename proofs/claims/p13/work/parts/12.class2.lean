
def ms_X0_putOut : List (Nat × Nat) := [(0, 12), (164, 0), (166, 0), (167, 0), (346, 0), (347, 0)]
def po_X0_putOut (kp : Nat → Nat) (L : List Nat) (f0 : Nat → va_E) (h0 : Nat) (u1 : Int32) (u2 : Int32) : Option Value → (Nat → va_E) → Prop := fun v f => v = none ∧ FM kp L ms_X0_putOut f0 f
set_option maxHeartbeats 4000000 in
set_option maxRecDepth 100000 in
theorem c_X0_putOut (l : Launch) (G : va_G) (cI cJ cZ cD cR cT : ClassId) (kp : Nat → Nat) (L : List Nat) (f0 : Nat → va_E) (hTH : TH cI cJ cZ cD cR cT kp L f0) (sz : Nat) (h0 : Nat) (u1 : Int32) (u2 : Int32) (rh0 : RK kp L h0 0) (pu1 : (0 : Int) ≤ u1.toInt ∧ u1.toInt ≤ 39) (pu2 : (0 : Int) ≤ u2.toInt ∧ u2.toInt ≤ 39) : Met l yX0_putOut (Cond.code yX0_putOut cX0_putOut 3 none :: wTab) ({ frames := 2, cells := 0, slots := 0, locals := 62 }) (va_Pc [.ref h0, .int u1, .int u2] (PreW G (tys6 cI cJ cZ cD cR cT) (va_pl L f0) sz)) (QT (po_X0_putOut kp L f0 h0 u1 u2) G cI cJ cZ cD cR cT (va_A (va_pl L f0) sz) kp L) 0 0 (va_A (va_pl L f0) sz) := by
  refine metT (by decide) (Nat.le_of_ble_eq_true rfl) hTH ?_
  intro p e s m below meth c A ls E hW hl
  obtain ⟨hx, hb, -, hml, hown, hts, -, -, -⟩ := id E
  have hF : FM kp L ms_X0_putOut f0 f0 := FM.rf
  have hl : lv_has ls 3 [(0, .ref h0), (1, .int u1), (2, .int u2)] := hl
  refine lv_aload_n hx hb dX0_putOut_0 rfl (lv_at hl 0 rfl) ?_
  refine lv_dup hx hb dX0_putOut_1 rfl ?_
  refine fg_RX0_100 E hW rh0 dX0_putOut_2 (fun y1414128 m1414129 => ?_)
  refine lv_iconst (v := 1) hx hb dX0_putOut_5 (by decide) ?_
  refine u_iadd hx hb dX0_putOut_6 (fun x1414131 => ?_)
  refine fp_RX0_100 E hW rh0 dX0_putOut_7 (fun f1414132 H locs e1414133 n1414134 g1414135 hW => ?_)
  have hF := FM.tr hF g1414135 rfl
  refine lv_aload_n hx hb dX0_putOut_10 rfl (lv_at hl 0 rfl) ?_
  refine fg_RX0_21 E hW rh0 dX0_putOut_11 (fun a1414136 m1414137 r1414138 => ?_)
  refine fg_RX0_124 E hW r1414138 dX0_putOut_14 (fun a1414139 m1414140 r1414141 => ?_)
  refine lv_iload_n hx hb dX0_putOut_17 rfl (lv_at hl 1 rfl) ?_
  refine lv_iconst (v := (-1)) hx hb dX0_putOut_18 (by decide) ?_
  refine gs_164 E hW r1414141 ⟨by omega, by omega⟩ (by decide) dX0_putOut_19 (fun f1414142 H locs e1414143 n1414144 g1414145 hW => ?_)
  have hF := FM.tr hF g1414145 rfl
  refine lv_aload_n hx hb dX0_putOut_20 rfl (lv_at hl 0 rfl) ?_
  refine fg_RX0_21 E hW rh0 dX0_putOut_21 (fun a1414146 m1414147 r1414148 => ?_)
  obtain rfl : a1414136 = a1414146 := (((fm_R g1414145 rh0 rfl).trans m1414137)).symm.trans m1414147
  refine fg_RX0_127 E hW r1414138 dX0_putOut_24 (fun a1414149 m1414150 r1414151 => ?_)
  refine lv_iload_n hx hb dX0_putOut_27 rfl (lv_at hl 1 rfl) ?_
  refine lv_iconst (v := 0) hx hb dX0_putOut_28 (by decide) ?_
  refine gs_166 E hW r1414151 ⟨by omega, by omega⟩ dX0_putOut_29 (fun f1414152 H locs e1414153 n1414154 g1414155 hW => ?_)
  have hF := FM.tr hF g1414155 rfl
  refine lv_aload_n hx hb dX0_putOut_30 rfl (lv_at hl 0 rfl) ?_
  refine fg_RX0_21 E hW rh0 dX0_putOut_31 (fun a1414156 m1414157 r1414158 => ?_)
  obtain rfl : a1414136 = a1414156 := (((fm_R g1414155 rh0 rfl).trans m1414147)).symm.trans m1414157
  refine fg_RX0_256 E hW r1414138 dX0_putOut_34 (fun a1414159 m1414160 r1414161 => ?_)
  refine lv_iload_n hx hb dX0_putOut_37 rfl (lv_at hl 1 rfl) ?_
  refine lv_iconst (v := 1) hx hb dX0_putOut_38 (by decide) ?_
  refine gs_167 E hW r1414161 ⟨by omega, by omega⟩ dX0_putOut_39 (fun f1414162 H locs e1414163 n1414164 g1414165 hW => ?_)
  have hF := FM.tr hF g1414165 rfl
  refine lv_aload_n hx hb dX0_putOut_40 rfl (lv_at hl 0 rfl) ?_
  refine fg_RX0_12 E hW rh0 dX0_putOut_41 (fun a1414166 m1414167 r1414168 => ?_)
  refine fg_RX0_182 E hW r1414168 dX0_putOut_44 (fun a1414169 m1414170 r1414171 => ?_)
  refine lv_iload_n hx hb dX0_putOut_47 rfl (lv_at hl 2 rfl) ?_
  refine gl_346 E hW r1414171 ⟨by omega, by omega⟩ dX0_putOut_48 (fun y1414172 m1414173 => ?_)
  have J1414216 : ∀ (f1414208 : Nat → va_E) (m1414209 : oR (f1414208 a1414136) 4 = a1414139) (m1414210 : oR (f1414208 a1414136) 6 = a1414149) (m1414211 : oR (f1414208 a1414136) 7 = a1414159) (m1414212 : oR (f1414208 a1414166) 6 = a1414169) (m1414213 : oR (f1414208 h0) 0 = a1414166) (m1414214 : oR (f1414208 h0) 1 = a1414136) (m1414215 : oI (f1414208 h0) 12 = x1414131) (H : Heap) (locs : List Loc) (ls : Array Slot), WS G cI cJ cZ cD cR cT A kp L f1414208 s H locs → FM kp L ms_X0_putOut f0 f1414208 → lv_has ls 3 [(0, .ref h0), (1, .int u1), (2, .int u2)] → W p l e ({ frames := 2, cells := 0, slots := 0, locals := 62 }) s m ([.ref h0, .int u1, .int u2] : List Value).toArray below meth c H locs 0 0 (MQ below (QT (po_X0_putOut kp L f0 h0 u1 u2) G cI cJ cZ cD cR cT A kp L) ([.ref h0, .int u1, .int u2] : List Value).toArray s 0 0 A) (F0 m 86 ls []) := by
    intro f1414208 m1414209 m1414210 m1414211 m1414212 m1414213 m1414214 m1414215 H locs ls hW hF hl
    exact e_V E hW rfl ⟨rfl, hF⟩ dX0_putOut_86
  refine q_if_ne (tgt := 86) hx hb dX0_putOut_49 (by decide) rfl (fun c1414217 => ?_) (fun c1414217 => ?_)
  · exact J1414216 f1414162 ((fm_R g1414165 r1414138 rfl).trans ((fm_R g1414155 r1414138 rfl).trans ((fm_R g1414145 r1414138 rfl).trans m1414140))) ((fm_R g1414165 r1414138 rfl).trans ((fm_R g1414155 r1414138 rfl).trans m1414150)) ((fm_R g1414165 r1414138 rfl).trans m1414160) m1414170 m1414167 ((fm_R g1414165 rh0 rfl).trans m1414157) ((fm_I g1414165 rh0 rfl).trans ((fm_I g1414155 rh0 rfl).trans ((fm_I g1414145 rh0 rfl).trans e1414133))) _ _ _ hW hF (lv_sub hl [0, 1, 2] rfl)
  · refine lv_aload_n hx hb dX0_putOut_52 rfl (lv_at hl 0 rfl) ?_
    refine fg_RX0_21 E hW rh0 dX0_putOut_53 (fun a1414218 m1414219 r1414220 => ?_)
    obtain rfl : a1414136 = a1414218 := (((fm_R g1414165 rh0 rfl).trans m1414157)).symm.trans m1414219
    refine lv_iload_n hx hb dX0_putOut_56 rfl (lv_at hl 2 rfl) ?_
    refine t_callV (As := [.int u2]) (rest := []) E hW (c_X1_isHeldBy l G cI cJ cZ cD cR cT kp L f1414162 hW.2.2.2 _ a1414136 u2 r1414138 (by omega)) r1414138 (by decide) rfl wk_X1_isHeldBy tw_728 rfl ⟨Nat.le_of_ble_eq_true rfl, Nat.le_of_ble_eq_true rfl⟩ ⟨rfl, rfl⟩ hl.1 rfl (Nat.le_of_ble_eq_true rfl) dX0_putOut_57 ⟨Nat.le_of_ble_eq_true rfl, Nat.le_of_ble_eq_true rfl⟩ (fun v1414221 f1414222 H locs q1414223 hW => ?_)
    obtain ⟨⟨x1414225, rfl, p1414226⟩, g1414224⟩ := q1414223
    have hF := FM.tr hF g1414224 rfl
    refine q_if_ne (tgt := 86) hx hb dX0_putOut_60 (by decide) rfl (fun c1414227 => ?_) (fun c1414227 => ?_)
    · exact J1414216 f1414222 ((fm_R g1414224 r1414138 rfl).trans ((fm_R g1414165 r1414138 rfl).trans ((fm_R g1414155 r1414138 rfl).trans ((fm_R g1414145 r1414138 rfl).trans m1414140)))) ((fm_R g1414224 r1414138 rfl).trans ((fm_R g1414165 r1414138 rfl).trans ((fm_R g1414155 r1414138 rfl).trans m1414150))) ((fm_R g1414224 r1414138 rfl).trans ((fm_R g1414165 r1414138 rfl).trans m1414160)) ((fm_R g1414224 r1414168 rfl).trans m1414170) ((fm_R g1414224 rh0 rfl).trans m1414167) ((fm_R g1414224 rh0 rfl).trans m1414219) ((fm_I g1414224 rh0 rfl).trans ((fm_I g1414165 rh0 rfl).trans ((fm_I g1414155 rh0 rfl).trans ((fm_I g1414145 rh0 rfl).trans e1414133)))) _ _ _ hW hF (lv_sub hl [0, 1, 2] rfl)
    · refine lv_aload_n hx hb dX0_putOut_63 rfl (lv_at hl 0 rfl) ?_
      refine fg_RX0_12 E hW rh0 dX0_putOut_64 (fun a1414228 m1414229 r1414230 => ?_)
      obtain rfl : a1414166 = a1414228 := (((fm_R g1414224 rh0 rfl).trans m1414167)).symm.trans m1414229
      refine fg_RX0_182 E hW r1414168 dX0_putOut_67 (fun a1414231 m1414232 r1414233 => ?_)
      obtain rfl : a1414169 = a1414231 := (((fm_R g1414224 r1414168 rfl).trans m1414170)).symm.trans m1414232
      refine lv_iload_n hx hb dX0_putOut_70 rfl (lv_at hl 2 rfl) ?_
      refine lv_iconst (v := 1) hx hb dX0_putOut_71 (by decide) ?_
      refine gs_346 E hW r1414171 ⟨by omega, by omega⟩ dX0_putOut_72 (fun f1414234 H locs e1414235 n1414236 g1414237 hW => ?_)
      have hF := FM.tr hF g1414237 rfl
      refine lv_aload_n hx hb dX0_putOut_73 rfl (lv_at hl 0 rfl) ?_
      refine fg_RX0_12 E hW rh0 dX0_putOut_74 (fun a1414238 m1414239 r1414240 => ?_)
      obtain rfl : a1414166 = a1414238 := (((fm_R g1414237 rh0 rfl).trans m1414229)).symm.trans m1414239
      refine fg_RX0_130 E hW r1414168 dX0_putOut_77 (fun a1414241 m1414242 r1414243 => ?_)
      refine lv_iload_n hx hb dX0_putOut_80 rfl (lv_at hl 2 rfl) ?_
      refine lv_aload_n hx hb dX0_putOut_81 rfl (lv_at hl 0 rfl) ?_
      refine fg_RX0_93 E hW rh0 dX0_putOut_82 (fun y1414244 m1414245 b1414246 => ?_)
      refine gs_347 E hW r1414243 ⟨by omega, by omega⟩ dX0_putOut_85 (fun f1414247 H locs e1414248 n1414249 g1414250 hW => ?_)
      have hF := FM.tr hF g1414250 rfl
      exact J1414216 f1414247 ((fm_R g1414250 r1414138 rfl).trans ((fm_R g1414237 r1414138 rfl).trans ((fm_R g1414224 r1414138 rfl).trans ((fm_R g1414165 r1414138 rfl).trans ((fm_R g1414155 r1414138 rfl).trans ((fm_R g1414145 r1414138 rfl).trans m1414140)))))) ((fm_R g1414250 r1414138 rfl).trans ((fm_R g1414237 r1414138 rfl).trans ((fm_R g1414224 r1414138 rfl).trans ((fm_R g1414165 r1414138 rfl).trans ((fm_R g1414155 r1414138 rfl).trans m1414150))))) ((fm_R g1414250 r1414138 rfl).trans ((fm_R g1414237 r1414138 rfl).trans ((fm_R g1414224 r1414138 rfl).trans ((fm_R g1414165 r1414138 rfl).trans m1414160)))) ((fm_R g1414250 r1414168 rfl).trans ((fm_R g1414237 r1414168 rfl).trans m1414232)) ((fm_R g1414250 rh0 rfl).trans m1414239) ((fm_R g1414250 rh0 rfl).trans ((fm_R g1414237 rh0 rfl).trans ((fm_R g1414224 rh0 rfl).trans m1414219))) ((fm_I g1414250 rh0 rfl).trans ((fm_I g1414237 rh0 rfl).trans ((fm_I g1414224 rh0 rfl).trans ((fm_I g1414165 rh0 rfl).trans ((fm_I g1414155 rh0 rfl).trans ((fm_I g1414145 rh0 rfl).trans e1414133)))))) _ _ _ hW hF (lv_sub hl [0, 1, 2] rfl)
def ms_X0_advanceWrit : List (Nat × Nat) := [(0, 12), (164, 0), (166, 0), (167, 0), (346, 0), (347, 0), (703, 0), (704, 0), (706, 0)]
def po_X0_advanceWrit (kp : Nat → Nat) (L : List Nat) (f0 : Nat → va_E) (h0 : Nat) (u1 : Int32) : Option Value → (Nat → va_E) → Prop := fun v f => v = none ∧ FM kp L ms_X0_advanceWrit f0 f
set_option maxHeartbeats 4000000 in
set_option maxRecDepth 100000 in
theorem c_X0_advanceWrit (l : Launch) (G : va_G) (cI cJ cZ cD cR cT : ClassId) (kp : Nat → Nat) (L : List Nat) (f0 : Nat → va_E) (hTH : TH cI cJ cZ cD cR cT kp L f0) (sz : Nat) (h0 : Nat) (u1 : Int32) (rh0 : RK kp L h0 0) (pu1 : (0 : Int) ≤ u1.toInt ∧ u1.toInt ≤ 59) : Met l yX0_advanceWrit (Cond.code yX0_advanceWrit cX0_advanceWrit 3 none :: wTab) ({ frames := 3, cells := 0, slots := 0, locals := 87 }) (va_Pc [.ref h0, .int u1] (PreW G (tys6 cI cJ cZ cD cR cT) (va_pl L f0) sz)) (QT (po_X0_advanceWrit kp L f0 h0 u1) G cI cJ cZ cD cR cT (va_A (va_pl L f0) sz) kp L) 0 0 (va_A (va_pl L f0) sz) := by
  refine metT (by decide) (Nat.le_of_ble_eq_true rfl) hTH ?_
  intro p e s m below meth c A ls E hW hl
  obtain ⟨hx, hb, -, hml, hown, hts, -, -, -⟩ := id E
  have hF : FM kp L ms_X0_advanceWrit f0 f0 := FM.rf
  have hl : lv_has ls 3 [(0, .ref h0), (1, .int u1)] := hl
  refine lv_aload_n hx hb dX0_advanceWrit_0 rfl (lv_at hl 0 rfl) ?_
  refine fg_RX0_28 E hW rh0 dX0_advanceWrit_1 (fun a1414251 m1414252 r1414253 => ?_)
  refine fg_RX0_235 E hW r1414253 dX0_advanceWrit_4 (fun a1414254 m1414255 r1414256 => ?_)
  refine lv_iload_n hx hb dX0_advanceWrit_7 rfl (lv_at hl 1 rfl) ?_
  refine gl_701 E hW r1414256 ⟨by omega, by omega⟩ dX0_advanceWrit_8 (fun y1414257 m1414258 b1414259 => ?_)
  refine lv_istore_n (lv' := [(2, .int y1414257), (0, .ref h0), (1, .int u1)]) hx hb dX0_advanceWrit_9 rfl hl (by decide) rfl (fun ls hl => ?_)
  refine lv_aload_n hx hb dX0_advanceWrit_10 rfl (lv_at hl 1 rfl) ?_
  refine fg_RX0_21 E hW rh0 dX0_advanceWrit_11 (fun a1414260 m1414261 r1414262 => ?_)
  refine fg_RX0_188 E hW r1414262 dX0_advanceWrit_14 (fun a1414263 m1414264 r1414265 => ?_)
  refine lv_iload_n hx hb dX0_advanceWrit_17 rfl (lv_at hl 0 rfl) ?_
  refine gl_165 E hW r1414265 ⟨by omega, by omega⟩ dX0_advanceWrit_18 (fun y1414266 m1414267 => ?_)
  refine q_if_eq (tgt := 43) hx hb dX0_advanceWrit_19 (by decide) rfl (fun c1414269 => ?_) (fun c1414269 => ?_)
  · refine lv_aload_n hx hb dX0_advanceWrit_43 rfl (lv_at hl 1 rfl) ?_
    refine fg_RX0_28 E hW rh0 dX0_advanceWrit_44 (fun a1414270 m1414271 r1414272 => ?_)
    obtain rfl : a1414251 = a1414270 := (m1414252).symm.trans m1414271
    refine fg_RX0_151 E hW r1414253 dX0_advanceWrit_47 (fun a1414273 m1414274 r1414275 => ?_)
    refine lv_iload_n hx hb dX0_advanceWrit_50 rfl (lv_at hl 2 rfl) ?_
    refine lv_iconst (v := 0) hx hb dX0_advanceWrit_51 (by decide) ?_
    refine gs_706 E hW r1414275 ⟨by omega, by omega⟩ dX0_advanceWrit_52 (fun f1414276 H locs e1414277 n1414278 g1414279 hW => ?_)
    have hF := FM.tr hF g1414279 rfl
    exact e_V E hW rfl ⟨rfl, hF⟩ dX0_advanceWrit_53
  · refine lv_aload_n hx hb dX0_advanceWrit_22 rfl (lv_at hl 1 rfl) ?_
    refine fg_RX0_21 E hW rh0 dX0_advanceWrit_23 (fun a1414280 m1414281 r1414282 => ?_)
    obtain rfl : a1414260 = a1414280 := (m1414261).symm.trans m1414281
    refine fg_RX0_124 E hW r1414262 dX0_advanceWrit_26 (fun a1414283 m1414284 r1414285 => ?_)
    refine lv_iload_n hx hb dX0_advanceWrit_29 rfl (lv_at hl 0 rfl) ?_
    refine gl_164 E hW r1414285 ⟨by omega, by omega⟩ dX0_advanceWrit_30 (fun y1414286 m1414287 b1414288 => ?_)
    refine lv_aload_n hx hb dX0_advanceWrit_31 rfl (lv_at hl 1 rfl) ?_
    refine fg_RX0_28 E hW rh0 dX0_advanceWrit_32 (fun a1414289 m1414290 r1414291 => ?_)
    obtain rfl : a1414251 = a1414289 := (m1414252).symm.trans m1414290
    refine fg_RX0_238 E hW r1414253 dX0_advanceWrit_35 (fun a1414292 m1414293 r1414294 => ?_)
    refine lv_iload_n hx hb dX0_advanceWrit_38 rfl (lv_at hl 2 rfl) ?_
    refine gl_702 E hW r1414294 ⟨by omega, by omega⟩ dX0_advanceWrit_39 (fun y1414295 m1414296 b1414297 => ?_)
    refine q_icmp_eq (tgt := 54) hx hb dX0_advanceWrit_40 (by decide) rfl rfl (fun c1414298 => ?_) (fun c1414298 => ?_)
    · refine lv_aload_n hx hb dX0_advanceWrit_54 rfl (lv_at hl 1 rfl) ?_
      refine fg_RX0_28 E hW rh0 dX0_advanceWrit_55 (fun a1414299 m1414300 r1414301 => ?_)
      obtain rfl : a1414251 = a1414299 := (m1414290).symm.trans m1414300
      refine fg_RX0_239 E hW r1414253 dX0_advanceWrit_58 (fun a1414302 m1414303 r1414304 => ?_)
      refine lv_iload_n hx hb dX0_advanceWrit_61 rfl (lv_at hl 2 rfl) ?_
      refine gl_705 E hW r1414304 ⟨by omega, by omega⟩ dX0_advanceWrit_62 (fun y1414305 m1414306 => ?_)
      refine lv_aload_n hx hb dX0_advanceWrit_63 rfl (lv_at hl 1 rfl) ?_
      refine fg_RX0_93 E hW rh0 dX0_advanceWrit_64 (fun y1414308 m1414309 b1414310 => ?_)
      refine q_icmp_eq (tgt := 85) hx hb dX0_advanceWrit_67 (by decide) rfl rfl (fun c1414311 => ?_) (fun c1414311 => ?_)
      · exact e_V E hW rfl ⟨rfl, hF⟩ dX0_advanceWrit_85
      · refine lv_aload_n hx hb dX0_advanceWrit_70 rfl (lv_at hl 1 rfl) ?_
        refine fg_RX0_28 E hW rh0 dX0_advanceWrit_71 (fun a1414312 m1414313 r1414314 => ?_)
        obtain rfl : a1414251 = a1414312 := (m1414300).symm.trans m1414313
        refine lv_iload_n hx hb dX0_advanceWrit_74 rfl (lv_at hl 0 rfl) ?_
        refine lv_aload_n hx hb dX0_advanceWrit_75 rfl (lv_at hl 1 rfl) ?_
        refine fg_RX0_93 E hW rh0 dX0_advanceWrit_76 (fun y1414315 m1414316 b1414317 => ?_)
        obtain rfl : y1414308 = y1414315 := (m1414309).symm.trans m1414316
        refine t_callV (As := [.int y1414257, .int y1414308]) (rest := []) E hW (c_X10_isGuarded l G cI cJ cZ cD cR cT kp L f0 hW.2.2.2 _ a1414251 y1414257 y1414308 r1414253 (by omega) (by omega)) r1414253 (by decide) rfl wk_X10_isGuarded tw_1150 rfl ⟨Nat.le_of_ble_eq_true rfl, Nat.le_of_ble_eq_true rfl⟩ ⟨rfl, rfl⟩ hl.1 rfl (Nat.le_of_ble_eq_true rfl) dX0_advanceWrit_79 ⟨Nat.le_of_ble_eq_true rfl, Nat.le_of_ble_eq_true rfl⟩ (fun v1414318 f1414319 H locs q1414320 hW => ?_)
        obtain ⟨⟨x1414322, rfl, p1414323⟩, g1414321⟩ := q1414320
        have hF := FM.tr hF g1414321 rfl
        refine q_if_eq (tgt := 86) hx hb dX0_advanceWrit_82 (by decide) rfl (fun c1414324 => ?_) (fun c1414324 => ?_)
        · refine lv_aload_n hx hb dX0_advanceWrit_86 rfl (lv_at hl 1 rfl) ?_
          refine fg_RX0_28 E hW rh0 dX0_advanceWrit_87 (fun a1414325 m1414326 r1414327 => ?_)
          obtain rfl : a1414251 = a1414325 := (((fm_R g1414321 rh0 rfl).trans m1414313)).symm.trans m1414326
          refine fg_RX0_246 E hW r1414253 dX0_advanceWrit_90 (fun a1414328 m1414329 r1414330 => ?_)
          refine lv_iload_n hx hb dX0_advanceWrit_93 rfl (lv_at hl 2 rfl) ?_
          refine lv_dup2_11 hx hb dX0_advanceWrit_94 rfl rfl ?_
          refine gl_704 E hW r1414330 ⟨by omega, by omega⟩ dX0_advanceWrit_95 (fun y1414331 m1414332 => ?_)
          refine lv_iconst (v := 1) hx hb dX0_advanceWrit_96 (by decide) ?_
          refine u_isub hx hb dX0_advanceWrit_97 (fun x1414334 => ?_)
          refine gs_704 E hW r1414330 ⟨by omega, by omega⟩ dX0_advanceWrit_98 (fun f1414335 H locs e1414336 n1414337 g1414338 hW => ?_)
          have hF := FM.tr hF g1414338 rfl
          refine lv_aload_n hx hb dX0_advanceWrit_99 rfl (lv_at hl 1 rfl) ?_
          refine fg_RX0_28 E hW rh0 dX0_advanceWrit_100 (fun a1414339 m1414340 r1414341 => ?_)
          obtain rfl : a1414251 = a1414339 := (((fm_R g1414338 rh0 rfl).trans m1414326)).symm.trans m1414340
          refine fg_RX0_246 E hW r1414253 dX0_advanceWrit_103 (fun a1414342 m1414343 r1414344 => ?_)
          obtain rfl : a1414328 = a1414342 := (((fm_R g1414338 r1414253 rfl).trans m1414329)).symm.trans m1414343
          refine lv_iload_n hx hb dX0_advanceWrit_106 rfl (lv_at hl 2 rfl) ?_
          refine gl_704 E hW r1414330 ⟨by omega, by omega⟩ dX0_advanceWrit_107 (fun y1414345 m1414346 => ?_)
          obtain rfl : x1414334 = y1414345 := ((show aI (f1414335 a1414328) (u1 : Int32).toNatClampNeg = x1414334 from by rw [e1414336]; exact up_s)).symm.trans m1414346
          refine q_if_le (tgt := 112) hx hb dX0_advanceWrit_108 (by decide) rfl (fun c1414348 => ?_) (fun c1414348 => ?_)
          · refine lv_aload_n hx hb dX0_advanceWrit_112 rfl (lv_at hl 1 rfl) ?_
            refine fg_RX0_28 E hW rh0 dX0_advanceWrit_113 (fun a1414349 m1414350 r1414351 => ?_)
            obtain rfl : a1414251 = a1414349 := (m1414340).symm.trans m1414350
            refine fg_RX0_249 E hW r1414253 dX0_advanceWrit_116 (fun a1414352 m1414353 r1414354 => ?_)
            refine lv_iload_n hx hb dX0_advanceWrit_119 rfl (lv_at hl 2 rfl) ?_
            refine lv_dup2_11 hx hb dX0_advanceWrit_120 rfl rfl ?_
            refine gl_703 E hW r1414354 ⟨by omega, by omega⟩ dX0_advanceWrit_121 (fun y1414355 m1414356 => ?_)
            refine lv_iconst (v := 1) hx hb dX0_advanceWrit_122 (by decide) ?_
            refine u_iadd hx hb dX0_advanceWrit_123 (fun x1414358 => ?_)
            refine gs_703 E hW r1414354 ⟨by omega, by omega⟩ dX0_advanceWrit_124 (fun f1414359 H locs e1414360 n1414361 g1414362 hW => ?_)
            have hF := FM.tr hF g1414362 rfl
            refine lv_aload_n hx hb dX0_advanceWrit_125 rfl (lv_at hl 1 rfl) ?_
            refine fg_RX0_28 E hW rh0 dX0_advanceWrit_126 (fun a1414363 m1414364 r1414365 => ?_)
            obtain rfl : a1414251 = a1414363 := (((fm_R g1414362 rh0 rfl).trans m1414350)).symm.trans m1414364
            refine fg_RX0_249 E hW r1414253 dX0_advanceWrit_129 (fun a1414366 m1414367 r1414368 => ?_)
            obtain rfl : a1414352 = a1414366 := (((fm_R g1414362 r1414253 rfl).trans m1414353)).symm.trans m1414367
            refine lv_iload_n hx hb dX0_advanceWrit_132 rfl (lv_at hl 2 rfl) ?_
            refine gl_703 E hW r1414354 ⟨by omega, by omega⟩ dX0_advanceWrit_133 (fun y1414369 m1414370 => ?_)
            obtain rfl : x1414358 = y1414369 := ((show aI (f1414359 a1414352) (u1 : Int32).toNatClampNeg = x1414358 from by rw [e1414360]; exact up_s)).symm.trans m1414370
            refine lv_iconst (v := 3) hx hb dX0_advanceWrit_134 (by decide) ?_
            have J1414434 : ∀ (f1414423 : Nat → va_E) (m1414424 : oR (f1414423 a1414251) 1 = a1414254) (m1414425 : oR (f1414423 a1414251) 2 = a1414292) (m1414426 : oR (f1414423 a1414251) 3 = a1414352) (m1414427 : oR (f1414423 a1414251) 4 = a1414328) (m1414428 : oR (f1414423 a1414251) 5 = a1414302) (m1414429 : oR (f1414423 a1414260) 4 = a1414283) (m1414430 : oR (f1414423 a1414260) 5 = a1414263) (m1414431 : oR (f1414423 h0) 1 = a1414260) (m1414432 : oR (f1414423 h0) 2 = a1414251) (m1414433 : oI (f1414423 h0) 6 = y1414308) (H : Heap) (locs : List Loc) (ls : Array Slot), WS G cI cJ cZ cD cR cT A kp L f1414423 s H locs → FM kp L ms_X0_advanceWrit f0 f1414423 → lv_has ls 3 [(2, .int y1414257), (0, .ref h0), (1, .int u1)] → W p l e ({ frames := 3, cells := 0, slots := 0, locals := 87 }) s m ([.ref h0, .int u1] : List Value).toArray below meth c H locs 0 0 (MQ below (QT (po_X0_advanceWrit kp L f0 h0 u1) G cI cJ cZ cD cR cT A kp L) ([.ref h0, .int u1] : List Value).toArray s 0 0 A) (F0 m 190 ls []) := by
              intro f1414423 m1414424 m1414425 m1414426 m1414427 m1414428 m1414429 m1414430 m1414431 m1414432 m1414433 H locs ls hW hF hl
              clear c1414269 b1414288 b1414297 c1414298 p1414323 c1414324 c1414348
              exact e_V E hW rfl ⟨rfl, hF⟩ dX0_advanceWrit_190
            refine q_icmp_le (Y := 3) (tgt := 165) hx hb dX0_advanceWrit_135 (by decide) rfl rfl (fun c1414435 => ?_) (fun c1414435 => ?_)
            · refine lv_aload_n hx hb dX0_advanceWrit_165 rfl (lv_at hl 1 rfl) ?_
              refine fg_RX0_28 E hW rh0 dX0_advanceWrit_166 (fun a1414436 m1414437 r1414438 => ?_)
              obtain rfl : a1414251 = a1414436 := (m1414364).symm.trans m1414437
              refine fg_RX0_246 E hW r1414253 dX0_advanceWrit_169 (fun a1414439 m1414440 r1414441 => ?_)
              obtain rfl : a1414328 = a1414439 := (((fm_R g1414362 r1414253 rfl).trans m1414343)).symm.trans m1414440
              refine lv_iload_n hx hb dX0_advanceWrit_172 rfl (lv_at hl 2 rfl) ?_
              refine lv_aload_n hx hb dX0_advanceWrit_173 rfl (lv_at hl 1 rfl) ?_
              refine fg_RX0_42 E hW rh0 dX0_advanceWrit_174 (fun a1414442 m1414443 r1414444 => ?_)
              refine lv_aload_n hx hb dX0_advanceWrit_177 rfl (lv_at hl 1 rfl) ?_
              refine fg_RX0_28 E hW rh0 dX0_advanceWrit_178 (fun a1414445 m1414446 r1414447 => ?_)
              obtain rfl : a1414251 = a1414445 := (m1414437).symm.trans m1414446
              refine fg_RX0_249 E hW r1414253 dX0_advanceWrit_181 (fun a1414448 m1414449 r1414450 => ?_)
              obtain rfl : a1414352 = a1414448 := (m1414367).symm.trans m1414449
              refine lv_iload_n hx hb dX0_advanceWrit_184 rfl (lv_at hl 2 rfl) ?_
              refine gl_703 E hW r1414354 ⟨by omega, by omega⟩ dX0_advanceWrit_185 (fun y1414451 m1414452 => ?_)
              obtain rfl : x1414358 = y1414451 := (m1414370).symm.trans m1414452
              refine t_callV (As := [.int x1414358]) (rest := [.int u1, .ref a1414328]) E hW (c_X2_weeksOf l G cI cJ cZ cD cR cT kp L f1414359 hW.2.2.2 _ a1414442 x1414358 r1414444 (by omega)) r1414444 (by decide) rfl wk_X2_weeksOf tw_1144 rfl ⟨Nat.le_of_ble_eq_true rfl, Nat.le_of_ble_eq_true rfl⟩ ⟨rfl, rfl⟩ hl.1 rfl (Nat.le_of_ble_eq_true rfl) dX0_advanceWrit_186 ⟨Nat.le_of_ble_eq_true rfl, Nat.le_of_ble_eq_true rfl⟩ (fun v1414454 f1414455 H locs q1414456 hW => ?_)
              obtain ⟨⟨x1414458, rfl, p1414459⟩, g1414457⟩ := q1414456
              clear p1414459
              have hF := FM.tr hF g1414457 rfl
              refine gs_704 E hW r1414330 ⟨by omega, by omega⟩ dX0_advanceWrit_189 (fun f1414460 H locs e1414461 n1414462 g1414463 hW => ?_)
              have hF := FM.tr hF g1414463 rfl
              exact J1414434 f1414460 ((fm_R g1414463 r1414253 rfl).trans ((fm_R g1414457 r1414253 rfl).trans ((fm_R g1414362 r1414253 rfl).trans ((fm_R g1414338 r1414253 rfl).trans ((fm_R g1414321 r1414253 rfl).trans m1414255))))) ((fm_R g1414463 r1414253 rfl).trans ((fm_R g1414457 r1414253 rfl).trans ((fm_R g1414362 r1414253 rfl).trans ((fm_R g1414338 r1414253 rfl).trans ((fm_R g1414321 r1414253 rfl).trans m1414293))))) ((fm_R g1414463 r1414253 rfl).trans ((fm_R g1414457 r1414253 rfl).trans m1414449)) ((fm_R g1414463 r1414253 rfl).trans ((fm_R g1414457 r1414253 rfl).trans m1414440)) ((fm_R g1414463 r1414253 rfl).trans ((fm_R g1414457 r1414253 rfl).trans ((fm_R g1414362 r1414253 rfl).trans ((fm_R g1414338 r1414253 rfl).trans ((fm_R g1414321 r1414253 rfl).trans m1414303))))) ((fm_R g1414463 r1414262 rfl).trans ((fm_R g1414457 r1414262 rfl).trans ((fm_R g1414362 r1414262 rfl).trans ((fm_R g1414338 r1414262 rfl).trans ((fm_R g1414321 r1414262 rfl).trans m1414284))))) ((fm_R g1414463 r1414262 rfl).trans ((fm_R g1414457 r1414262 rfl).trans ((fm_R g1414362 r1414262 rfl).trans ((fm_R g1414338 r1414262 rfl).trans ((fm_R g1414321 r1414262 rfl).trans m1414264))))) ((fm_R g1414463 rh0 rfl).trans ((fm_R g1414457 rh0 rfl).trans ((fm_R g1414362 rh0 rfl).trans ((fm_R g1414338 rh0 rfl).trans ((fm_R g1414321 rh0 rfl).trans m1414281))))) ((fm_R g1414463 rh0 rfl).trans ((fm_R g1414457 rh0 rfl).trans m1414446)) ((fm_I g1414463 rh0 rfl).trans ((fm_I g1414457 rh0 rfl).trans ((fm_I g1414362 rh0 rfl).trans ((fm_I g1414338 rh0 rfl).trans ((fm_I g1414321 rh0 rfl).trans m1414316))))) _ _ _ hW hF (lv_sub hl [0, 1, 2] rfl)
            · refine lv_aload_n hx hb dX0_advanceWrit_138 rfl (lv_at hl 1 rfl) ?_
              refine fg_RX0_28 E hW rh0 dX0_advanceWrit_139 (fun a1414464 m1414465 r1414466 => ?_)
              obtain rfl : a1414251 = a1414464 := (m1414364).symm.trans m1414465
              refine fg_RX0_151 E hW r1414253 dX0_advanceWrit_142 (fun a1414467 m1414468 r1414469 => ?_)
              refine lv_iload_n hx hb dX0_advanceWrit_145 rfl (lv_at hl 2 rfl) ?_
              refine lv_iconst (v := 0) hx hb dX0_advanceWrit_146 (by decide) ?_
              refine gs_706 E hW r1414469 ⟨by omega, by omega⟩ dX0_advanceWrit_147 (fun f1414470 H locs e1414471 n1414472 g1414473 hW => ?_)
              have hF := FM.tr hF g1414473 rfl
              refine lv_aload_n hx hb dX0_advanceWrit_148 rfl (lv_at hl 1 rfl) ?_
              refine lv_iload_n hx hb dX0_advanceWrit_149 rfl (lv_at hl 0 rfl) ?_
              refine lv_aload_n hx hb dX0_advanceWrit_150 rfl (lv_at hl 1 rfl) ?_
              refine fg_RX0_28 E hW rh0 dX0_advanceWrit_151 (fun a1414474 m1414475 r1414476 => ?_)
              obtain rfl : a1414251 = a1414474 := (((fm_R g1414473 rh0 rfl).trans m1414465)).symm.trans m1414475
              refine fg_RX0_238 E hW r1414253 dX0_advanceWrit_154 (fun a1414477 m1414478 r1414479 => ?_)
              obtain rfl : a1414292 = a1414477 := (((fm_R g1414473 r1414253 rfl).trans ((fm_R g1414362 r1414253 rfl).trans ((fm_R g1414338 r1414253 rfl).trans ((fm_R g1414321 r1414253 rfl).trans m1414293))))).symm.trans m1414478
              refine lv_iload_n hx hb dX0_advanceWrit_157 rfl (lv_at hl 2 rfl) ?_
              refine gl_702 E hW r1414294 ⟨by omega, by omega⟩ dX0_advanceWrit_158 (fun y1414480 m1414481 b1414482 => ?_)
              obtain rfl : y1414295 = y1414480 := (((congrArg (fun z => aI z (u1 : Int32).toNatClampNeg) (fm_A g1414473 r1414294 (by decide) rfl)).trans ((congrArg (fun z => aI z (u1 : Int32).toNatClampNeg) (fm_A g1414362 r1414294 (by decide) rfl)).trans ((congrArg (fun z => aI z (u1 : Int32).toNatClampNeg) (fm_A g1414338 r1414294 (by decide) rfl)).trans ((congrArg (fun z => aI z (u1 : Int32).toNatClampNeg) (fm_A g1414321 r1414294 (by decide) rfl)).trans m1414296))))).symm.trans m1414481
              refine t_callV (As := [.int y1414257, .int y1414295]) (rest := []) E hW (c_X0_putOut l G cI cJ cZ cD cR cT kp L f1414470 hW.2.2.2 _ h0 y1414257 y1414295 rh0 (by omega) (by omega)) rh0 (by decide) rfl wk_X0_putOut tw_1154 rfl ⟨Nat.le_of_ble_eq_true rfl, Nat.le_of_ble_eq_true rfl⟩ ⟨rfl, rfl⟩ hl.1 rfl (Nat.le_of_ble_eq_true rfl) dX0_advanceWrit_159 ⟨Nat.le_of_ble_eq_true rfl, Nat.le_of_ble_eq_true rfl⟩ (fun v1414483 f1414484 H locs q1414485 hW => ?_)
              obtain ⟨rfl, g1414486⟩ := q1414485
              have hF := FM.tr hF g1414486 rfl
              refine lv_goto (tgt := 190) hx hb dX0_advanceWrit_162 (by decide) ?_
              exact J1414434 f1414484 ((fm_R g1414486 r1414253 rfl).trans ((fm_R g1414473 r1414253 rfl).trans ((fm_R g1414362 r1414253 rfl).trans ((fm_R g1414338 r1414253 rfl).trans ((fm_R g1414321 r1414253 rfl).trans m1414255))))) ((fm_R g1414486 r1414253 rfl).trans m1414478) ((fm_R g1414486 r1414253 rfl).trans ((fm_R g1414473 r1414253 rfl).trans m1414367)) ((fm_R g1414486 r1414253 rfl).trans ((fm_R g1414473 r1414253 rfl).trans ((fm_R g1414362 r1414253 rfl).trans m1414343))) ((fm_R g1414486 r1414253 rfl).trans ((fm_R g1414473 r1414253 rfl).trans ((fm_R g1414362 r1414253 rfl).trans ((fm_R g1414338 r1414253 rfl).trans ((fm_R g1414321 r1414253 rfl).trans m1414303))))) ((fm_R g1414486 r1414262 rfl).trans ((fm_R g1414473 r1414262 rfl).trans ((fm_R g1414362 r1414262 rfl).trans ((fm_R g1414338 r1414262 rfl).trans ((fm_R g1414321 r1414262 rfl).trans m1414284))))) ((fm_R g1414486 r1414262 rfl).trans ((fm_R g1414473 r1414262 rfl).trans ((fm_R g1414362 r1414262 rfl).trans ((fm_R g1414338 r1414262 rfl).trans ((fm_R g1414321 r1414262 rfl).trans m1414264))))) ((fm_R g1414486 rh0 rfl).trans ((fm_R g1414473 rh0 rfl).trans ((fm_R g1414362 rh0 rfl).trans ((fm_R g1414338 rh0 rfl).trans ((fm_R g1414321 rh0 rfl).trans m1414281))))) ((fm_R g1414486 rh0 rfl).trans m1414475) ((fm_I g1414486 rh0 rfl).trans ((fm_I g1414473 rh0 rfl).trans ((fm_I g1414362 rh0 rfl).trans ((fm_I g1414338 rh0 rfl).trans ((fm_I g1414321 rh0 rfl).trans m1414316))))) _ _ _ hW hF (lv_sub hl [0, 1, 2] rfl)
          · exact e_V E hW rfl ⟨rfl, hF⟩ dX0_advanceWrit_111
        · exact e_V E hW rfl ⟨rfl, hF⟩ dX0_advanceWrit_85
    · refine lv_aload_n hx hb dX0_advanceWrit_43 rfl (lv_at hl 1 rfl) ?_
      refine fg_RX0_28 E hW rh0 dX0_advanceWrit_44 (fun a1414487 m1414488 r1414489 => ?_)
      obtain rfl : a1414251 = a1414487 := (m1414290).symm.trans m1414488
      refine fg_RX0_151 E hW r1414253 dX0_advanceWrit_47 (fun a1414490 m1414491 r1414492 => ?_)
      refine lv_iload_n hx hb dX0_advanceWrit_50 rfl (lv_at hl 2 rfl) ?_
      refine lv_iconst (v := 0) hx hb dX0_advanceWrit_51 (by decide) ?_
      refine gs_706 E hW r1414492 ⟨by omega, by omega⟩ dX0_advanceWrit_52 (fun f1414493 H locs e1414494 n1414495 g1414496 hW => ?_)
      have hF := FM.tr hF g1414496 rfl
      exact e_V E hW rfl ⟨rfl, hF⟩ dX0_advanceWrit_53
def ms_X0_wordOf : List (Nat × Nat) := []
def po_X0_wordOf (kp : Nat → Nat) (L : List Nat) (f0 : Nat → va_E) (h0 : Nat) (u1 : Int32) (u2 : Int32) (u3 : Int32) : Option Value → (Nat → va_E) → Prop := fun v f => (∃ r : Int32, v = some (.int r) ∧ (True)) ∧ FM kp L ms_X0_wordOf f0 f
set_option maxHeartbeats 4000000 in
set_option maxRecDepth 100000 in
theorem c_X0_wordOf (l : Launch) (G : va_G) (cI cJ cZ cD cR cT : ClassId) (kp : Nat → Nat) (L : List Nat) (f0 : Nat → va_E) (hTH : TH cI cJ cZ cD cR cT kp L f0) (sz : Nat) (h0 : Nat) (u1 : Int32) (u2 : Int32) (u3 : Int32) (rh0 : RK kp L h0 0) (pu1 : (268 : Int) ≤ u1.toInt ∧ u1.toInt ≤ 282) (pu2 : (-1 : Int) ≤ u2.toInt ∧ u2.toInt ≤ 39) (pu3 : (-1 : Int) ≤ u3.toInt ∧ u3.toInt ≤ 39) : Met l yX0_wordOf (Cond.code yX0_wordOf cX0_wordOf 4 (some .int) :: wTab) ({ frames := 2, cells := 0, slots := 0, locals := 63 }) (va_Pc [.ref h0, .int u1, .int u2, .int u3] (PreW G (tys6 cI cJ cZ cD cR cT) (va_pl L f0) sz)) (QT (po_X0_wordOf kp L f0 h0 u1 u2 u3) G cI cJ cZ cD cR cT (va_A (va_pl L f0) sz) kp L) 0 0 (va_A (va_pl L f0) sz) := by
  refine metT (by decide) (Nat.le_of_ble_eq_true rfl) hTH ?_
  intro p e s m below meth c A ls E hW hl
  obtain ⟨hx, hb, -, hml, hown, hts, -, -, -⟩ := id E
  have hF : FM kp L ms_X0_wordOf f0 f0 := FM.rf
  have hl : lv_has ls 4 [(0, .ref h0), (1, .int u1), (2, .int u2), (3, .int u3)] := hl
  refine lv_iload_n hx hb dX0_wordOf_0 rfl (lv_at hl 1 rfl) ?_
  refine lv_sipush (v := 276) hx hb dX0_wordOf_1 (by decide) ?_
  refine q_icmp_gt (Y := 276) (tgt := 21) hx hb dX0_wordOf_4 (by decide) rfl rfl (fun c1414497 => ?_) (fun c1414497 => ?_)
  · refine lv_iload_n hx hb dX0_wordOf_21 rfl (lv_at hl 1 rfl) ?_
    refine lv_sipush (v := 280) hx hb dX0_wordOf_22 (by decide) ?_
    refine q_icmp_gt (Y := 280) (tgt := 41) hx hb dX0_wordOf_25 (by decide) rfl rfl (fun c1414498 => ?_) (fun c1414498 => ?_)
    · refine lv_iload_n hx hb dX0_wordOf_41 rfl (lv_at hl 1 rfl) ?_
      by_cases c1414499 : u1.toInt = 268
      · exfalso; omega
      by_cases c1414500 : u1.toInt = 269
      · exfalso; omega
      by_cases c1414501 : u1.toInt = 270
      · exfalso; omega
      by_cases c1414502 : u1.toInt = 271
      · exfalso; omega
      by_cases c1414503 : u1.toInt = 272
      · exfalso; omega
      by_cases c1414504 : u1.toInt = 273
      · exfalso; omega
      by_cases c1414505 : u1.toInt = 274
      · exfalso; omega
      by_cases c1414506 : u1.toInt = 275
      · exfalso; omega
      by_cases c1414507 : u1.toInt = 276
      · exfalso; omega
      by_cases c1414508 : u1.toInt = 277
      · exfalso; omega
      by_cases c1414509 : u1.toInt = 278
      · exfalso; omega
      by_cases c1414510 : u1.toInt = 279
      · exfalso; omega
      by_cases c1414511 : u1.toInt = 280
      · exfalso; omega
      by_cases c1414512 : u1.toInt = 281
      · refine lv_tableIn (tgt := 156) hx hb dX0_wordOf_42 (by omega) (by omega) (by rw [c1414512]; rfl) (by decide) ?_
        refine lv_aload_n hx hb dX0_wordOf_156 rfl (lv_at hl 0 rfl) ?_
        refine fg_RX0_93 E hW rh0 dX0_wordOf_157 (fun y1414513 m1414514 b1414515 => ?_)
        exact e_I E hW rfl ⟨⟨_, rfl, trivial⟩, hF⟩ dX0_wordOf_160
      by_cases c1414516 : u1.toInt = 282
      · refine lv_tableIn (tgt := 161) hx hb dX0_wordOf_42 (by omega) (by omega) (by rw [c1414516]; rfl) (by decide) ?_
        refine lv_aload_n hx hb dX0_wordOf_161 rfl (lv_at hl 0 rfl) ?_
        refine fg_RX0_121 E hW rh0 dX0_wordOf_162 (fun y1414517 m1414518 => ?_)
        exact e_I E hW rfl ⟨⟨_, rfl, trivial⟩, hF⟩ dX0_wordOf_165
      refine lv_tableOut (tgt := 278) hx hb dX0_wordOf_42 (by omega) (by decide) ?_
      refine lv_iconst (v := 0) hx hb dX0_wordOf_278 (by decide) ?_
      exact e_I E hW rfl ⟨⟨_, rfl, trivial⟩, hF⟩ dX0_wordOf_279
    · refine lv_aload_n hx hb dX0_wordOf_28 rfl (lv_at hl 0 rfl) ?_
      refine fg_RX0_21 E hW rh0 dX0_wordOf_29 (fun a1414520 m1414521 r1414522 => ?_)
      refine lv_iload_n hx hb dX0_wordOf_32 rfl (lv_at hl 3 rfl) ?_
      refine t_callV (As := [.int u3]) (rest := []) E hW (c_X1_has l G cI cJ cZ cD cR cT kp L f0 hW.2.2.2 _ a1414520 u3 r1414522) r1414522 (by decide) rfl wk_X1_has tw_727 rfl ⟨Nat.le_of_ble_eq_true rfl, Nat.le_of_ble_eq_true rfl⟩ ⟨rfl, rfl⟩ hl.1 rfl (Nat.le_of_ble_eq_true rfl) dX0_wordOf_33 ⟨Nat.le_of_ble_eq_true rfl, Nat.le_of_ble_eq_true rfl⟩ (fun v1414523 f1414524 H locs q1414525 hW => ?_)
      obtain ⟨⟨x1414527, rfl, p1414528⟩, g1414526⟩ := q1414525
      have hF := FM.tr hF g1414526 rfl
      refine q_if_ne (tgt := 41) hx hb dX0_wordOf_36 (by decide) rfl (fun c1414529 => ?_) (fun c1414529 => ?_)
      · have q1414530 : 0 ≤ u3.toInt ∧ u3.toInt ≤ 39 := by omega
        clear p1414528
        refine lv_iload_n hx hb dX0_wordOf_41 rfl (lv_at hl 1 rfl) ?_
        by_cases c1414531 : u1.toInt = 268
        · exfalso; omega
        by_cases c1414532 : u1.toInt = 269
        · exfalso; omega
        by_cases c1414533 : u1.toInt = 270
        · exfalso; omega
        by_cases c1414534 : u1.toInt = 271
        · exfalso; omega
        by_cases c1414535 : u1.toInt = 272
        · exfalso; omega
        by_cases c1414536 : u1.toInt = 273
        · exfalso; omega
        by_cases c1414537 : u1.toInt = 274
        · exfalso; omega
        by_cases c1414538 : u1.toInt = 275
        · exfalso; omega
        by_cases c1414539 : u1.toInt = 276
        · exfalso; omega
        by_cases c1414540 : u1.toInt = 277
        · refine lv_tableIn (tgt := 116) hx hb dX0_wordOf_42 (by omega) (by omega) (by rw [c1414540]; rfl) (by decide) ?_
          refine lv_aload_n hx hb dX0_wordOf_116 rfl (lv_at hl 0 rfl) ?_
          refine fg_RX0_21 E hW rh0 dX0_wordOf_117 (fun a1414541 m1414542 r1414543 => ?_)
          obtain rfl : a1414520 = a1414541 := (((fm_R g1414526 rh0 rfl).trans m1414521)).symm.trans m1414542
          refine fg_RX0_172 E hW r1414522 dX0_wordOf_120 (fun a1414544 m1414545 r1414546 => ?_)
          refine lv_iload_n hx hb dX0_wordOf_123 rfl (lv_at hl 3 rfl) ?_
          refine gl_162 E hW r1414546 ⟨by omega, by omega⟩ dX0_wordOf_124 (fun y1414547 m1414548 => ?_)
          exact e_I E hW rfl ⟨⟨_, rfl, trivial⟩, hF⟩ dX0_wordOf_125
        by_cases c1414550 : u1.toInt = 278
        · refine lv_tableIn (tgt := 126) hx hb dX0_wordOf_42 (by omega) (by omega) (by rw [c1414550]; rfl) (by decide) ?_
          refine lv_aload_n hx hb dX0_wordOf_126 rfl (lv_at hl 0 rfl) ?_
          refine fg_RX0_21 E hW rh0 dX0_wordOf_127 (fun a1414551 m1414552 r1414553 => ?_)
          obtain rfl : a1414520 = a1414551 := (((fm_R g1414526 rh0 rfl).trans m1414521)).symm.trans m1414552
          refine fg_RX0_342 E hW r1414522 dX0_wordOf_130 (fun a1414554 m1414555 r1414556 => ?_)
          refine lv_iload_n hx hb dX0_wordOf_133 rfl (lv_at hl 3 rfl) ?_
          refine gl_163 E hW r1414556 ⟨by omega, by omega⟩ dX0_wordOf_134 (fun y1414557 m1414558 => ?_)
          exact e_I E hW rfl ⟨⟨_, rfl, trivial⟩, hF⟩ dX0_wordOf_135
        by_cases c1414560 : u1.toInt = 279
        · refine lv_tableIn (tgt := 136) hx hb dX0_wordOf_42 (by omega) (by omega) (by rw [c1414560]; rfl) (by decide) ?_
          refine lv_aload_n hx hb dX0_wordOf_136 rfl (lv_at hl 0 rfl) ?_
          refine fg_RX0_21 E hW rh0 dX0_wordOf_137 (fun a1414561 m1414562 r1414563 => ?_)
          obtain rfl : a1414520 = a1414561 := (((fm_R g1414526 rh0 rfl).trans m1414521)).symm.trans m1414562
          refine fg_RX0_188 E hW r1414522 dX0_wordOf_140 (fun a1414564 m1414565 r1414566 => ?_)
          refine lv_iload_n hx hb dX0_wordOf_143 rfl (lv_at hl 3 rfl) ?_
          refine gl_165 E hW r1414566 ⟨by omega, by omega⟩ dX0_wordOf_144 (fun y1414567 m1414568 => ?_)
          exact e_I E hW rfl ⟨⟨_, rfl, trivial⟩, hF⟩ dX0_wordOf_145
        by_cases c1414570 : u1.toInt = 280
        · refine lv_tableIn (tgt := 146) hx hb dX0_wordOf_42 (by omega) (by omega) (by rw [c1414570]; rfl) (by decide) ?_
          refine lv_aload_n hx hb dX0_wordOf_146 rfl (lv_at hl 0 rfl) ?_
          refine fg_RX0_21 E hW rh0 dX0_wordOf_147 (fun a1414571 m1414572 r1414573 => ?_)
          obtain rfl : a1414520 = a1414571 := (((fm_R g1414526 rh0 rfl).trans m1414521)).symm.trans m1414572
          refine fg_RX0_204 E hW r1414522 dX0_wordOf_150 (fun a1414574 m1414575 r1414576 => ?_)
          refine lv_iload_n hx hb dX0_wordOf_153 rfl (lv_at hl 3 rfl) ?_
          refine gl_161 E hW r1414576 ⟨by omega, by omega⟩ dX0_wordOf_154 (fun y1414577 m1414578 b1414579 => ?_)
          exact e_I E hW rfl ⟨⟨_, rfl, trivial⟩, hF⟩ dX0_wordOf_155
        by_cases c1414580 : u1.toInt = 281
        · exfalso; omega
        by_cases c1414581 : u1.toInt = 282
        · exfalso; omega
        refine lv_tableOut (tgt := 278) hx hb dX0_wordOf_42 (by omega) (by decide) ?_
        refine lv_iconst (v := 0) hx hb dX0_wordOf_278 (by decide) ?_
        exact e_I E hW rfl ⟨⟨_, rfl, trivial⟩, hF⟩ dX0_wordOf_279
      · clear p1414528
        refine lv_iconst (v := 0) hx hb dX0_wordOf_39 (by decide) ?_
        exact e_I E hW rfl ⟨⟨_, rfl, trivial⟩, hF⟩ dX0_wordOf_40
  · refine lv_aload_n hx hb dX0_wordOf_7 rfl (lv_at hl 0 rfl) ?_
    refine fg_RX0_12 E hW rh0 dX0_wordOf_8 (fun a1414582 m1414583 r1414584 => ?_)
    refine lv_iload_n hx hb dX0_wordOf_11 rfl (lv_at hl 2 rfl) ?_
    refine t_callV (As := [.int u2]) (rest := []) E hW (c_X4_has l G cI cJ cZ cD cR cT kp L f0 hW.2.2.2 _ a1414582 u2 r1414584) r1414584 (by decide) rfl wk_X4_has tw_726 rfl ⟨Nat.le_of_ble_eq_true rfl, Nat.le_of_ble_eq_true rfl⟩ ⟨rfl, rfl⟩ hl.1 rfl (Nat.le_of_ble_eq_true rfl) dX0_wordOf_12 ⟨Nat.le_of_ble_eq_true rfl, Nat.le_of_ble_eq_true rfl⟩ (fun v1414585 f1414586 H locs q1414587 hW => ?_)
    obtain ⟨⟨x1414589, rfl, p1414590⟩, g1414588⟩ := q1414587
    have hF := FM.tr hF g1414588 rfl
    refine q_if_ne (tgt := 41) hx hb dX0_wordOf_15 (by decide) rfl (fun c1414591 => ?_) (fun c1414591 => ?_)
    · have q1414592 : 0 ≤ u2.toInt ∧ u2.toInt ≤ 39 := by omega
      clear p1414590
      refine lv_iload_n hx hb dX0_wordOf_41 rfl (lv_at hl 1 rfl) ?_
      by_cases c1414593 : u1.toInt = 268
      · refine lv_tableIn (tgt := 166) hx hb dX0_wordOf_42 (by omega) (by omega) (by rw [c1414593]; rfl) (by decide) ?_
        refine lv_aload_n hx hb dX0_wordOf_166 rfl (lv_at hl 0 rfl) ?_
        refine fg_RX0_21 E hW rh0 dX0_wordOf_167 (fun a1414594 m1414595 r1414596 => ?_)
        refine lv_iload_n hx hb dX0_wordOf_170 rfl (lv_at hl 2 rfl) ?_
        refine t_callV (As := [.int u2]) (rest := []) E hW (c_X1_isHeldBy l G cI cJ cZ cD cR cT kp L f1414586 hW.2.2.2 _ a1414594 u2 r1414596 (by omega)) r1414596 (by decide) rfl wk_X1_isHeldBy tw_728 rfl ⟨Nat.le_of_ble_eq_true rfl, Nat.le_of_ble_eq_true rfl⟩ ⟨rfl, rfl⟩ hl.1 rfl (Nat.le_of_ble_eq_true rfl) dX0_wordOf_171 ⟨Nat.le_of_ble_eq_true rfl, Nat.le_of_ble_eq_true rfl⟩ (fun v1414597 f1414598 H locs q1414599 hW => ?_)
        obtain ⟨⟨x1414601, rfl, p1414602⟩, g1414600⟩ := q1414599
        have hF := FM.tr hF g1414600 rfl
        have J1414605 : ∀ (y1414603 : Int32) (b1414604 : (0 : Int) ≤ y1414603.toInt ∧ y1414603.toInt ≤ 1) (H : Heap) (locs : List Loc) (ls : Array Slot), WS G cI cJ cZ cD cR cT A kp L f1414598 s H locs → FM kp L ms_X0_wordOf f0 f1414598 → lv_has ls 4 [(0, .ref h0), (1, .int u1), (2, .int u2), (3, .int u3)] → W p l e ({ frames := 2, cells := 0, slots := 0, locals := 63 }) s m ([.ref h0, .int u1, .int u2, .int u3] : List Value).toArray below meth c H locs 0 0 (MQ below (QT (po_X0_wordOf kp L f0 h0 u1 u2 u3) G cI cJ cZ cD cR cT A kp L) ([.ref h0, .int u1, .int u2, .int u3] : List Value).toArray s 0 0 A) (F0 m 182 ls [.int y1414603]) := by
          intro y1414603 b1414604 H locs ls hW hF hl
          clear c1414591 p1414602
          exact e_I E hW rfl ⟨⟨_, rfl, trivial⟩, hF⟩ dX0_wordOf_182
        refine q_if_eq (tgt := 181) hx hb dX0_wordOf_174 (by decide) rfl (fun c1414606 => ?_) (fun c1414606 => ?_)
        · refine lv_iconst (v := 0) hx hb dX0_wordOf_181 (by decide) ?_
          exact J1414605 0 (by decide) _ _ _ hW hF (lv_sub hl [0, 1, 2, 3] rfl)
        · refine lv_iconst (v := 1) hx hb dX0_wordOf_177 (by decide) ?_
          refine lv_goto (tgt := 182) hx hb dX0_wordOf_178 (by decide) ?_
          exact J1414605 1 (by decide) _ _ _ hW hF (lv_sub hl [0, 1, 2, 3] rfl)
      by_cases c1414607 : u1.toInt = 269
      · refine lv_tableIn (tgt := 183) hx hb dX0_wordOf_42 (by omega) (by omega) (by rw [c1414607]; rfl) (by decide) ?_
        refine lv_aload_n hx hb dX0_wordOf_183 rfl (lv_at hl 0 rfl) ?_
        refine fg_RX0_12 E hW rh0 dX0_wordOf_184 (fun a1414608 m1414609 r1414610 => ?_)
        obtain rfl : a1414582 = a1414608 := (((fm_R g1414588 rh0 rfl).trans m1414583)).symm.trans m1414609
        refine fg_RX0_130 E hW r1414584 dX0_wordOf_187 (fun a1414611 m1414612 r1414613 => ?_)
        refine lv_iload_n hx hb dX0_wordOf_190 rfl (lv_at hl 2 rfl) ?_
        refine gl_347 E hW r1414613 ⟨by omega, by omega⟩ dX0_wordOf_191 (fun y1414614 m1414615 => ?_)
        refine lv_iconst (v := (-1)) hx hb dX0_wordOf_192 (by decide) ?_
        have J1414619 : ∀ (y1414617 : Int32) (b1414618 : (0 : Int) ≤ y1414617.toInt ∧ y1414617.toInt ≤ 1) (H : Heap) (locs : List Loc) (ls : Array Slot), WS G cI cJ cZ cD cR cT A kp L f1414586 s H locs → FM kp L ms_X0_wordOf f0 f1414586 → lv_has ls 4 [(0, .ref h0), (1, .int u1), (2, .int u2), (3, .int u3)] → W p l e ({ frames := 2, cells := 0, slots := 0, locals := 63 }) s m ([.ref h0, .int u1, .int u2, .int u3] : List Value).toArray below meth c H locs 0 0 (MQ below (QT (po_X0_wordOf kp L f0 h0 u1 u2 u3) G cI cJ cZ cD cR cT A kp L) ([.ref h0, .int u1, .int u2, .int u3] : List Value).toArray s 0 0 A) (F0 m 201 ls [.int y1414617]) := by
          intro y1414617 b1414618 H locs ls hW hF hl
          clear c1414591
          exact e_I E hW rfl ⟨⟨_, rfl, trivial⟩, hF⟩ dX0_wordOf_201
        refine q_icmp_ne (Y := -1) (tgt := 200) hx hb dX0_wordOf_193 (by decide) rfl rfl (fun c1414620 => ?_) (fun c1414620 => ?_)
        · refine lv_iconst (v := 1) hx hb dX0_wordOf_200 (by decide) ?_
          exact J1414619 1 (by decide) _ _ _ hW hF (lv_sub hl [0, 1, 2, 3] rfl)
        · refine lv_iconst (v := 0) hx hb dX0_wordOf_196 (by decide) ?_
          refine lv_goto (tgt := 201) hx hb dX0_wordOf_197 (by decide) ?_
          exact J1414619 0 (by decide) _ _ _ hW hF (lv_sub hl [0, 1, 2, 3] rfl)
      by_cases c1414621 : u1.toInt = 270
      · refine lv_tableIn (tgt := 202) hx hb dX0_wordOf_42 (by omega) (by omega) (by rw [c1414621]; rfl) (by decide) ?_
        refine lv_aload_n hx hb dX0_wordOf_202 rfl (lv_at hl 0 rfl) ?_
        refine fg_RX0_12 E hW rh0 dX0_wordOf_203 (fun a1414622 m1414623 r1414624 => ?_)
        obtain rfl : a1414582 = a1414622 := (((fm_R g1414588 rh0 rfl).trans m1414583)).symm.trans m1414623
        refine fg_RX0_277 E hW r1414584 dX0_wordOf_206 (fun a1414625 m1414626 r1414627 => ?_)
        refine lv_iload_n hx hb dX0_wordOf_209 rfl (lv_at hl 2 rfl) ?_
        refine gl_348 E hW r1414627 ⟨by omega, by omega⟩ dX0_wordOf_210 (fun y1414628 m1414629 => ?_)
        exact e_I E hW rfl ⟨⟨_, rfl, trivial⟩, hF⟩ dX0_wordOf_211
      by_cases c1414631 : u1.toInt = 271
      · refine lv_tableIn (tgt := 212) hx hb dX0_wordOf_42 (by omega) (by omega) (by rw [c1414631]; rfl) (by decide) ?_
        refine lv_aload_n hx hb dX0_wordOf_212 rfl (lv_at hl 0 rfl) ?_
        refine fg_RX0_21 E hW rh0 dX0_wordOf_213 (fun a1414632 m1414633 r1414634 => ?_)
        refine lv_iload_n hx hb dX0_wordOf_216 rfl (lv_at hl 2 rfl) ?_
        refine t_callV (As := [.int u2]) (rest := []) E hW (c_X1_isGrabbedBy l G cI cJ cZ cD cR cT kp L f1414586 hW.2.2.2 _ a1414632 u2 r1414634 (by omega)) r1414634 (by decide) rfl wk_X1_isGrabbedBy tw_732 rfl ⟨Nat.le_of_ble_eq_true rfl, Nat.le_of_ble_eq_true rfl⟩ ⟨rfl, rfl⟩ hl.1 rfl (Nat.le_of_ble_eq_true rfl) dX0_wordOf_217 ⟨Nat.le_of_ble_eq_true rfl, Nat.le_of_ble_eq_true rfl⟩ (fun v1414635 f1414636 H locs q1414637 hW => ?_)
        obtain ⟨⟨x1414639, rfl, p1414640⟩, g1414638⟩ := q1414637
        have hF := FM.tr hF g1414638 rfl
        have J1414643 : ∀ (y1414641 : Int32) (b1414642 : (0 : Int) ≤ y1414641.toInt ∧ y1414641.toInt ≤ 1) (H : Heap) (locs : List Loc) (ls : Array Slot), WS G cI cJ cZ cD cR cT A kp L f1414636 s H locs → FM kp L ms_X0_wordOf f0 f1414636 → lv_has ls 4 [(0, .ref h0), (1, .int u1), (2, .int u2), (3, .int u3)] → W p l e ({ frames := 2, cells := 0, slots := 0, locals := 63 }) s m ([.ref h0, .int u1, .int u2, .int u3] : List Value).toArray below meth c H locs 0 0 (MQ below (QT (po_X0_wordOf kp L f0 h0 u1 u2 u3) G cI cJ cZ cD cR cT A kp L) ([.ref h0, .int u1, .int u2, .int u3] : List Value).toArray s 0 0 A) (F0 m 228 ls [.int y1414641]) := by
          intro y1414641 b1414642 H locs ls hW hF hl
          clear c1414591 p1414640
          exact e_I E hW rfl ⟨⟨_, rfl, trivial⟩, hF⟩ dX0_wordOf_228
        refine q_if_eq (tgt := 227) hx hb dX0_wordOf_220 (by decide) rfl (fun c1414644 => ?_) (fun c1414644 => ?_)
        · refine lv_iconst (v := 0) hx hb dX0_wordOf_227 (by decide) ?_
          exact J1414643 0 (by decide) _ _ _ hW hF (lv_sub hl [0, 1, 2, 3] rfl)
        · refine lv_iconst (v := 1) hx hb dX0_wordOf_223 (by decide) ?_
          refine lv_goto (tgt := 228) hx hb dX0_wordOf_224 (by decide) ?_
          exact J1414643 1 (by decide) _ _ _ hW hF (lv_sub hl [0, 1, 2, 3] rfl)
      by_cases c1414645 : u1.toInt = 272
      · refine lv_tableIn (tgt := 229) hx hb dX0_wordOf_42 (by omega) (by omega) (by rw [c1414645]; rfl) (by decide) ?_
        refine lv_aload_n hx hb dX0_wordOf_229 rfl (lv_at hl 0 rfl) ?_
        refine fg_RX0_12 E hW rh0 dX0_wordOf_230 (fun a1414646 m1414647 r1414648 => ?_)
        obtain rfl : a1414582 = a1414646 := (((fm_R g1414588 rh0 rfl).trans m1414583)).symm.trans m1414647
        refine fg_RX0_213 E hW r1414584 dX0_wordOf_233 (fun a1414649 m1414650 r1414651 => ?_)
        refine lv_iload_n hx hb dX0_wordOf_236 rfl (lv_at hl 2 rfl) ?_
        refine gl_342 E hW r1414651 ⟨by omega, by omega⟩ dX0_wordOf_237 (fun y1414652 m1414653 => ?_)
        exact e_I E hW rfl ⟨⟨_, rfl, trivial⟩, hF⟩ dX0_wordOf_238
      by_cases c1414655 : u1.toInt = 273
      · refine lv_tableIn (tgt := 239) hx hb dX0_wordOf_42 (by omega) (by omega) (by rw [c1414655]; rfl) (by decide) ?_
        refine lv_aload_n hx hb dX0_wordOf_239 rfl (lv_at hl 0 rfl) ?_
        refine fg_RX0_12 E hW rh0 dX0_wordOf_240 (fun a1414656 m1414657 r1414658 => ?_)
        obtain rfl : a1414582 = a1414656 := (((fm_R g1414588 rh0 rfl).trans m1414583)).symm.trans m1414657
        refine fg_RX0_179 E hW r1414584 dX0_wordOf_243 (fun a1414659 m1414660 r1414661 => ?_)
        refine lv_iload_n hx hb dX0_wordOf_246 rfl (lv_at hl 2 rfl) ?_
        refine gl_345 E hW r1414661 ⟨by omega, by omega⟩ dX0_wordOf_247 (fun y1414662 m1414663 => ?_)
        exact e_I E hW rfl ⟨⟨_, rfl, trivial⟩, hF⟩ dX0_wordOf_248
      by_cases c1414665 : u1.toInt = 274
      · refine lv_tableIn (tgt := 249) hx hb dX0_wordOf_42 (by omega) (by omega) (by rw [c1414665]; rfl) (by decide) ?_
        refine lv_aload_n hx hb dX0_wordOf_249 rfl (lv_at hl 0 rfl) ?_
        refine fg_RX0_12 E hW rh0 dX0_wordOf_250 (fun a1414666 m1414667 r1414668 => ?_)
        obtain rfl : a1414582 = a1414666 := (((fm_R g1414588 rh0 rfl).trans m1414583)).symm.trans m1414667
        refine fg_RX0_348 E hW r1414584 dX0_wordOf_253 (fun a1414669 m1414670 r1414671 => ?_)
        refine lv_iload_n hx hb dX0_wordOf_256 rfl (lv_at hl 2 rfl) ?_
        refine gl_343 E hW r1414671 ⟨by omega, by omega⟩ dX0_wordOf_257 (fun y1414672 m1414673 => ?_)
        exact e_I E hW rfl ⟨⟨_, rfl, trivial⟩, hF⟩ dX0_wordOf_258
      by_cases c1414675 : u1.toInt = 275
      · refine lv_tableIn (tgt := 259) hx hb dX0_wordOf_42 (by omega) (by omega) (by rw [c1414675]; rfl) (by decide) ?_
        refine lv_aload_n hx hb dX0_wordOf_259 rfl (lv_at hl 0 rfl) ?_
        refine fg_RX0_12 E hW rh0 dX0_wordOf_260 (fun a1414676 m1414677 r1414678 => ?_)
        obtain rfl : a1414582 = a1414676 := (((fm_R g1414588 rh0 rfl).trans m1414583)).symm.trans m1414677
        refine fg_RX0_351 E hW r1414584 dX0_wordOf_263 (fun a1414679 m1414680 r1414681 => ?_)
        refine lv_iload_n hx hb dX0_wordOf_266 rfl (lv_at hl 2 rfl) ?_
        refine gl_341 E hW r1414681 ⟨by omega, by omega⟩ dX0_wordOf_267 (fun y1414682 m1414683 => ?_)
        exact e_I E hW rfl ⟨⟨_, rfl, trivial⟩, hF⟩ dX0_wordOf_268
      by_cases c1414685 : u1.toInt = 276
      · refine lv_tableIn (tgt := 269) hx hb dX0_wordOf_42 (by omega) (by omega) (by rw [c1414685]; rfl) (by decide) ?_
        refine lv_aload_n hx hb dX0_wordOf_269 rfl (lv_at hl 0 rfl) ?_
        refine fg_RX0_12 E hW rh0 dX0_wordOf_270 (fun a1414686 m1414687 r1414688 => ?_)
        obtain rfl : a1414582 = a1414686 := (((fm_R g1414588 rh0 rfl).trans m1414583)).symm.trans m1414687
        refine lv_iload_n hx hb dX0_wordOf_273 rfl (lv_at hl 2 rfl) ?_
        refine t_callV (As := [.int u2]) (rest := []) E hW (c_X4_kinOf l G cI cJ cZ cD cR cT kp L f1414586 hW.2.2.2 _ a1414582 u2 r1414584 (by omega)) r1414584 (by decide) rfl wk_X4_kinOf tw_736 rfl ⟨Nat.le_of_ble_eq_true rfl, Nat.le_of_ble_eq_true rfl⟩ ⟨rfl, rfl⟩ hl.1 rfl (Nat.le_of_ble_eq_true rfl) dX0_wordOf_274 ⟨Nat.le_of_ble_eq_true rfl, Nat.le_of_ble_eq_true rfl⟩ (fun v1414689 f1414690 H locs q1414691 hW => ?_)
        obtain ⟨⟨x1414693, rfl, p1414694⟩, g1414692⟩ := q1414691
        clear p1414694
        have hF := FM.tr hF g1414692 rfl
        exact e_I E hW rfl ⟨⟨_, rfl, trivial⟩, hF⟩ dX0_wordOf_277
      by_cases c1414695 : u1.toInt = 277
      · exfalso; omega
      by_cases c1414696 : u1.toInt = 278
      · exfalso; omega
      by_cases c1414697 : u1.toInt = 279
      · exfalso; omega
      by_cases c1414698 : u1.toInt = 280
      · exfalso; omega
      by_cases c1414699 : u1.toInt = 281
      · exfalso; omega
      by_cases c1414700 : u1.toInt = 282
      · exfalso; omega
      refine lv_tableOut (tgt := 278) hx hb dX0_wordOf_42 (by omega) (by decide) ?_
      refine lv_iconst (v := 0) hx hb dX0_wordOf_278 (by decide) ?_
      exact e_I E hW rfl ⟨⟨_, rfl, trivial⟩, hF⟩ dX0_wordOf_279
    · clear p1414590
      refine lv_goto (tgt := 39) hx hb dX0_wordOf_18 (by decide) ?_
      refine lv_iconst (v := 0) hx hb dX0_wordOf_39 (by decide) ?_
      exact e_I E hW rfl ⟨⟨_, rfl, trivial⟩, hF⟩ dX0_wordOf_40
def ms_X0_join : List (Nat × Nat) := []
def po_X0_join (kp : Nat → Nat) (L : List Nat) (f0 : Nat → va_E) (u1 : Int32) (u2 : Int64) (u3 : Int64) : Option Value → (Nat → va_E) → Prop := fun v f => (∃ r : Int64, v = some (.long r) ∧ (True)) ∧ FM kp L ms_X0_join f0 f
set_option maxHeartbeats 4000000 in
set_option maxRecDepth 100000 in
theorem c_X0_join (l : Launch) (G : va_G) (cI cJ cZ cD cR cT : ClassId) (kp : Nat → Nat) (L : List Nat) (f0 : Nat → va_E) (hTH : TH cI cJ cZ cD cR cT kp L f0) (sz : Nat) (u1 : Int32) (u2 : Int64) (u3 : Int64) (pu1 : u1.toInt ≤ 255) : Met l yX0_join (Cond.code yX0_join cX0_join 7 (some .long) :: wTab) ({ frames := 1, cells := 0, slots := 0, locals := 40 }) (va_Pc [.int u1, .long u2, .long u3] (PreW G (tys6 cI cJ cZ cD cR cT) (va_pl L f0) sz)) (QT (po_X0_join kp L f0 u1 u2 u3) G cI cJ cZ cD cR cT (va_A (va_pl L f0) sz) kp L) 0 0 (va_A (va_pl L f0) sz) := by
  refine metT (by decide) (Nat.le_of_ble_eq_true rfl) hTH ?_
  intro p e s m below meth c A ls E hW hl
  obtain ⟨hx, hb, -, hml, hown, hts, -, -, -⟩ := id E
  have hF : FM kp L ms_X0_join f0 f0 := FM.rf
  have hl : lv_has ls 7 [(0, .int u1), (1, .long u2), (3, .long u3)] := hl
  refine lv_iload_n hx hb dX0_join_0 rfl (lv_at hl 0 rfl) ?_
  have J1414722 : ∀ (y1414721 : Int64) (H : Heap) (locs : List Loc) (ls : Array Slot), WS G cI cJ cZ cD cR cT A kp L f0 s H locs → FM kp L ms_X0_join f0 f0 → lv_has ls 7 [(5, .long y1414721), (0, .int u1), (1, .long u2), (3, .long u3)] → W p l e ({ frames := 1, cells := 0, slots := 0, locals := 40 }) s m ([.int u1, .long u2, .long u3] : List Value).toArray below meth c H locs 0 0 (MQ below (QT (po_X0_join kp L f0 u1 u2 u3) G cI cJ cZ cD cR cT A kp L) ([.int u1, .long u2, .long u3] : List Value).toArray s 0 0 A) (F0 m 149 ls []) := by
    intro y1414721 H locs ls hW hF hl
    refine lv_lload hx hb dX0_join_149 (lv_at hl 0 rfl) ?_
    refine lv_ldc2 (v := (-1000000000)) hx hb hown (hts _ tw_740) dX0_join_151 ?_
    have J1414726 : ∀ (y1414724 : Int64) (b1414725 : (-4000000000000000000 : Int) ≤ y1414724.toInt ∧ y1414724.toInt ≤ 1000000000) (H : Heap) (locs : List Loc) (ls : Array Slot), WS G cI cJ cZ cD cR cT A kp L f0 s H locs → FM kp L ms_X0_join f0 f0 → lv_has ls 7 [(5, .long y1414721), (0, .int u1), (1, .long u2), (3, .long u3)] → W p l e ({ frames := 1, cells := 0, slots := 0, locals := 40 }) s m ([.int u1, .long u2, .long u3] : List Value).toArray below meth c H locs 0 0 (MQ below (QT (po_X0_join kp L f0 u1 u2 u3) G cI cJ cZ cD cR cT A kp L) ([.int u1, .long u2, .long u3] : List Value).toArray s 0 0 A) (F0 m 175 ls [.long y1414724]) := by
      intro y1414724 b1414725 H locs ls hW hF hl
      exact e_J E hW rfl ⟨⟨_, rfl, trivial⟩, hF⟩ dX0_join_175
    refine q_lcmp_lt (Y := -1000000000) (tgt := 167) hx hb dX0_join_154 dX0_join_155 (by decide) rfl rfl (fun c1414727 => ?_) (fun c1414727 => ?_)
    · refine lv_ldc2 (v := (-4000000000000000000)) hx hb hown (hts _ tw_721) dX0_join_167 ?_
      refine lv_goto (tgt := 175) hx hb dX0_join_170 (by decide) ?_
      exact J1414726 (-4000000000000000000) (by decide) _ _ _ hW hF (lv_sub hl [0, 1, 2, 3] rfl)
    · refine lv_lload hx hb dX0_join_158 (lv_at hl 0 rfl) ?_
      refine lv_ldc2 (v := 1000000000) hx hb hown (hts _ tw_741) dX0_join_160 ?_
      refine q_lcmp_le (Y := 1000000000) (tgt := 173) hx hb dX0_join_163 dX0_join_164 (by decide) rfl rfl (fun c1414728 => ?_) (fun c1414728 => ?_)
      · refine lv_lload hx hb dX0_join_173 (lv_at hl 0 rfl) ?_
        exact J1414726 y1414721 (by omega) _ _ _ hW hF (lv_sub hl [0, 1, 2, 3] rfl)
      · refine lv_ldc2 (v := (-4000000000000000000)) hx hb hown (hts _ tw_721) dX0_join_167 ?_
        refine lv_goto (tgt := 175) hx hb dX0_join_170 (by decide) ?_
        exact J1414726 (-4000000000000000000) (by decide) _ _ _ hW hF (lv_sub hl [0, 1, 2, 3] rfl)
  by_cases c1414729 : u1.toInt = 42
  · refine lv_lookup (off := 75) (tgt := 76) hx hb dX0_join_1 (by decide) (by rw [c1414729]; decide) (by decide) ?_
    refine lv_lload_n hx hb dX0_join_76 rfl (lv_at hl 1 rfl) ?_
    refine lv_lload_n hx hb dX0_join_77 rfl (lv_at hl 2 rfl) ?_
    refine u_lmul hx hb dX0_join_78 (fun x1414730 => ?_)
    refine lv_lstore (lv' := [(5, .long x1414730), (0, .int u1), (1, .long u2), (3, .long u3)]) hx hb dX0_join_79 hl (by decide) rfl (fun ls hl => ?_)
    refine lv_goto (tgt := 149) hx hb dX0_join_81 (by decide) ?_
    exact J1414722 x1414730  _ _ _ hW hF (lv_sub hl [0, 1, 2, 3] rfl)
  by_cases c1414731 : u1.toInt = 43
  · refine lv_lookup (off := 59) (tgt := 60) hx hb dX0_join_1 (by decide) (by rw [c1414731]; decide) (by decide) ?_
    refine lv_lload_n hx hb dX0_join_60 rfl (lv_at hl 1 rfl) ?_
    refine lv_lload_n hx hb dX0_join_61 rfl (lv_at hl 2 rfl) ?_
    refine u_ladd hx hb dX0_join_62 (fun x1414732 => ?_)
    refine lv_lstore (lv' := [(5, .long x1414732), (0, .int u1), (1, .long u2), (3, .long u3)]) hx hb dX0_join_63 hl (by decide) rfl (fun ls hl => ?_)
    refine lv_goto (tgt := 149) hx hb dX0_join_65 (by decide) ?_
    exact J1414722 x1414732  _ _ _ hW hF (lv_sub hl [0, 1, 2, 3] rfl)
  by_cases c1414733 : u1.toInt = 45
  · refine lv_lookup (off := 67) (tgt := 68) hx hb dX0_join_1 (by decide) (by rw [c1414733]; decide) (by decide) ?_
    refine lv_lload_n hx hb dX0_join_68 rfl (lv_at hl 1 rfl) ?_
    refine lv_lload_n hx hb dX0_join_69 rfl (lv_at hl 2 rfl) ?_
    refine u_lsub hx hb dX0_join_70 (fun x1414734 => ?_)
    refine lv_lstore (lv' := [(5, .long x1414734), (0, .int u1), (1, .long u2), (3, .long u3)]) hx hb dX0_join_71 hl (by decide) rfl (fun ls hl => ?_)
    refine lv_goto (tgt := 149) hx hb dX0_join_73 (by decide) ?_
    exact J1414722 x1414734  _ _ _ hW hF (lv_sub hl [0, 1, 2, 3] rfl)
  by_cases c1414735 : u1.toInt = 47
  · refine lv_lookup (off := 83) (tgt := 84) hx hb dX0_join_1 (by decide) (by rw [c1414735]; decide) (by decide) ?_
    refine lv_lload_n hx hb dX0_join_84 rfl (lv_at hl 2 rfl) ?_
    refine lv_lconst (v := 0) hx hb dX0_join_85 (by decide) ?_
    have J1414738 : ∀ (y1414737 : Int64) (H : Heap) (locs : List Loc) (ls : Array Slot), WS G cI cJ cZ cD cR cT A kp L f0 s H locs → FM kp L ms_X0_join f0 f0 → lv_has ls 7 [(0, .int u1), (1, .long u2), (3, .long u3)] → W p l e ({ frames := 1, cells := 0, slots := 0, locals := 40 }) s m ([.int u1, .long u2, .long u3] : List Value).toArray below meth c H locs 0 0 (MQ below (QT (po_X0_join kp L f0 u1 u2 u3) G cI cJ cZ cD cR cT A kp L) ([.int u1, .long u2, .long u3] : List Value).toArray s 0 0 A) (F0 m 99 ls [.long y1414737]) := by
      intro y1414737 H locs ls hW hF hl
      refine lv_lstore (lv' := [(5, .long y1414737), (0, .int u1), (1, .long u2), (3, .long u3)]) hx hb dX0_join_99 hl (by decide) rfl (fun ls hl => ?_)
      refine lv_goto (tgt := 149) hx hb dX0_join_101 (by decide) ?_
      exact J1414722 y1414737  _ _ _ hW hF (lv_sub hl [0, 1, 2, 3] rfl)
    refine q_lcmp_ne (Y := 0) (tgt := 96) hx hb dX0_join_86 dX0_join_87 (by decide) rfl rfl (fun c1414739 => ?_) (fun c1414739 => ?_)
    · refine lv_lload_n hx hb dX0_join_96 rfl (lv_at hl 1 rfl) ?_
      refine lv_lload_n hx hb dX0_join_97 rfl (lv_at hl 2 rfl) ?_
      refine u_ldiv hx hb dX0_join_98 (by omega) (fun x1414740 => ?_)
      exact J1414738 x1414740  _ _ _ hW hF (lv_sub hl [0, 1, 2] rfl)
    · refine lv_ldc2 (v := (-4000000000000000000)) hx hb hown (hts _ tw_721) dX0_join_90 ?_
      refine lv_goto (tgt := 99) hx hb dX0_join_93 (by decide) ?_
      exact J1414738 (-4000000000000000000)  _ _ _ hW hF (lv_sub hl [0, 1, 2] rfl)
  by_cases c1414741 : u1.toInt = 60
  · refine lv_lookup (off := 103) (tgt := 104) hx hb dX0_join_1 (by decide) (by rw [c1414741]; decide) (by decide) ?_
    refine lv_lload_n hx hb dX0_join_104 rfl (lv_at hl 1 rfl) ?_
    refine lv_lload_n hx hb dX0_join_105 rfl (lv_at hl 2 rfl) ?_
    have J1414744 : ∀ (y1414742 : Int64) (b1414743 : (0 : Int) ≤ y1414742.toInt ∧ y1414742.toInt ≤ 1) (H : Heap) (locs : List Loc) (ls : Array Slot), WS G cI cJ cZ cD cR cT A kp L f0 s H locs → FM kp L ms_X0_join f0 f0 → lv_has ls 7 [(0, .int u1), (1, .long u2), (3, .long u3)] → W p l e ({ frames := 1, cells := 0, slots := 0, locals := 40 }) s m ([.int u1, .long u2, .long u3] : List Value).toArray below meth c H locs 0 0 (MQ below (QT (po_X0_join kp L f0 u1 u2 u3) G cI cJ cZ cD cR cT A kp L) ([.int u1, .long u2, .long u3] : List Value).toArray s 0 0 A) (F0 m 115 ls [.long y1414742]) := by
      intro y1414742 b1414743 H locs ls hW hF hl
      refine lv_lstore (lv' := [(5, .long y1414742), (0, .int u1), (1, .long u2), (3, .long u3)]) hx hb dX0_join_115 hl (by decide) rfl (fun ls hl => ?_)
      refine lv_goto (tgt := 149) hx hb dX0_join_117 (by decide) ?_
      exact J1414722 y1414742  _ _ _ hW hF (lv_sub hl [0, 1, 2, 3] rfl)
    refine q_lcmp_ge (tgt := 114) hx hb dX0_join_106 dX0_join_107 (by decide) rfl rfl (fun c1414745 => ?_) (fun c1414745 => ?_)
    · refine lv_lconst (v := 0) hx hb dX0_join_114 (by decide) ?_
      exact J1414744 0 (by decide) _ _ _ hW hF (lv_sub hl [0, 1, 2] rfl)
    · refine lv_lconst (v := 1) hx hb dX0_join_110 (by decide) ?_
      refine lv_goto (tgt := 115) hx hb dX0_join_111 (by decide) ?_
      exact J1414744 1 (by decide) _ _ _ hW hF (lv_sub hl [0, 1, 2] rfl)
  by_cases c1414746 : u1.toInt = 62
  · refine lv_lookup (off := 119) (tgt := 120) hx hb dX0_join_1 (by decide) (by rw [c1414746]; decide) (by decide) ?_
    refine lv_lload_n hx hb dX0_join_120 rfl (lv_at hl 1 rfl) ?_
    refine lv_lload_n hx hb dX0_join_121 rfl (lv_at hl 2 rfl) ?_
    have J1414749 : ∀ (y1414747 : Int64) (b1414748 : (0 : Int) ≤ y1414747.toInt ∧ y1414747.toInt ≤ 1) (H : Heap) (locs : List Loc) (ls : Array Slot), WS G cI cJ cZ cD cR cT A kp L f0 s H locs → FM kp L ms_X0_join f0 f0 → lv_has ls 7 [(0, .int u1), (1, .long u2), (3, .long u3)] → W p l e ({ frames := 1, cells := 0, slots := 0, locals := 40 }) s m ([.int u1, .long u2, .long u3] : List Value).toArray below meth c H locs 0 0 (MQ below (QT (po_X0_join kp L f0 u1 u2 u3) G cI cJ cZ cD cR cT A kp L) ([.int u1, .long u2, .long u3] : List Value).toArray s 0 0 A) (F0 m 131 ls [.long y1414747]) := by
      intro y1414747 b1414748 H locs ls hW hF hl
      refine lv_lstore (lv' := [(5, .long y1414747), (0, .int u1), (1, .long u2), (3, .long u3)]) hx hb dX0_join_131 hl (by decide) rfl (fun ls hl => ?_)
      refine lv_goto (tgt := 149) hx hb dX0_join_133 (by decide) ?_
      exact J1414722 y1414747  _ _ _ hW hF (lv_sub hl [0, 1, 2, 3] rfl)
    refine q_lcmp_le (tgt := 130) hx hb dX0_join_122 dX0_join_123 (by decide) rfl rfl (fun c1414750 => ?_) (fun c1414750 => ?_)
    · refine lv_lconst (v := 0) hx hb dX0_join_130 (by decide) ?_
      exact J1414749 0 (by decide) _ _ _ hW hF (lv_sub hl [0, 1, 2] rfl)
    · refine lv_lconst (v := 1) hx hb dX0_join_126 (by decide) ?_
      refine lv_goto (tgt := 131) hx hb dX0_join_127 (by decide) ?_
      exact J1414749 1 (by decide) _ _ _ hW hF (lv_sub hl [0, 1, 2] rfl)
  refine lv_lookup (off := 135) (tgt := 136) hx hb dX0_join_1 (by decide) (by simp [Op.lookupswitch.offset, List.find?, Ne.symm c1414729, Ne.symm c1414731, Ne.symm c1414733, Ne.symm c1414735, Ne.symm c1414741, Ne.symm c1414746, c1414729, c1414731, c1414733, c1414735, c1414741, c1414746]) (by decide) ?_
  refine lv_lload_n hx hb dX0_join_136 rfl (lv_at hl 1 rfl) ?_
  refine lv_lload_n hx hb dX0_join_137 rfl (lv_at hl 2 rfl) ?_
  have J1414753 : ∀ (y1414751 : Int64) (b1414752 : (0 : Int) ≤ y1414751.toInt ∧ y1414751.toInt ≤ 1) (H : Heap) (locs : List Loc) (ls : Array Slot), WS G cI cJ cZ cD cR cT A kp L f0 s H locs → FM kp L ms_X0_join f0 f0 → lv_has ls 7 [(0, .int u1), (1, .long u2), (3, .long u3)] → W p l e ({ frames := 1, cells := 0, slots := 0, locals := 40 }) s m ([.int u1, .long u2, .long u3] : List Value).toArray below meth c H locs 0 0 (MQ below (QT (po_X0_join kp L f0 u1 u2 u3) G cI cJ cZ cD cR cT A kp L) ([.int u1, .long u2, .long u3] : List Value).toArray s 0 0 A) (F0 m 147 ls [.long y1414751]) := by
    intro y1414751 b1414752 H locs ls hW hF hl
    refine lv_lstore (lv' := [(5, .long y1414751), (0, .int u1), (1, .long u2), (3, .long u3)]) hx hb dX0_join_147 hl (by decide) rfl (fun ls hl => ?_)
    exact J1414722 y1414751  _ _ _ hW hF (lv_sub hl [0, 1, 2, 3] rfl)
  refine q_lcmp_ne (tgt := 146) hx hb dX0_join_138 dX0_join_139 (by decide) rfl rfl (fun c1414754 => ?_) (fun c1414754 => ?_)
  · refine lv_lconst (v := 0) hx hb dX0_join_146 (by decide) ?_
    exact J1414753 0 (by decide) _ _ _ hW hF (lv_sub hl [0, 1, 2] rfl)
  · refine lv_lconst (v := 1) hx hb dX0_join_142 (by decide) ?_
    refine lv_goto (tgt := 147) hx hb dX0_join_143 (by decide) ?_
    exact J1414753 1 (by decide) _ _ _ hW hF (lv_sub hl [0, 1, 2] rfl)
def ms_X0_ask : List (Nat × Nat) := [(115, 0)]
def po_X0_ask (kp : Nat → Nat) (L : List Nat) (f0 : Nat → va_E) (h0 : Nat) (u1 : Nat) (u2 : Int32) (u3 : Int32) (u4 : Int32) : Option Value → (Nat → va_E) → Prop := fun v f => (∃ r : Int64, v = some (.long r) ∧ (True)) ∧ FM kp L ms_X0_ask f0 f
set_option maxHeartbeats 4000000 in
set_option maxRecDepth 100000 in
theorem c_X0_ask (l : Launch) (G : va_G) (cI cJ cZ cD cR cT : ClassId) (kp : Nat → Nat) (L : List Nat) (f0 : Nat → va_E) (hTH : TH cI cJ cZ cD cR cT kp L f0) (sz : Nat) (h0 : Nat) (u1 : Nat) (u2 : Int32) (u3 : Int32) (u4 : Int32) (rh0 : RK kp L h0 0) (ru1 : RK kp L u1 9) (pu2 : (0 : Int) ≤ u2.toInt ∧ u2.toInt ≤ 11) (pu3 : (-1 : Int) ≤ u3.toInt ∧ u3.toInt ≤ 39) (pu4 : (-1 : Int) ≤ u4.toInt ∧ u4.toInt ≤ 39) (hcl : u2.toInt < (oI (f0 u1) 1).toInt) : Met l yX0_ask (Cond.code yX0_ask cX0_ask 12 (some .long) :: wTab) ({ frames := 3, cells := 0, slots := 0, locals := 86 }) (va_Pc [.ref h0, .ref u1, .int u2, .int u3, .int u4] (PreW G (tys6 cI cJ cZ cD cR cT) (va_pl L f0) sz)) (QT (po_X0_ask kp L f0 h0 u1 u2 u3 u4) G cI cJ cZ cD cR cT (va_A (va_pl L f0) sz) kp L) 0 0 (va_A (va_pl L f0) sz) := by
  refine metT (by decide) (Nat.le_of_ble_eq_true rfl) hTH ?_
  intro p e s m below meth c A ls E hW hl
  obtain ⟨hx, hb, -, hml, hown, hts, -, -, -⟩ := id E
  have hF : FM kp L ms_X0_ask f0 f0 := FM.rf
  have hl : lv_has ls 12 [(0, .ref h0), (1, .ref u1), (2, .int u2), (3, .int u3), (4, .int u4)] := hl
  refine lv_iconst (v := 0) hx hb dX0_ask_0 (by decide) ?_
  refine lv_istore (lv' := [(5, .int 0), (0, .ref h0), (1, .ref u1), (2, .int u2), (3, .int u3), (4, .int u4)]) hx hb dX0_ask_1 hl (by decide) rfl (fun ls hl => ?_)
  refine lv_iconst (v := 0) hx hb dX0_ask_3 (by decide) ?_
  refine lv_istore (lv' := [(6, .int 0), (5, .int 0), (0, .ref h0), (1, .ref u1), (2, .int u2), (3, .int u3), (4, .int u4)]) hx hb dX0_ask_4 hl (by decide) rfl (fun ls hl => ?_)
  refine lv_aload_n hx hb dX0_ask_6 rfl (lv_at hl 2 rfl) ?_
  refine fg_RX0_57 E hW rh0 dX0_ask_7 (fun a1414755 m1414756 r1414757 => ?_)
  refine lv_iconst (v := 0) hx hb dX0_ask_10 (by decide) ?_
  refine lv_lconst (v := 0) hx hb dX0_ask_11 (by decide) ?_
  refine gs_115 E hW r1414757 (by decide) dX0_ask_12 (fun f1414758 H locs e1414759 n1414760 g1414761 hW => ?_)
  have hF := FM.tr hF g1414761 rfl
  refine lv_aload_n hx hb dX0_ask_13 rfl (lv_at hl 3 rfl) ?_
  refine fg_RX0_314 E hW ru1 dX0_ask_14 (fun a1414762 m1414763 r1414764 => ?_)
  refine lv_iload_n hx hb dX0_ask_17 rfl (lv_at hl 4 rfl) ?_
  refine gl_646 E hW r1414764 ⟨by omega, by omega⟩ dX0_ask_18 (fun y1414765 m1414766 => ?_)
  have b1414768 : 0 ≤ y1414765.toInt := si_start hW ru1 m1414763 ⟨by omega, by rw [fm_I hF ru1 rfl]; exact hcl⟩ m1414766
  refine lv_istore (lv' := [(7, .int y1414765), (6, .int 0), (5, .int 0), (0, .ref h0), (1, .ref u1), (2, .int u2), (3, .int u3), (4, .int u4)]) hx hb dX0_ask_19 hl (by decide) rfl (fun ls hl => ?_)
  have L1420562 : ∀ (n : Nat), ∀ (f1420554 : Nat → va_E) (y1420557 : Int32) (y1420559 : Int32) (y1420560 : Int32) (m1420555 : oR (f1420554 h0) 15 = a1414755) (m1420556 : oR (f1420554 u1) 6 = a1414762) (b1420558 : (0 : Int) ≤ y1420557.toInt) (b1420561 : (0 : Int) ≤ y1420560.toInt ∧ y1420560.toInt ≤ 64) (hm : (2147483648 : Int) - y1420557.toInt ≤ n) (H : Heap) (locs : List Loc) (ls : Array Slot), WS G cI cJ cZ cD cR cT A kp L f1420554 s H locs → FM kp L ms_X0_ask f0 f1420554 → lv_has ls 12 [(7, .int y1420557), (6, .int y1420559), (5, .int y1420560), (0, .ref h0), (1, .ref u1), (2, .int u2), (3, .int u3), (4, .int u4)] → W p l e ({ frames := 3, cells := 0, slots := 0, locals := 86 }) s m ([.ref h0, .ref u1, .int u2, .int u3, .int u4] : List Value).toArray below meth c H locs 0 0 (MQ below (QT (po_X0_ask kp L f0 h0 u1 u2 u3 u4) G cI cJ cZ cD cR cT A kp L) ([.ref h0, .ref u1, .int u2, .int u3, .int u4] : List Value).toArray s 0 0 A) (F0 m 21 ls []) := by
    intro n
    induction n with
    | zero =>
      intro f1420554 y1420557 y1420559 y1420560 m1420555 m1420556 b1420558 b1420561 hm H locs ls hW hF hl
      have hz := i32_b y1420557
      exfalso; omega
    | succ n ih =>
      intro f1420554 y1420557 y1420559 y1420560 m1420555 m1420556 b1420558 b1420561 hm H locs ls hW hF hl
      clear b1414768
      have ih21 := ih
      refine lv_iload hx hb dX0_ask_21 (lv_at hl 0 rfl) ?_
      refine lv_aload_n hx hb dX0_ask_23 rfl (lv_at hl 4 rfl) ?_
      refine fg_RX0_317 E hW ru1 dX0_ask_24 (fun a1420563 m1420564 r1420565 => ?_)
      refine lv_iload_n hx hb dX0_ask_27 rfl (lv_at hl 5 rfl) ?_
      refine gl_647 E hW r1420565 ⟨by omega, by omega⟩ dX0_ask_28 (fun y1420566 m1420567 => ?_)
      refine q_icmp_ge (tgt := 320) hx hb dX0_ask_29 (by decide) rfl rfl (fun c1420569 => ?_) (fun c1420569 => ?_)
      · refine lv_aload_n hx hb dX0_ask_320 rfl (lv_at hl 3 rfl) ?_
        refine fg_RX0_57 E hW rh0 dX0_ask_321 (fun a1420570 m1420571 r1420572 => ?_)
        obtain rfl : a1414755 = a1420570 := (m1420555).symm.trans m1420571
        refine lv_iconst (v := 0) hx hb dX0_ask_324 (by decide) ?_
        refine gl_115 E hW r1414757 (by decide) dX0_ask_325 (fun y1420573 _ => ?_)
        exact e_J E hW rfl ⟨⟨_, rfl, trivial⟩, hF⟩ dX0_ask_326
      · have hb1420574 : y1420557.toInt ≤ 2147483646 := by have := i32_b y1420566; omega
        refine lv_iload hx hb dX0_ask_32 (lv_at hl 0 rfl) ?_
        refine lv_iload hx hb dX0_ask_34 (lv_at hl 1 rfl) ?_
        refine q_icmp_ge (tgt := 42) hx hb dX0_ask_36 (by decide) rfl rfl (fun c1420575 => ?_) (fun c1420575 => ?_)
        · refine lv_aload_n hx hb dX0_ask_42 rfl (lv_at hl 4 rfl) ?_
          refine fg_RX0_320 E hW ru1 dX0_ask_43 (fun a1420576 m1420577 r1420578 => ?_)
          refine lv_iload hx hb dX0_ask_46 (lv_at hl 0 rfl) ?_
          refine gl_648 E hW r1420578 (ix_op hW ru1 m1420564 m1420577 ⟨by omega, by rw [fm_I hF ru1 rfl]; exact hcl⟩ m1420567 (by omega) (by omega)) dX0_ask_48 (fun y1420579 m1420580 => ?_)
          refine lv_istore (lv' := [(8, .int y1420579), (7, .int y1420557), (6, .int y1420559), (5, .int y1420560), (0, .ref h0), (1, .ref u1), (2, .int u2), (3, .int u3), (4, .int u4)]) hx hb dX0_ask_49 hl (by decide) rfl (fun ls hl => ?_)
          refine lv_iload hx hb dX0_ask_51 (lv_at hl 0 rfl) ?_
          refine lv_sipush (v := 301) hx hb dX0_ask_53 (by decide) ?_
          refine q_icmp_eq (Y := 301) (tgt := 75) hx hb dX0_ask_56 (by decide) rfl rfl (fun c1420582 => ?_) (fun c1420582 => ?_)
          · refine lv_iload hx hb dX0_ask_75 (lv_at hl 3 rfl) ?_
            refine lv_bipush (v := 64) hx hb dX0_ask_77 (by decide) ?_
            refine q_icmp_lt (Y := 64) (tgt := 86) hx hb dX0_ask_79 (by decide) rfl rfl (fun c1420583 => ?_) (fun c1420583 => ?_)
            · refine lv_aload_n hx hb dX0_ask_86 rfl (lv_at hl 4 rfl) ?_
              refine fg_RX0_57 E hW rh0 dX0_ask_87 (fun a1420584 m1420585 r1420586 => ?_)
              obtain rfl : a1414755 = a1420584 := (m1420555).symm.trans m1420585
              refine lv_iload hx hb dX0_ask_90 (lv_at hl 3 rfl) ?_
              refine lv_iload hx hb dX0_ask_92 (lv_at hl 0 rfl) ?_
              refine lv_sipush (v := 301) hx hb dX0_ask_94 (by decide) ?_
              refine q_icmp_ne (Y := 301) (tgt := 111) hx hb dX0_ask_97 (by decide) rfl rfl (fun c1420596 => ?_) (fun c1420596 => ?_)
              · exfalso; omega
              · refine lv_aload_n hx hb dX0_ask_100 rfl (lv_at hl 5 rfl) ?_
                refine fg_RX0_323 E hW ru1 dX0_ask_101 (fun a1420597 m1420598 r1420599 => ?_)
                refine lv_iload hx hb dX0_ask_104 (lv_at hl 1 rfl) ?_
                refine gl_649 E hW r1420599 (ix_arg hW ru1 m1420564 m1420598 ⟨by omega, by rw [fm_I hF ru1 rfl]; exact hcl⟩ m1420567 (by omega) (by omega)) dX0_ask_106 (fun y1420600 m1420601 => ?_)
                refine q_i2l hx hb dX0_ask_107 rfl (fun x1420603 h1420604 => ?_)
                have hb1420605 : -2147483648 ≤ x1420603.toInt ∧ x1420603.toInt ≤ 2147483647 := by have := i32_b y1420600; omega
                refine lv_goto (tgt := 121) hx hb dX0_ask_108 (by decide) ?_
                refine gs_115 E hW r1414757 ⟨by omega, by omega⟩ dX0_ask_121 (fun f1420606 H locs e1420607 n1420608 g1420609 hW => ?_)
                have hF := FM.tr hF g1420609 rfl
                refine q_iinc hx hb dX0_ask_122 hl (k := 3) rfl rfl rfl (by omega) (by decide) (fun i1420610 ls h1420611 hl => ?_)
                have hl : lv_has ls 12 [(5, .int i1420610), (8, .int y1420579), (7, .int y1420557), (6, .int y1420559), (0, .ref h0), (1, .ref u1), (2, .int u2), (3, .int u3), (4, .int u4)] := hl
                refine lv_goto (tgt := 314) hx hb dX0_ask_125 (by decide) ?_
                refine q_iinc hx hb dX0_ask_314 hl (k := 2) rfl rfl rfl (by omega) (by decide) (fun i1420612 ls h1420613 hl => ?_)
                have hl : lv_has ls 12 [(7, .int i1420612), (5, .int i1420610), (8, .int y1420579), (6, .int y1420559), (0, .ref h0), (1, .ref u1), (2, .int u2), (3, .int u3), (4, .int u4)] := hl
                refine lv_goto (tgt := 21) hx hb dX0_ask_317 (by decide) ?_
                exact ih21 f1420606 i1420612 y1420559 i1420610 ((fm_R g1420609 rh0 rfl).trans m1420585) ((fm_R g1420609 ru1 rfl).trans m1420556) (by omega) (by omega) (by omega) _ _ _ hW hF (lv_sub hl [0, 3, 1, 4, 5, 6, 7, 8] rfl)
            · refine lv_ldc2 (v := (-4000000000000000000)) hx hb hown (hts _ tw_721) dX0_ask_82 ?_
              exact e_J E hW rfl ⟨⟨_, rfl, trivial⟩, hF⟩ dX0_ask_85
          · refine lv_iload hx hb dX0_ask_59 (lv_at hl 0 rfl) ?_
            refine lv_sipush (v := 268) hx hb dX0_ask_61 (by decide) ?_
            refine q_icmp_lt (Y := 268) (tgt := 128) hx hb dX0_ask_64 (by decide) rfl rfl (fun c1420614 => ?_) (fun c1420614 => ?_)
            · refine lv_iload hx hb dX0_ask_128 (lv_at hl 3 rfl) ?_
              refine lv_iconst (v := 1) hx hb dX0_ask_130 (by decide) ?_
              refine q_icmp_ge (Y := 1) (tgt := 138) hx hb dX0_ask_131 (by decide) rfl rfl (fun c1420615 => ?_) (fun c1420615 => ?_)
              · refine lv_aload_n hx hb dX0_ask_138 rfl (lv_at hl 4 rfl) ?_
                refine fg_RX0_57 E hW rh0 dX0_ask_139 (fun a1420616 m1420617 r1420618 => ?_)
                obtain rfl : a1414755 = a1420616 := (m1420555).symm.trans m1420617
                refine lv_iload hx hb dX0_ask_142 (lv_at hl 3 rfl) ?_
                refine lv_iconst (v := 1) hx hb dX0_ask_144 (by decide) ?_
                refine q_isub (Y := 1) hx hb dX0_ask_145 rfl rfl (by omega) (fun x1420619 h1420620 => ?_)
                refine gl_115 E hW r1414757 ⟨by omega, by omega⟩ dX0_ask_146 (fun y1420621 _ => ?_)
                refine lv_lconst (v := 0) hx hb dX0_ask_147 (by decide) ?_
                have J1420624 : ∀ (y1420622 : Int32) (b1420623 : (0 : Int) ≤ y1420622.toInt ∧ y1420622.toInt ≤ 1) (H : Heap) (locs : List Loc) (ls : Array Slot), WS G cI cJ cZ cD cR cT A kp L f1420554 s H locs → FM kp L ms_X0_ask f0 f1420554 → lv_has ls 12 [(8, .int y1420579), (7, .int y1420557), (6, .int y1420559), (5, .int y1420560), (0, .ref h0), (1, .ref u1), (2, .int u2), (3, .int u3), (4, .int u4)] → W p l e ({ frames := 3, cells := 0, slots := 0, locals := 86 }) s m ([.ref h0, .ref u1, .int u2, .int u3, .int u4] : List Value).toArray below meth c H locs 0 0 (MQ below (QT (po_X0_ask kp L f0 h0 u1 u2 u3 u4) G cI cJ cZ cD cR cT A kp L) ([.ref h0, .ref u1, .int u2, .int u3, .int u4] : List Value).toArray s 0 0 A) (F0 m 157 ls [.int y1420622]) := by
                  intro y1420622 b1420623 H locs ls hW hF hl
                  refine lv_istore (lv' := [(9, .int y1420622), (8, .int y1420579), (7, .int y1420557), (6, .int y1420559), (5, .int y1420560), (0, .ref h0), (1, .ref u1), (2, .int u2), (3, .int u3), (4, .int u4)]) hx hb dX0_ask_157 hl (by decide) rfl (fun ls hl => ?_)
                  refine lv_iload hx hb dX0_ask_159 (lv_at hl 1 rfl) ?_
                  refine lv_sipush (v := 267) hx hb dX0_ask_161 (by decide) ?_
                  refine q_icmp_ne (Y := 267) (tgt := 189) hx hb dX0_ask_164 (by decide) rfl rfl (fun c1420625 => ?_) (fun c1420625 => ?_)
                  · refine lv_iload hx hb dX0_ask_189 (lv_at hl 1 rfl) ?_
                    refine lv_sipush (v := 259) hx hb dX0_ask_191 (by decide) ?_
                    refine q_icmp_ne (Y := 259) (tgt := 206) hx hb dX0_ask_194 (by decide) rfl rfl (fun c1420626 => ?_) (fun c1420626 => ?_)
                    · refine lv_iload hx hb dX0_ask_206 (lv_at hl 1 rfl) ?_
                      refine lv_sipush (v := 265) hx hb dX0_ask_208 (by decide) ?_
                      refine q_icmp_ne (Y := 265) (tgt := 219) hx hb dX0_ask_211 (by decide) rfl rfl (fun c1420627 => ?_) (fun c1420627 => ?_)
                      · refine lv_iload hx hb dX0_ask_219 (lv_at hl 1 rfl) ?_
                        refine lv_sipush (v := 266) hx hb dX0_ask_221 (by decide) ?_
                        refine q_icmp_ne (Y := 266) (tgt := 244) hx hb dX0_ask_224 (by decide) rfl rfl (fun c1420628 => ?_) (fun c1420628 => ?_)
                        · refine q_iinc hx hb dX0_ask_244 hl (k := 4) rfl rfl rfl (by omega) (by decide) (fun i1420629 ls h1420630 hl => ?_)
                          have hl : lv_has ls 12 [(5, .int i1420629), (9, .int y1420622), (8, .int y1420579), (7, .int y1420557), (6, .int y1420559), (0, .ref h0), (1, .ref u1), (2, .int u2), (3, .int u3), (4, .int u4)] := hl
                          refine lv_iload hx hb dX0_ask_247 (lv_at hl 2 rfl) ?_
                          refine lv_sipush (v := 256) hx hb dX0_ask_249 (by decide) ?_
                          refine q_icmp_ge (Y := 256) (tgt := 314) hx hb dX0_ask_252 (by decide) rfl rfl (fun c1420631 => ?_) (fun c1420631 => ?_)
                          · refine q_iinc hx hb dX0_ask_314 hl (k := 3) rfl rfl rfl (by omega) (by decide) (fun i1420632 ls h1420633 hl => ?_)
                            have hl : lv_has ls 12 [(7, .int i1420632), (5, .int i1420629), (9, .int y1420622), (8, .int y1420579), (6, .int y1420559), (0, .ref h0), (1, .ref u1), (2, .int u2), (3, .int u3), (4, .int u4)] := hl
                            refine lv_goto (tgt := 21) hx hb dX0_ask_317 (by decide) ?_
                            exact ih21 f1420554 i1420632 y1420559 i1420629 m1420617 m1420556 (by omega) (by omega) (by omega) _ _ _ hW hF (lv_sub hl [0, 4, 1, 5, 6, 7, 8, 9] rfl)
                          · refine lv_iload hx hb dX0_ask_255 (lv_at hl 0 rfl) ?_
                            refine lv_iconst (v := 1) hx hb dX0_ask_257 (by decide) ?_
                            refine q_icmp_ge (Y := 1) (tgt := 267) hx hb dX0_ask_258 (by decide) rfl rfl (fun c1420634 => ?_) (fun c1420634 => ?_)
                            · refine lv_iload hx hb dX0_ask_267 (lv_at hl 2 rfl) ?_
                              refine lv_aload_n hx hb dX0_ask_269 rfl (lv_at hl 5 rfl) ?_
                              refine fg_RX0_57 E hW rh0 dX0_ask_270 (fun a1420635 m1420636 r1420637 => ?_)
                              obtain rfl : a1414755 = a1420635 := (m1420617).symm.trans m1420636
                              refine lv_iload hx hb dX0_ask_273 (lv_at hl 0 rfl) ?_
                              refine lv_iconst (v := 1) hx hb dX0_ask_275 (by decide) ?_
                              refine q_isub (Y := 1) hx hb dX0_ask_276 rfl rfl (by omega) (fun x1420638 h1420639 => ?_)
                              refine gl_115 E hW r1414757 ⟨by omega, by omega⟩ dX0_ask_277 (fun y1420640 _ => ?_)
                              refine lv_aload_n hx hb dX0_ask_278 rfl (lv_at hl 5 rfl) ?_
                              refine fg_RX0_57 E hW rh0 dX0_ask_279 (fun a1420641 m1420642 r1420643 => ?_)
                              obtain rfl : a1414755 = a1420641 := (m1420636).symm.trans m1420642
                              refine lv_iload hx hb dX0_ask_282 (lv_at hl 0 rfl) ?_
                              refine gl_115 E hW r1414757 ⟨by omega, by omega⟩ dX0_ask_284 (fun y1420644 _ => ?_)
                              refine t_callS (As := [.int y1420579, .long y1420640, .long y1420644]) (rest := []) E hW (c_X0_join l G cI cJ cZ cD cR cT kp L f1420554 hW.2.2.2 _ y1420579 y1420640 y1420644 (by omega)) wk_X0_join tw_737 rfl ⟨Nat.le_of_ble_eq_true rfl, Nat.le_of_ble_eq_true rfl⟩ ⟨rfl, rfl⟩ hl.1 rfl (Nat.le_of_ble_eq_true rfl) dX0_ask_285 ⟨Nat.le_of_ble_eq_true rfl, Nat.le_of_ble_eq_true rfl⟩ (fun v1420645 f1420646 H locs q1420647 hW => ?_)
                              obtain ⟨⟨x1420649, rfl, p1420650⟩, g1420648⟩ := q1420647
                              clear p1420650
                              have hF := FM.tr hF g1420648 rfl
                              refine lv_lstore (lv' := [(10, .long x1420649), (5, .int i1420629), (9, .int y1420622), (8, .int y1420579), (7, .int y1420557), (6, .int y1420559), (0, .ref h0), (1, .ref u1), (2, .int u2), (3, .int u3), (4, .int u4)]) hx hb dX0_ask_288 hl (by decide) rfl (fun ls hl => ?_)
                              refine lv_lload hx hb dX0_ask_290 (lv_at hl 0 rfl) ?_
                              refine lv_ldc2 (v := (-4000000000000000000)) hx hb hown (hts _ tw_721) dX0_ask_292 ?_
                              refine q_lcmp_ne (Y := -4000000000000000000) (tgt := 303) hx hb dX0_ask_295 dX0_ask_296 (by decide) rfl rfl (fun c1420651 => ?_) (fun c1420651 => ?_)
                              · refine lv_aload_n hx hb dX0_ask_303 rfl (lv_at hl 6 rfl) ?_
                                refine fg_RX0_57 E hW rh0 dX0_ask_304 (fun a1420652 m1420653 r1420654 => ?_)
                                obtain rfl : a1414755 = a1420652 := (((fm_R g1420648 rh0 rfl).trans m1420642)).symm.trans m1420653
                                refine lv_iload hx hb dX0_ask_307 (lv_at hl 1 rfl) ?_
                                refine lv_iconst (v := 1) hx hb dX0_ask_309 (by decide) ?_
                                refine q_isub (Y := 1) hx hb dX0_ask_310 rfl rfl (by omega) (fun x1420655 h1420656 => ?_)
                                refine lv_lload hx hb dX0_ask_311 (lv_at hl 0 rfl) ?_
                                refine gs_115 E hW r1414757 ⟨by omega, by omega⟩ dX0_ask_313 (fun f1420657 H locs e1420658 n1420659 g1420660 hW => ?_)
                                have hF := FM.tr hF g1420660 rfl
                                refine q_iinc hx hb dX0_ask_314 hl (k := 4) rfl rfl rfl (by omega) (by decide) (fun i1420661 ls h1420662 hl => ?_)
                                have hl : lv_has ls 12 [(7, .int i1420661), (10, .long x1420649), (5, .int i1420629), (9, .int y1420622), (8, .int y1420579), (6, .int y1420559), (0, .ref h0), (1, .ref u1), (2, .int u2), (3, .int u3), (4, .int u4)] := hl
                                refine lv_goto (tgt := 21) hx hb dX0_ask_317 (by decide) ?_
                                exact ih21 f1420657 i1420661 y1420559 i1420629 ((fm_R g1420660 rh0 rfl).trans m1420653) ((fm_R g1420660 ru1 rfl).trans ((fm_R g1420648 ru1 rfl).trans m1420556)) (by omega) (by omega) (by omega) _ _ _ hW hF (lv_sub hl [0, 5, 2, 6, 7, 8, 9, 10] rfl)
                              · refine lv_ldc2 (v := (-4000000000000000000)) hx hb hown (hts _ tw_721) dX0_ask_299 ?_
                                exact e_J E hW rfl ⟨⟨_, rfl, trivial⟩, hF⟩ dX0_ask_302
                            · refine lv_ldc2 (v := (-4000000000000000000)) hx hb hown (hts _ tw_721) dX0_ask_261 ?_
                              refine lv_goto (tgt := 288) hx hb dX0_ask_264 (by decide) ?_
                              refine lv_lstore (lv' := [(10, .long (-4000000000000000000)), (5, .int i1420629), (9, .int y1420622), (8, .int y1420579), (7, .int y1420557), (6, .int y1420559), (0, .ref h0), (1, .ref u1), (2, .int u2), (3, .int u3), (4, .int u4)]) hx hb dX0_ask_288 hl (by decide) rfl (fun ls hl => ?_)
                              refine lv_lload hx hb dX0_ask_290 (lv_at hl 0 rfl) ?_
                              refine lv_ldc2 (v := (-4000000000000000000)) hx hb hown (hts _ tw_721) dX0_ask_292 ?_
                              refine q_lcmp_ne (X := -4000000000000000000) (Y := -4000000000000000000) (tgt := 303) hx hb dX0_ask_295 dX0_ask_296 (by decide) rfl rfl (fun c => absurd c (by decide)) (fun _ => ?_)
                              refine lv_ldc2 (v := (-4000000000000000000)) hx hb hown (hts _ tw_721) dX0_ask_299 ?_
                              exact e_J E hW rfl ⟨⟨_, rfl, trivial⟩, hF⟩ dX0_ask_302
                        · refine lv_iload hx hb dX0_ask_227 (lv_at hl 0 rfl) ?_
                          refine q_if_ne (tgt := 244) hx hb dX0_ask_229 (by decide) rfl (fun c1420663 => ?_) (fun c1420663 => ?_)
                          · refine q_iinc hx hb dX0_ask_244 hl (k := 4) rfl rfl rfl (by omega) (by decide) (fun i1420664 ls h1420665 hl => ?_)
                            have hl : lv_has ls 12 [(5, .int i1420664), (9, .int y1420622), (8, .int y1420579), (7, .int y1420557), (6, .int y1420559), (0, .ref h0), (1, .ref u1), (2, .int u2), (3, .int u3), (4, .int u4)] := hl
                            refine lv_iload hx hb dX0_ask_247 (lv_at hl 2 rfl) ?_
                            refine lv_sipush (v := 256) hx hb dX0_ask_249 (by decide) ?_
                            refine q_icmp_ge (Y := 256) (tgt := 314) hx hb dX0_ask_252 (by decide) rfl rfl (fun c1420666 => ?_) (fun c1420666 => ?_)
                            · refine q_iinc hx hb dX0_ask_314 hl (k := 3) rfl rfl rfl (by omega) (by decide) (fun i1420667 ls h1420668 hl => ?_)
                              have hl : lv_has ls 12 [(7, .int i1420667), (5, .int i1420664), (9, .int y1420622), (8, .int y1420579), (6, .int y1420559), (0, .ref h0), (1, .ref u1), (2, .int u2), (3, .int u3), (4, .int u4)] := hl
                              refine lv_goto (tgt := 21) hx hb dX0_ask_317 (by decide) ?_
                              exact ih21 f1420554 i1420667 y1420559 i1420664 m1420617 m1420556 (by omega) (by omega) (by omega) _ _ _ hW hF (lv_sub hl [0, 4, 1, 5, 6, 7, 8, 9] rfl)
                            · exfalso; omega
                          · refine lv_aload_n hx hb dX0_ask_232 rfl (lv_at hl 6 rfl) ?_
                            refine fg_RX0_323 E hW ru1 dX0_ask_233 (fun a1420669 m1420670 r1420671 => ?_)
                            refine lv_iload hx hb dX0_ask_236 (lv_at hl 2 rfl) ?_
                            refine gl_649 E hW r1420671 (ix_arg hW ru1 m1420564 m1420670 ⟨by omega, by rw [fm_I hF ru1 rfl]; exact hcl⟩ m1420567 (by omega) (by omega)) dX0_ask_238 (fun y1420672 m1420673 => ?_)
                            refine lv_istore (lv' := [(6, .int y1420672), (9, .int y1420622), (8, .int y1420579), (7, .int y1420557), (5, .int y1420560), (0, .ref h0), (1, .ref u1), (2, .int u2), (3, .int u3), (4, .int u4)]) hx hb dX0_ask_239 hl (by decide) rfl (fun ls hl => ?_)
                            refine lv_goto (tgt := 314) hx hb dX0_ask_241 (by decide) ?_
                            refine q_iinc hx hb dX0_ask_314 hl (k := 3) rfl rfl rfl (by omega) (by decide) (fun i1420675 ls h1420676 hl => ?_)
                            have hl : lv_has ls 12 [(7, .int i1420675), (6, .int y1420672), (9, .int y1420622), (8, .int y1420579), (5, .int y1420560), (0, .ref h0), (1, .ref u1), (2, .int u2), (3, .int u3), (4, .int u4)] := hl
                            refine lv_goto (tgt := 21) hx hb dX0_ask_317 (by decide) ?_
                            exact ih21 f1420554 i1420675 y1420672 y1420560 m1420617 m1420556 (by omega) (by omega) (by omega) _ _ _ hW hF (lv_sub hl [0, 1, 4, 5, 6, 7, 8, 9] rfl)
                      · refine lv_iload hx hb dX0_ask_214 (lv_at hl 0 rfl) ?_
                        refine q_if_ne (tgt := 232) hx hb dX0_ask_216 (by decide) rfl (fun c1420677 => ?_) (fun c1420677 => ?_)
                        · refine lv_aload_n hx hb dX0_ask_232 rfl (lv_at hl 6 rfl) ?_
                          refine fg_RX0_323 E hW ru1 dX0_ask_233 (fun a1420678 m1420679 r1420680 => ?_)
                          refine lv_iload hx hb dX0_ask_236 (lv_at hl 2 rfl) ?_
                          refine gl_649 E hW r1420680 (ix_arg hW ru1 m1420564 m1420679 ⟨by omega, by rw [fm_I hF ru1 rfl]; exact hcl⟩ m1420567 (by omega) (by omega)) dX0_ask_238 (fun y1420681 m1420682 => ?_)
                          refine lv_istore (lv' := [(6, .int y1420681), (9, .int y1420622), (8, .int y1420579), (7, .int y1420557), (5, .int y1420560), (0, .ref h0), (1, .ref u1), (2, .int u2), (3, .int u3), (4, .int u4)]) hx hb dX0_ask_239 hl (by decide) rfl (fun ls hl => ?_)
                          refine lv_goto (tgt := 314) hx hb dX0_ask_241 (by decide) ?_
                          refine q_iinc hx hb dX0_ask_314 hl (k := 3) rfl rfl rfl (by omega) (by decide) (fun i1420684 ls h1420685 hl => ?_)
                          have hl : lv_has ls 12 [(7, .int i1420684), (6, .int y1420681), (9, .int y1420622), (8, .int y1420579), (5, .int y1420560), (0, .ref h0), (1, .ref u1), (2, .int u2), (3, .int u3), (4, .int u4)] := hl
                          refine lv_goto (tgt := 21) hx hb dX0_ask_317 (by decide) ?_
                          exact ih21 f1420554 i1420684 y1420681 y1420560 m1420617 m1420556 (by omega) (by omega) (by omega) _ _ _ hW hF (lv_sub hl [0, 1, 4, 5, 6, 7, 8, 9] rfl)
                        · refine lv_iload hx hb dX0_ask_219 (lv_at hl 1 rfl) ?_
                          refine lv_sipush (v := 266) hx hb dX0_ask_221 (by decide) ?_
                          refine q_icmp_ne (Y := 266) (tgt := 244) hx hb dX0_ask_224 (by decide) rfl rfl (fun c1420686 => ?_) (fun c1420686 => ?_)
                          · refine q_iinc hx hb dX0_ask_244 hl (k := 4) rfl rfl rfl (by omega) (by decide) (fun i1420687 ls h1420688 hl => ?_)
                            have hl : lv_has ls 12 [(5, .int i1420687), (9, .int y1420622), (8, .int y1420579), (7, .int y1420557), (6, .int y1420559), (0, .ref h0), (1, .ref u1), (2, .int u2), (3, .int u3), (4, .int u4)] := hl
                            refine lv_iload hx hb dX0_ask_247 (lv_at hl 2 rfl) ?_
                            refine lv_sipush (v := 256) hx hb dX0_ask_249 (by decide) ?_
                            refine q_icmp_ge (Y := 256) (tgt := 314) hx hb dX0_ask_252 (by decide) rfl rfl (fun c1420689 => ?_) (fun c1420689 => ?_)
                            · refine q_iinc hx hb dX0_ask_314 hl (k := 3) rfl rfl rfl (by omega) (by decide) (fun i1420690 ls h1420691 hl => ?_)
                              have hl : lv_has ls 12 [(7, .int i1420690), (5, .int i1420687), (9, .int y1420622), (8, .int y1420579), (6, .int y1420559), (0, .ref h0), (1, .ref u1), (2, .int u2), (3, .int u3), (4, .int u4)] := hl
                              refine lv_goto (tgt := 21) hx hb dX0_ask_317 (by decide) ?_
                              exact ih21 f1420554 i1420690 y1420559 i1420687 m1420617 m1420556 (by omega) (by omega) (by omega) _ _ _ hW hF (lv_sub hl [0, 4, 1, 5, 6, 7, 8, 9] rfl)
                            · exfalso; omega
                          · exfalso; omega
                    · refine lv_iload hx hb dX0_ask_197 (lv_at hl 0 rfl) ?_
                      refine q_if_ne (tgt := 206) hx hb dX0_ask_199 (by decide) rfl (fun c1420692 => ?_) (fun c1420692 => ?_)
                      · refine lv_iload hx hb dX0_ask_206 (lv_at hl 1 rfl) ?_
                        refine lv_sipush (v := 265) hx hb dX0_ask_208 (by decide) ?_
                        refine q_icmp_ne (Y := 265) (tgt := 219) hx hb dX0_ask_211 (by decide) rfl rfl (fun c1420693 => ?_) (fun c1420693 => ?_)
                        · refine lv_iload hx hb dX0_ask_219 (lv_at hl 1 rfl) ?_
                          refine lv_sipush (v := 266) hx hb dX0_ask_221 (by decide) ?_
                          refine q_icmp_ne (Y := 266) (tgt := 244) hx hb dX0_ask_224 (by decide) rfl rfl (fun c1420694 => ?_) (fun c1420694 => ?_)
                          · refine q_iinc hx hb dX0_ask_244 hl (k := 4) rfl rfl rfl (by omega) (by decide) (fun i1420695 ls h1420696 hl => ?_)
                            have hl : lv_has ls 12 [(5, .int i1420695), (9, .int y1420622), (8, .int y1420579), (7, .int y1420557), (6, .int y1420559), (0, .ref h0), (1, .ref u1), (2, .int u2), (3, .int u3), (4, .int u4)] := hl
                            refine lv_iload hx hb dX0_ask_247 (lv_at hl 2 rfl) ?_
                            refine lv_sipush (v := 256) hx hb dX0_ask_249 (by decide) ?_
                            refine q_icmp_ge (Y := 256) (tgt := 314) hx hb dX0_ask_252 (by decide) rfl rfl (fun c1420697 => ?_) (fun c1420697 => ?_)
                            · refine q_iinc hx hb dX0_ask_314 hl (k := 3) rfl rfl rfl (by omega) (by decide) (fun i1420698 ls h1420699 hl => ?_)
                              have hl : lv_has ls 12 [(7, .int i1420698), (5, .int i1420695), (9, .int y1420622), (8, .int y1420579), (6, .int y1420559), (0, .ref h0), (1, .ref u1), (2, .int u2), (3, .int u3), (4, .int u4)] := hl
                              refine lv_goto (tgt := 21) hx hb dX0_ask_317 (by decide) ?_
                              exact ih21 f1420554 i1420698 y1420559 i1420695 m1420617 m1420556 (by omega) (by omega) (by omega) _ _ _ hW hF (lv_sub hl [0, 4, 1, 5, 6, 7, 8, 9] rfl)
                            · exfalso; omega
                          · exfalso; omega
                        · exfalso; omega
                      · refine lv_ldc2 (v := (-4000000000000000000)) hx hb hown (hts _ tw_721) dX0_ask_202 ?_
                        exact e_J E hW rfl ⟨⟨_, rfl, trivial⟩, hF⟩ dX0_ask_205
                  · refine lv_aload_n hx hb dX0_ask_167 rfl (lv_at hl 5 rfl) ?_
                    refine fg_RX0_57 E hW rh0 dX0_ask_168 (fun a1420700 m1420701 r1420702 => ?_)
                    obtain rfl : a1414755 = a1420700 := (m1420617).symm.trans m1420701
                    refine lv_iload hx hb dX0_ask_171 (lv_at hl 4 rfl) ?_
                    refine lv_iconst (v := 1) hx hb dX0_ask_173 (by decide) ?_
                    refine q_isub (Y := 1) hx hb dX0_ask_174 rfl rfl (by omega) (fun x1420703 h1420704 => ?_)
                    refine lv_iload hx hb dX0_ask_175 (lv_at hl 0 rfl) ?_
                    have J1420707 : ∀ (y1420705 : Int64) (b1420706 : (0 : Int) ≤ y1420705.toInt ∧ y1420705.toInt ≤ 1) (H : Heap) (locs : List Loc) (ls : Array Slot), WS G cI cJ cZ cD cR cT A kp L f1420554 s H locs → FM kp L ms_X0_ask f0 f1420554 → lv_has ls 12 [(9, .int y1420622), (8, .int y1420579), (7, .int y1420557), (6, .int y1420559), (5, .int y1420560), (0, .ref h0), (1, .ref u1), (2, .int u2), (3, .int u3), (4, .int u4)] → W p l e ({ frames := 3, cells := 0, slots := 0, locals := 86 }) s m ([.ref h0, .ref u1, .int u2, .int u3, .int u4] : List Value).toArray below meth c H locs 0 0 (MQ below (QT (po_X0_ask kp L f0 h0 u1 u2 u3 u4) G cI cJ cZ cD cR cT A kp L) ([.ref h0, .ref u1, .int u2, .int u3, .int u4] : List Value).toArray s 0 0 A) (F0 m 185 ls [.long y1420705, .int x1420703, .ref a1414755]) := by
                      intro y1420705 b1420706 H locs ls hW hF hl
                      refine gs_115 E hW r1414757 ⟨by omega, by omega⟩ dX0_ask_185 (fun f1420708 H locs e1420709 n1420710 g1420711 hW => ?_)
                      have hF := FM.tr hF g1420711 rfl
                      refine lv_goto (tgt := 314) hx hb dX0_ask_186 (by decide) ?_
                      refine q_iinc hx hb dX0_ask_314 hl (k := 2) rfl rfl rfl (by omega) (by decide) (fun i1420712 ls h1420713 hl => ?_)
                      have hl : lv_has ls 12 [(7, .int i1420712), (9, .int y1420622), (8, .int y1420579), (6, .int y1420559), (5, .int y1420560), (0, .ref h0), (1, .ref u1), (2, .int u2), (3, .int u3), (4, .int u4)] := hl
                      refine lv_goto (tgt := 21) hx hb dX0_ask_317 (by decide) ?_
                      exact ih21 f1420708 i1420712 y1420559 y1420560 ((fm_R g1420711 rh0 rfl).trans m1420701) ((fm_R g1420711 ru1 rfl).trans m1420556) (by omega) (by omega) (by omega) _ _ _ hW hF (lv_sub hl [0, 3, 4, 5, 6, 7, 8, 9] rfl)
                    refine q_if_eq (tgt := 184) hx hb dX0_ask_177 (by decide) rfl (fun c1420714 => ?_) (fun c1420714 => ?_)
                    · refine lv_lconst (v := 1) hx hb dX0_ask_184 (by decide) ?_
                      exact J1420707 1 (by decide) _ _ _ hW hF (lv_sub hl [0, 1, 2, 3, 4, 5, 6, 7, 8, 9] rfl)
                    · refine lv_lconst (v := 0) hx hb dX0_ask_180 (by decide) ?_
                      refine lv_goto (tgt := 185) hx hb dX0_ask_181 (by decide) ?_
                      exact J1420707 0 (by decide) _ _ _ hW hF (lv_sub hl [0, 1, 2, 3, 4, 5, 6, 7, 8, 9] rfl)
                refine q_lcmp_eq (Y := 0) (tgt := 156) hx hb dX0_ask_148 dX0_ask_149 (by decide) rfl rfl (fun c1420715 => ?_) (fun c1420715 => ?_)
                · refine lv_iconst (v := 0) hx hb dX0_ask_156 (by decide) ?_
                  exact J1420624 0 (by decide) _ _ _ hW hF (lv_sub hl [0, 1, 2, 3, 4, 5, 6, 7, 8] rfl)
                · refine lv_iconst (v := 1) hx hb dX0_ask_152 (by decide) ?_
                  refine lv_goto (tgt := 157) hx hb dX0_ask_153 (by decide) ?_
                  exact J1420624 1 (by decide) _ _ _ hW hF (lv_sub hl [0, 1, 2, 3, 4, 5, 6, 7, 8] rfl)
              · refine lv_ldc2 (v := (-4000000000000000000)) hx hb hown (hts _ tw_721) dX0_ask_134 ?_
                exact e_J E hW rfl ⟨⟨_, rfl, trivial⟩, hF⟩ dX0_ask_137
            · refine lv_iload hx hb dX0_ask_67 (lv_at hl 0 rfl) ?_
              refine lv_sipush (v := 282) hx hb dX0_ask_69 (by decide) ?_
              refine q_icmp_gt (Y := 282) (tgt := 128) hx hb dX0_ask_72 (by decide) rfl rfl (fun c1420716 => ?_) (fun c1420716 => ?_)
              · refine lv_iload hx hb dX0_ask_128 (lv_at hl 3 rfl) ?_
                refine lv_iconst (v := 1) hx hb dX0_ask_130 (by decide) ?_
                refine q_icmp_ge (Y := 1) (tgt := 138) hx hb dX0_ask_131 (by decide) rfl rfl (fun c1420717 => ?_) (fun c1420717 => ?_)
                · refine lv_aload_n hx hb dX0_ask_138 rfl (lv_at hl 4 rfl) ?_
                  refine fg_RX0_57 E hW rh0 dX0_ask_139 (fun a1420718 m1420719 r1420720 => ?_)
                  obtain rfl : a1414755 = a1420718 := (m1420555).symm.trans m1420719
                  refine lv_iload hx hb dX0_ask_142 (lv_at hl 3 rfl) ?_
                  refine lv_iconst (v := 1) hx hb dX0_ask_144 (by decide) ?_
                  refine q_isub (Y := 1) hx hb dX0_ask_145 rfl rfl (by omega) (fun x1420721 h1420722 => ?_)
                  refine gl_115 E hW r1414757 ⟨by omega, by omega⟩ dX0_ask_146 (fun y1420723 _ => ?_)
                  refine lv_lconst (v := 0) hx hb dX0_ask_147 (by decide) ?_
                  have J1420726 : ∀ (y1420724 : Int32) (b1420725 : (0 : Int) ≤ y1420724.toInt ∧ y1420724.toInt ≤ 1) (H : Heap) (locs : List Loc) (ls : Array Slot), WS G cI cJ cZ cD cR cT A kp L f1420554 s H locs → FM kp L ms_X0_ask f0 f1420554 → lv_has ls 12 [(8, .int y1420579), (7, .int y1420557), (6, .int y1420559), (5, .int y1420560), (0, .ref h0), (1, .ref u1), (2, .int u2), (3, .int u3), (4, .int u4)] → W p l e ({ frames := 3, cells := 0, slots := 0, locals := 86 }) s m ([.ref h0, .ref u1, .int u2, .int u3, .int u4] : List Value).toArray below meth c H locs 0 0 (MQ below (QT (po_X0_ask kp L f0 h0 u1 u2 u3 u4) G cI cJ cZ cD cR cT A kp L) ([.ref h0, .ref u1, .int u2, .int u3, .int u4] : List Value).toArray s 0 0 A) (F0 m 157 ls [.int y1420724]) := by
                    intro y1420724 b1420725 H locs ls hW hF hl
                    refine lv_istore (lv' := [(9, .int y1420724), (8, .int y1420579), (7, .int y1420557), (6, .int y1420559), (5, .int y1420560), (0, .ref h0), (1, .ref u1), (2, .int u2), (3, .int u3), (4, .int u4)]) hx hb dX0_ask_157 hl (by decide) rfl (fun ls hl => ?_)
                    refine lv_iload hx hb dX0_ask_159 (lv_at hl 1 rfl) ?_
                    refine lv_sipush (v := 267) hx hb dX0_ask_161 (by decide) ?_
                    refine q_icmp_ne (Y := 267) (tgt := 189) hx hb dX0_ask_164 (by decide) rfl rfl (fun c1420727 => ?_) (fun c1420727 => ?_)
                    · refine lv_iload hx hb dX0_ask_189 (lv_at hl 1 rfl) ?_
                      refine lv_sipush (v := 259) hx hb dX0_ask_191 (by decide) ?_
                      refine q_icmp_ne (Y := 259) (tgt := 206) hx hb dX0_ask_194 (by decide) rfl rfl (fun c1420728 => ?_) (fun c1420728 => ?_)
                      · refine lv_iload hx hb dX0_ask_206 (lv_at hl 1 rfl) ?_
                        refine lv_sipush (v := 265) hx hb dX0_ask_208 (by decide) ?_
                        refine q_icmp_ne (Y := 265) (tgt := 219) hx hb dX0_ask_211 (by decide) rfl rfl (fun c1420729 => ?_) (fun c1420729 => ?_)
                        · refine lv_iload hx hb dX0_ask_219 (lv_at hl 1 rfl) ?_
                          refine lv_sipush (v := 266) hx hb dX0_ask_221 (by decide) ?_
                          refine q_icmp_ne (Y := 266) (tgt := 244) hx hb dX0_ask_224 (by decide) rfl rfl (fun c1420730 => ?_) (fun c1420730 => ?_)
                          · refine q_iinc hx hb dX0_ask_244 hl (k := 4) rfl rfl rfl (by omega) (by decide) (fun i1420731 ls h1420732 hl => ?_)
                            have hl : lv_has ls 12 [(5, .int i1420731), (9, .int y1420724), (8, .int y1420579), (7, .int y1420557), (6, .int y1420559), (0, .ref h0), (1, .ref u1), (2, .int u2), (3, .int u3), (4, .int u4)] := hl
                            refine lv_iload hx hb dX0_ask_247 (lv_at hl 2 rfl) ?_
                            refine lv_sipush (v := 256) hx hb dX0_ask_249 (by decide) ?_
                            refine q_icmp_ge (Y := 256) (tgt := 314) hx hb dX0_ask_252 (by decide) rfl rfl (fun c1420733 => ?_) (fun c1420733 => ?_)
                            · refine q_iinc hx hb dX0_ask_314 hl (k := 3) rfl rfl rfl (by omega) (by decide) (fun i1420734 ls h1420735 hl => ?_)
                              have hl : lv_has ls 12 [(7, .int i1420734), (5, .int i1420731), (9, .int y1420724), (8, .int y1420579), (6, .int y1420559), (0, .ref h0), (1, .ref u1), (2, .int u2), (3, .int u3), (4, .int u4)] := hl
                              refine lv_goto (tgt := 21) hx hb dX0_ask_317 (by decide) ?_
                              exact ih21 f1420554 i1420734 y1420559 i1420731 m1420719 m1420556 (by omega) (by omega) (by omega) _ _ _ hW hF (lv_sub hl [0, 4, 1, 5, 6, 7, 8, 9] rfl)
                            · exfalso; omega
                          · exfalso; omega
                        · exfalso; omega
                      · exfalso; omega
                    · exfalso; omega
                  refine q_lcmp_eq (Y := 0) (tgt := 156) hx hb dX0_ask_148 dX0_ask_149 (by decide) rfl rfl (fun c1420736 => ?_) (fun c1420736 => ?_)
                  · refine lv_iconst (v := 0) hx hb dX0_ask_156 (by decide) ?_
                    exact J1420726 0 (by decide) _ _ _ hW hF (lv_sub hl [0, 1, 2, 3, 4, 5, 6, 7, 8] rfl)
                  · refine lv_iconst (v := 1) hx hb dX0_ask_152 (by decide) ?_
                    refine lv_goto (tgt := 157) hx hb dX0_ask_153 (by decide) ?_
                    exact J1420726 1 (by decide) _ _ _ hW hF (lv_sub hl [0, 1, 2, 3, 4, 5, 6, 7, 8] rfl)
                · refine lv_ldc2 (v := (-4000000000000000000)) hx hb hown (hts _ tw_721) dX0_ask_134 ?_
                  exact e_J E hW rfl ⟨⟨_, rfl, trivial⟩, hF⟩ dX0_ask_137
              · refine lv_iload hx hb dX0_ask_75 (lv_at hl 3 rfl) ?_
                refine lv_bipush (v := 64) hx hb dX0_ask_77 (by decide) ?_
                refine q_icmp_lt (Y := 64) (tgt := 86) hx hb dX0_ask_79 (by decide) rfl rfl (fun c1420737 => ?_) (fun c1420737 => ?_)
                · refine lv_aload_n hx hb dX0_ask_86 rfl (lv_at hl 4 rfl) ?_
                  refine fg_RX0_57 E hW rh0 dX0_ask_87 (fun a1420738 m1420739 r1420740 => ?_)
                  obtain rfl : a1414755 = a1420738 := (m1420555).symm.trans m1420739
                  refine lv_iload hx hb dX0_ask_90 (lv_at hl 3 rfl) ?_
                  refine lv_iload hx hb dX0_ask_92 (lv_at hl 0 rfl) ?_
                  refine lv_sipush (v := 301) hx hb dX0_ask_94 (by decide) ?_
                  refine q_icmp_ne (Y := 301) (tgt := 111) hx hb dX0_ask_97 (by decide) rfl rfl (fun c1420750 => ?_) (fun c1420750 => ?_)
                  · refine lv_aload_n hx hb dX0_ask_111 rfl (lv_at hl 4 rfl) ?_
                    refine lv_iload hx hb dX0_ask_112 (lv_at hl 0 rfl) ?_
                    refine lv_iload_n hx hb dX0_ask_114 rfl (lv_at hl 7 rfl) ?_
                    refine lv_iload hx hb dX0_ask_115 (lv_at hl 8 rfl) ?_
                    refine t_callV (As := [.int y1420579, .int u3, .int u4]) (rest := [.int y1420560, .ref a1414755]) E hW (c_X0_wordOf l G cI cJ cZ cD cR cT kp L f1420554 hW.2.2.2 _ h0 y1420579 u3 u4 rh0 (by omega) (by omega) (by omega)) rh0 (by decide) rfl wk_X0_wordOf tw_722 rfl ⟨Nat.le_of_ble_eq_true rfl, Nat.le_of_ble_eq_true rfl⟩ ⟨rfl, rfl⟩ hl.1 rfl (Nat.le_of_ble_eq_true rfl) dX0_ask_117 ⟨Nat.le_of_ble_eq_true rfl, Nat.le_of_ble_eq_true rfl⟩ (fun v1420751 f1420752 H locs q1420753 hW => ?_)
                    obtain ⟨⟨x1420755, rfl, p1420756⟩, g1420754⟩ := q1420753
                    clear p1420756
                    have hF := FM.tr hF g1420754 rfl
                    refine q_i2l hx hb dX0_ask_120 rfl (fun x1420757 h1420758 => ?_)
                    have hb1420759 : -2147483648 ≤ x1420757.toInt ∧ x1420757.toInt ≤ 2147483647 := by have := i32_b x1420755; omega
                    refine gs_115 E hW r1414757 ⟨by omega, by omega⟩ dX0_ask_121 (fun f1420760 H locs e1420761 n1420762 g1420763 hW => ?_)
                    have hF := FM.tr hF g1420763 rfl
                    refine q_iinc hx hb dX0_ask_122 hl (k := 3) rfl rfl rfl (by omega) (by decide) (fun i1420764 ls h1420765 hl => ?_)
                    have hl : lv_has ls 12 [(5, .int i1420764), (8, .int y1420579), (7, .int y1420557), (6, .int y1420559), (0, .ref h0), (1, .ref u1), (2, .int u2), (3, .int u3), (4, .int u4)] := hl
                    refine lv_goto (tgt := 314) hx hb dX0_ask_125 (by decide) ?_
                    refine q_iinc hx hb dX0_ask_314 hl (k := 2) rfl rfl rfl (by omega) (by decide) (fun i1420766 ls h1420767 hl => ?_)
                    have hl : lv_has ls 12 [(7, .int i1420766), (5, .int i1420764), (8, .int y1420579), (6, .int y1420559), (0, .ref h0), (1, .ref u1), (2, .int u2), (3, .int u3), (4, .int u4)] := hl
                    refine lv_goto (tgt := 21) hx hb dX0_ask_317 (by decide) ?_
                    exact ih21 f1420760 i1420766 y1420559 i1420764 ((fm_R g1420763 rh0 rfl).trans ((fm_R g1420754 rh0 rfl).trans m1420739)) ((fm_R g1420763 ru1 rfl).trans ((fm_R g1420754 ru1 rfl).trans m1420556)) (by omega) (by omega) (by omega) _ _ _ hW hF (lv_sub hl [0, 3, 1, 4, 5, 6, 7, 8] rfl)
                  · exfalso; omega
                · refine lv_ldc2 (v := (-4000000000000000000)) hx hb hown (hts _ tw_721) dX0_ask_82 ?_
                  exact e_J E hW rfl ⟨⟨_, rfl, trivial⟩, hF⟩ dX0_ask_85
        · have hb1420768 : y1420557.toInt ≤ 2147483646 := by have := i32_b y1420559; omega
          refine lv_goto (tgt := 314) hx hb dX0_ask_39 (by decide) ?_
          refine q_iinc hx hb dX0_ask_314 hl (k := 0) rfl rfl rfl (by omega) (by decide) (fun i1420769 ls h1420770 hl => ?_)
          have hl : lv_has ls 12 [(7, .int i1420769), (6, .int y1420559), (5, .int y1420560), (0, .ref h0), (1, .ref u1), (2, .int u2), (3, .int u3), (4, .int u4)] := hl
          refine lv_goto (tgt := 21) hx hb dX0_ask_317 (by decide) ?_
          exact ih21 f1420554 i1420769 y1420559 y1420560 m1420555 m1420556 (by omega) (by omega) (by omega) _ _ _ hW hF (lv_sub hl [0, 1, 2, 3, 4, 5, 6, 7] rfl)
  have hk1420771 : (0 : Int32).toInt = 0 := rfl
  have hk1420772 : (0 : Int32).toInt = 0 := rfl
  exact L1420562 2147483648 f1414758 y1414765 0 0 ((fm_R g1414761 rh0 rfl).trans m1414756) m1414763 (by omega) (by decide) (by omega) _ _ _ hW hF (lv_sub hl [0, 1, 2, 3, 4, 5, 6, 7] rfl)
def ms_X0_anyHolds : List (Nat × Nat) := [(115, 0)]
def po_X0_anyHolds (kp : Nat → Nat) (L : List Nat) (f0 : Nat → va_E) (h0 : Nat) (u1 : Int32) (u2 : Int32) (u3 : Int32) : Option Value → (Nat → va_E) → Prop := fun v f => (∃ r : Int32, v = some (.int r) ∧ ((0 : Int) ≤ r.toInt ∧ r.toInt ≤ 1)) ∧ FM kp L ms_X0_anyHolds f0 f
set_option maxHeartbeats 4000000 in
set_option maxRecDepth 100000 in
theorem c_X0_anyHolds (l : Launch) (G : va_G) (cI cJ cZ cD cR cT : ClassId) (kp : Nat → Nat) (L : List Nat) (f0 : Nat → va_E) (hTH : TH cI cJ cZ cD cR cT kp L f0) (sz : Nat) (h0 : Nat) (u1 : Int32) (u2 : Int32) (u3 : Int32) (rh0 : RK kp L h0 0) (pu1 : (262 : Int) ≤ u1.toInt ∧ u1.toInt ≤ 264) (pu2 : (0 : Int) ≤ u2.toInt ∧ u2.toInt ≤ 39) (pu3 : (-1 : Int) ≤ u3.toInt ∧ u3.toInt ≤ 39) : Met l yX0_anyHolds (Cond.code yX0_anyHolds cX0_anyHolds 7 (some .boolean) :: wTab) ({ frames := 4, cells := 0, slots := 0, locals := 117 }) (va_Pc [.ref h0, .int u1, .int u2, .int u3] (PreW G (tys6 cI cJ cZ cD cR cT) (va_pl L f0) sz)) (QT (po_X0_anyHolds kp L f0 h0 u1 u2 u3) G cI cJ cZ cD cR cT (va_A (va_pl L f0) sz) kp L) 0 0 (va_A (va_pl L f0) sz) := by
  refine metT (by decide) (Nat.le_of_ble_eq_true rfl) hTH ?_
  intro p e s m below meth c A ls E hW hl
  obtain ⟨hx, hb, -, hml, hown, hts, -, -, -⟩ := id E
  have hF : FM kp L ms_X0_anyHolds f0 f0 := FM.rf
  have hl : lv_has ls 7 [(0, .ref h0), (1, .int u1), (2, .int u2), (3, .int u3)] := hl
  refine lv_iconst (v := 0) hx hb dX0_anyHolds_0 (by decide) ?_
  refine lv_istore (lv' := [(4, .int 0), (0, .ref h0), (1, .int u1), (2, .int u2), (3, .int u3)]) hx hb dX0_anyHolds_1 hl (by decide) rfl (fun ls hl => ?_)
  have L1429720 : ∀ (n : Nat), ∀ (f1429717 : Nat → va_E) (y1429718 : Int32) (b1429719 : (0 : Int) ≤ y1429718.toInt ∧ y1429718.toInt ≤ 20) (hm : (21 : Int) - y1429718.toInt ≤ n) (H : Heap) (locs : List Loc) (ls : Array Slot), WS G cI cJ cZ cD cR cT A kp L f1429717 s H locs → FM kp L ms_X0_anyHolds f0 f1429717 → lv_has ls 7 [(4, .int y1429718), (0, .ref h0), (1, .int u1), (2, .int u2), (3, .int u3)] → W p l e ({ frames := 4, cells := 0, slots := 0, locals := 117 }) s m ([.ref h0, .int u1, .int u2, .int u3] : List Value).toArray below meth c H locs 0 0 (MQ below (QT (po_X0_anyHolds kp L f0 h0 u1 u2 u3) G cI cJ cZ cD cR cT A kp L) ([.ref h0, .int u1, .int u2, .int u3] : List Value).toArray s 0 0 A) (F0 m 3 ls []) := by
    intro n
    induction n with
    | zero =>
      intro f1429717 y1429718 b1429719 hm H locs ls hW hF hl
      have hz := i32_b y1429718
      exfalso; omega
    | succ n ih =>
      intro f1429717 y1429718 b1429719 hm H locs ls hW hF hl
      have ih3 := ih
      refine lv_iload hx hb dX0_anyHolds_3 (lv_at hl 0 rfl) ?_
      refine lv_aload_n hx hb dX0_anyHolds_5 rfl (lv_at hl 1 rfl) ?_
      refine fg_RX0_42 E hW rh0 dX0_anyHolds_6 (fun a1429721 m1429722 r1429723 => ?_)
      refine fg_RX0_286 E hW r1429723 dX0_anyHolds_9 (fun y1429724 m1429725 b1429726 => ?_)
      refine q_icmp_ge (tgt := 102) hx hb dX0_anyHolds_12 (by decide) rfl rfl (fun c1429727 => ?_) (fun c1429727 => ?_)
      · refine lv_iconst (v := 0) hx hb dX0_anyHolds_102 (by decide) ?_
        exact e_Z E hW rfl (by decide) ⟨⟨_, rfl, (by have hk : (0 : Int32).toInt = 0 := rfl; first | decide | omega)⟩, hF⟩ dX0_anyHolds_103
      · refine lv_aload_n hx hb dX0_anyHolds_15 rfl (lv_at hl 1 rfl) ?_
        refine fg_RX0_42 E hW rh0 dX0_anyHolds_16 (fun a1429728 m1429729 r1429730 => ?_)
        obtain rfl : a1429721 = a1429728 := (m1429722).symm.trans m1429729
        refine fg_RX0_287 E hW r1429723 dX0_anyHolds_19 (fun a1429731 m1429732 r1429733 => ?_)
        refine lv_iload hx hb dX0_anyHolds_22 (lv_at hl 0 rfl) ?_
        refine gl_221 E hW r1429733 ⟨by omega, by omega⟩ dX0_anyHolds_24 (fun o1429734 m1429736 k1429735 => ?_)
        rcases o1429734 with _ | a1429737
        · have hl : lv_has ls 7 [(4, .int y1429718), (0, .ref h0), (1, .int u1), (2, .int u2), (3, .int u3)] := hl
          show W p l e ({ frames := 4, cells := 0, slots := 0, locals := 117 }) s m ([.ref h0, .int u1, .int u2, .int u3] : List Value).toArray below meth c _ _ 0 0 (MQ below (QT (po_X0_anyHolds kp L f0 h0 u1 u2 u3) G cI cJ cZ cD cR cT A kp L) ([.ref h0, .int u1, .int u2, .int u3] : List Value).toArray s 0 0 A) (F0 m 25 ls [.null])
          refine lv_astoreN (lv' := [(5, .null), (4, .int y1429718), (0, .ref h0), (1, .int u1), (2, .int u2), (3, .int u3)]) hx hb dX0_anyHolds_25 hl (by decide) rfl (fun ls hl => ?_)
          refine lv_iconst (v := 0) hx hb dX0_anyHolds_27 (by decide) ?_
          refine lv_istore (lv' := [(6, .int 0), (5, .null), (4, .int y1429718), (0, .ref h0), (1, .int u1), (2, .int u2), (3, .int u3)]) hx hb dX0_anyHolds_28 hl (by decide) rfl (fun ls hl => ?_)
          have L1429751 : ∀ (n : Nat), ∀ (f1429745 : Nat → va_E) (y1429749 : Int32) (m1429746 : oI (f1429745 a1429721) 0 = y1429724) (m1429747 : oR (f1429745 a1429721) 1 = a1429731) (m1429748 : oR (f1429745 h0) 4 = a1429721) (b1429750 : (0 : Int) ≤ y1429749.toInt ∧ y1429749.toInt ≤ 0) (hm : (1 : Int) ≤ n) (H : Heap) (locs : List Loc) (ls : Array Slot), WS G cI cJ cZ cD cR cT A kp L f1429745 s H locs → FM kp L ms_X0_anyHolds f0 f1429745 → lv_has ls 7 [(6, .int y1429749), (5, .null), (4, .int y1429718), (0, .ref h0), (1, .int u1), (2, .int u2), (3, .int u3)] → W p l e ({ frames := 4, cells := 0, slots := 0, locals := 117 }) s m ([.ref h0, .int u1, .int u2, .int u3] : List Value).toArray below meth c H locs 0 0 (MQ below (QT (po_X0_anyHolds kp L f0 h0 u1 u2 u3) G cI cJ cZ cD cR cT A kp L) ([.ref h0, .int u1, .int u2, .int u3] : List Value).toArray s 0 0 A) (F0 m 30 ls []) := by
            intro n
            induction n with
            | zero =>
              intro f1429745 y1429749 m1429746 m1429747 m1429748 b1429750 hm H locs ls hW hF hl
              exfalso; omega
            | succ n ih =>
              intro f1429745 y1429749 m1429746 m1429747 m1429748 b1429750 hm H locs ls hW hF hl
              have ih30 := ih
              refine lv_aloadN hx hb dX0_anyHolds_30 (lv_at hl 1 rfl) ?_
              refine lv_ifnullN (tgt := 96) hx hb dX0_anyHolds_32 (by decide) ?_
              refine q_iinc hx hb dX0_anyHolds_96 hl (k := 2) rfl rfl rfl (by omega) (by decide) (fun i1429752 ls h1429753 hl => ?_)
              have hl : lv_has ls 7 [(4, .int i1429752), (6, .int y1429749), (5, .null), (0, .ref h0), (1, .int u1), (2, .int u2), (3, .int u3)] := hl
              refine lv_goto (tgt := 3) hx hb dX0_anyHolds_99 (by decide) ?_
              exact ih3 f1429745 i1429752 (by omega) (by omega) _ _ _ hW hF (lv_sub hl [0, 3, 4, 5, 6] rfl)
          have hk1429754 : (0 : Int32).toInt = 0 := rfl
          exact L1429751 1 f1429717 0 m1429725 m1429732 m1429729 (by decide) (by omega) _ _ _ hW hF (lv_sub hl [0, 1, 2, 3, 4, 5, 6] rfl)
        · have r1429738 : RK kp L a1429737 9 := k1429735 _ rfl
          have hl : lv_has ls 7 [(4, .int y1429718), (0, .ref h0), (1, .int u1), (2, .int u2), (3, .int u3)] := hl
          show W p l e ({ frames := 4, cells := 0, slots := 0, locals := 117 }) s m ([.ref h0, .int u1, .int u2, .int u3] : List Value).toArray below meth c _ _ 0 0 (MQ below (QT (po_X0_anyHolds kp L f0 h0 u1 u2 u3) G cI cJ cZ cD cR cT A kp L) ([.ref h0, .int u1, .int u2, .int u3] : List Value).toArray s 0 0 A) (F0 m 25 ls [.ref a1429737])
          refine lv_astore (lv' := [(5, .ref a1429737), (4, .int y1429718), (0, .ref h0), (1, .int u1), (2, .int u2), (3, .int u3)]) hx hb dX0_anyHolds_25 hl (by decide) rfl (fun ls hl => ?_)
          refine lv_iconst (v := 0) hx hb dX0_anyHolds_27 (by decide) ?_
          refine lv_istore (lv' := [(6, .int 0), (5, .ref a1429737), (4, .int y1429718), (0, .ref h0), (1, .int u1), (2, .int u2), (3, .int u3)]) hx hb dX0_anyHolds_28 hl (by decide) rfl (fun ls hl => ?_)
          have L1430241 : ∀ (n : Nat), ∀ (f1430235 : Nat → va_E) (y1430239 : Int32) (m1430236 : oI (f1430235 a1429721) 0 = y1429724) (m1430237 : oR (f1430235 a1429721) 1 = a1429731) (m1430238 : oR (f1430235 h0) 4 = a1429721) (b1430240 : (0 : Int) ≤ y1430239.toInt ∧ y1430239.toInt ≤ 12) (hm : (13 : Int) - y1430239.toInt ≤ n) (H : Heap) (locs : List Loc) (ls : Array Slot), WS G cI cJ cZ cD cR cT A kp L f1430235 s H locs → FM kp L ms_X0_anyHolds f0 f1430235 → lv_has ls 7 [(6, .int y1430239), (5, .ref a1429737), (4, .int y1429718), (0, .ref h0), (1, .int u1), (2, .int u2), (3, .int u3)] → W p l e ({ frames := 4, cells := 0, slots := 0, locals := 117 }) s m ([.ref h0, .int u1, .int u2, .int u3] : List Value).toArray below meth c H locs 0 0 (MQ below (QT (po_X0_anyHolds kp L f0 h0 u1 u2 u3) G cI cJ cZ cD cR cT A kp L) ([.ref h0, .int u1, .int u2, .int u3] : List Value).toArray s 0 0 A) (F0 m 30 ls []) := by
            intro n
            induction n with
            | zero =>
              intro f1430235 y1430239 m1430236 m1430237 m1430238 b1430240 hm H locs ls hW hF hl
              have hz := i32_b y1430239
              exfalso; omega
            | succ n ih =>
              intro f1430235 y1430239 m1430236 m1430237 m1430238 b1430240 hm H locs ls hW hF hl
              have ih30 := ih
              refine lv_aload hx hb dX0_anyHolds_30 (lv_at hl 1 rfl) ?_
              refine lv_ifnull hx hb dX0_anyHolds_32 ?_
              refine lv_iload hx hb dX0_anyHolds_35 (lv_at hl 0 rfl) ?_
              refine lv_aload hx hb dX0_anyHolds_37 (lv_at hl 1 rfl) ?_
              refine fg_RX0_291 E hW r1429738 dX0_anyHolds_39 (fun y1430242 m1430243 b1430244 => ?_)
              refine q_icmp_ge (tgt := 96) hx hb dX0_anyHolds_42 (by decide) rfl rfl (fun c1430245 => ?_) (fun c1430245 => ?_)
              · refine q_iinc hx hb dX0_anyHolds_96 hl (k := 2) rfl rfl rfl (by omega) (by decide) (fun i1430246 ls h1430247 hl => ?_)
                have hl : lv_has ls 7 [(4, .int i1430246), (6, .int y1430239), (5, .ref a1429737), (0, .ref h0), (1, .int u1), (2, .int u2), (3, .int u3)] := hl
                refine lv_goto (tgt := 3) hx hb dX0_anyHolds_99 (by decide) ?_
                exact ih3 f1430235 i1430246 (by omega) (by omega) _ _ _ hW hF (lv_sub hl [0, 3, 4, 5, 6] rfl)
              · refine lv_aload hx hb dX0_anyHolds_45 (lv_at hl 1 rfl) ?_
                refine fg_RX0_296 E hW r1429738 dX0_anyHolds_47 (fun a1430248 m1430249 r1430250 => ?_)
                refine lv_iload hx hb dX0_anyHolds_50 (lv_at hl 0 rfl) ?_
                refine gl_643 E hW r1430250 ⟨by omega, by omega⟩ dX0_anyHolds_52 (fun y1430251 m1430252 => ?_)
                refine lv_iload_n hx hb dX0_anyHolds_53 rfl (lv_at hl 4 rfl) ?_
                refine q_icmp_ne (tgt := 90) hx hb dX0_anyHolds_54 (by decide) rfl rfl (fun c1430254 => ?_) (fun c1430254 => ?_)
                · refine q_iinc hx hb dX0_anyHolds_90 hl (k := 0) rfl rfl rfl (by omega) (by decide) (fun i1430255 ls h1430256 hl => ?_)
                  have hl : lv_has ls 7 [(6, .int i1430255), (5, .ref a1429737), (4, .int y1429718), (0, .ref h0), (1, .int u1), (2, .int u2), (3, .int u3)] := hl
                  refine lv_goto (tgt := 30) hx hb dX0_anyHolds_93 (by decide) ?_
                  exact ih30 f1430235 i1430255 m1430236 m1430237 m1430238 (by omega) (by omega) _ _ _ hW hF (lv_sub hl [0, 1, 2, 3, 4, 5, 6] rfl)
                · refine lv_aload_n hx hb dX0_anyHolds_57 rfl (lv_at hl 3 rfl) ?_
                  refine fg_RX0_42 E hW rh0 dX0_anyHolds_58 (fun a1430257 m1430258 r1430259 => ?_)
                  obtain rfl : a1429721 = a1430257 := (m1430238).symm.trans m1430258
                  refine lv_iload hx hb dX0_anyHolds_61 (lv_at hl 2 rfl) ?_
                  refine lv_iload hx hb dX0_anyHolds_63 (lv_at hl 0 rfl) ?_
                  refine t_callV (As := [.int y1429718, .int y1430239]) (rest := []) E hW (c_X2_isInForce l G cI cJ cZ cD cR cT kp L f1430235 hW.2.2.2 _ a1429721 y1429718 y1430239 r1429723 (by omega) (by omega)) r1429723 (by decide) rfl wk_X2_isInForce tw_716 rfl ⟨Nat.le_of_ble_eq_true rfl, Nat.le_of_ble_eq_true rfl⟩ ⟨rfl, rfl⟩ hl.1 rfl (Nat.le_of_ble_eq_true rfl) dX0_anyHolds_65 ⟨Nat.le_of_ble_eq_true rfl, Nat.le_of_ble_eq_true rfl⟩ (fun v1430260 f1430261 H locs q1430262 hW => ?_)
                  obtain ⟨⟨x1430264, rfl, p1430265⟩, g1430263⟩ := q1430262
                  have hF := FM.tr hF g1430263 rfl
                  refine q_if_eq (tgt := 90) hx hb dX0_anyHolds_68 (by decide) rfl (fun c1430266 => ?_) (fun c1430266 => ?_)
                  · refine q_iinc hx hb dX0_anyHolds_90 hl (k := 0) rfl rfl rfl (by omega) (by decide) (fun i1430267 ls h1430268 hl => ?_)
                    have hl : lv_has ls 7 [(6, .int i1430267), (5, .ref a1429737), (4, .int y1429718), (0, .ref h0), (1, .int u1), (2, .int u2), (3, .int u3)] := hl
                    refine lv_goto (tgt := 30) hx hb dX0_anyHolds_93 (by decide) ?_
                    exact ih30 f1430261 i1430267 ((fm_I g1430263 r1429723 rfl).trans m1430236) ((fm_R g1430263 r1429723 rfl).trans m1430237) ((fm_R g1430263 rh0 rfl).trans m1430258) (by omega) (by omega) _ _ _ hW hF (lv_sub hl [0, 1, 2, 3, 4, 5, 6] rfl)
                  · refine lv_aload_n hx hb dX0_anyHolds_71 rfl (lv_at hl 3 rfl) ?_
                    refine lv_aload hx hb dX0_anyHolds_72 (lv_at hl 1 rfl) ?_
                    refine lv_iload hx hb dX0_anyHolds_74 (lv_at hl 0 rfl) ?_
                    refine lv_iload_n hx hb dX0_anyHolds_76 rfl (lv_at hl 5 rfl) ?_
                    refine lv_iload_n hx hb dX0_anyHolds_77 rfl (lv_at hl 6 rfl) ?_
                    refine t_callV (As := [.ref a1429737, .int y1430239, .int u2, .int u3]) (rest := []) E hW (c_X0_ask l G cI cJ cZ cD cR cT kp L f1430261 hW.2.2.2 _ h0 a1429737 y1430239 u2 u3 rh0 r1429738 (by omega) (by omega) (by omega) (by rw [((fm_I g1430263 r1429738 rfl).trans m1430243)]; omega)) rh0 (by decide) rfl wk_X0_ask tw_717 rfl ⟨Nat.le_of_ble_eq_true rfl, Nat.le_of_ble_eq_true rfl⟩ ⟨rfl, rfl⟩ hl.1 rfl (Nat.le_of_ble_eq_true rfl) dX0_anyHolds_78 ⟨Nat.le_of_ble_eq_true rfl, Nat.le_of_ble_eq_true rfl⟩ (fun v1430269 f1430270 H locs q1430271 hW => ?_)
                    obtain ⟨⟨x1430273, rfl, p1430274⟩, g1430272⟩ := q1430271
                    clear p1430274
                    have hF := FM.tr hF g1430272 rfl
                    refine lv_ldc2 (v := (-4000000000000000000)) hx hb hown (hts _ tw_721) dX0_anyHolds_81 ?_
                    refine q_lcmp_eq (Y := -4000000000000000000) (tgt := 90) hx hb dX0_anyHolds_84 dX0_anyHolds_85 (by decide) rfl rfl (fun c1430275 => ?_) (fun c1430275 => ?_)
                    · refine q_iinc hx hb dX0_anyHolds_90 hl (k := 0) rfl rfl rfl (by omega) (by decide) (fun i1430276 ls h1430277 hl => ?_)
                      have hl : lv_has ls 7 [(6, .int i1430276), (5, .ref a1429737), (4, .int y1429718), (0, .ref h0), (1, .int u1), (2, .int u2), (3, .int u3)] := hl
                      refine lv_goto (tgt := 30) hx hb dX0_anyHolds_93 (by decide) ?_
                      exact ih30 f1430270 i1430276 ((fm_I g1430272 r1429723 rfl).trans ((fm_I g1430263 r1429723 rfl).trans m1430236)) ((fm_R g1430272 r1429723 rfl).trans ((fm_R g1430263 r1429723 rfl).trans m1430237)) ((fm_R g1430272 rh0 rfl).trans ((fm_R g1430263 rh0 rfl).trans m1430258)) (by omega) (by omega) _ _ _ hW hF (lv_sub hl [0, 1, 2, 3, 4, 5, 6] rfl)
                    · refine lv_iconst (v := 1) hx hb dX0_anyHolds_88 (by decide) ?_
                      exact e_Z E hW rfl (by decide) ⟨⟨_, rfl, (by have hk : (1 : Int32).toInt = 1 := rfl; first | decide | omega)⟩, hF⟩ dX0_anyHolds_89
          have hk1430278 : (0 : Int32).toInt = 0 := rfl
          exact L1430241 13 f1429717 0 m1429725 m1429732 m1429729 (by decide) (by omega) _ _ _ hW hF (lv_sub hl [0, 1, 2, 3, 4, 5, 6] rfl)
  have hk1430279 : (0 : Int32).toInt = 0 := rfl
  exact L1429720 21 f0 0 (by decide) (by omega) _ _ _ hW hF (lv_sub hl [0, 1, 2, 3, 4] rfl)
def ms_X0_clauseHolds : List (Nat × Nat) := [(115, 0)]
def po_X0_clauseHolds (kp : Nat → Nat) (L : List Nat) (f0 : Nat → va_E) (h0 : Nat) (u1 : Int32) (u2 : Int32) (u3 : Int32) (u4 : Int32) : Option Value → (Nat → va_E) → Prop := fun v f => (∃ r : Int32, v = some (.int r) ∧ ((0 : Int) ≤ r.toInt ∧ r.toInt ≤ 1)) ∧ FM kp L ms_X0_clauseHolds f0 f
set_option maxHeartbeats 4000000 in
set_option maxRecDepth 100000 in
theorem c_X0_clauseHolds (l : Launch) (G : va_G) (cI cJ cZ cD cR cT : ClassId) (kp : Nat → Nat) (L : List Nat) (f0 : Nat → va_E) (hTH : TH cI cJ cZ cD cR cT kp L f0) (sz : Nat) (h0 : Nat) (u1 : Int32) (u2 : Int32) (u3 : Int32) (u4 : Int32) (rh0 : RK kp L h0 0) (pu1 : (0 : Int) ≤ u1.toInt ∧ u1.toInt ≤ 19) (pu2 : (0 : Int) ≤ u2.toInt ∧ u2.toInt ≤ 11) (pu3 : (-1 : Int) ≤ u3.toInt ∧ u3.toInt ≤ 39) (pu4 : (-1 : Int) ≤ u4.toInt ∧ u4.toInt ≤ 39) (hcl : ∀ T : Nat, aQ (f0 (oR (f0 (oR (f0 h0) 4)) 1)) u1.toNatClampNeg = some T → u2.toInt < (oI (f0 T) 1).toInt) : Met l yX0_clauseHolds (Cond.code yX0_clauseHolds cX0_clauseHolds 7 (some .boolean) :: wTab) ({ frames := 4, cells := 0, slots := 0, locals := 117 }) (va_Pc [.ref h0, .int u1, .int u2, .int u3, .int u4] (PreW G (tys6 cI cJ cZ cD cR cT) (va_pl L f0) sz)) (QT (po_X0_clauseHolds kp L f0 h0 u1 u2 u3 u4) G cI cJ cZ cD cR cT (va_A (va_pl L f0) sz) kp L) 0 0 (va_A (va_pl L f0) sz) := by
  refine metT (by decide) (Nat.le_of_ble_eq_true rfl) hTH ?_
  intro p e s m below meth c A ls E hW hl
  obtain ⟨hx, hb, -, hml, hown, hts, -, -, -⟩ := id E
  have hF : FM kp L ms_X0_clauseHolds f0 f0 := FM.rf
  have hl : lv_has ls 7 [(0, .ref h0), (1, .int u1), (2, .int u2), (3, .int u3), (4, .int u4)] := hl
  refine lv_aload_n hx hb dX0_clauseHolds_0 rfl (lv_at hl 0 rfl) ?_
  refine fg_RX0_42 E hW rh0 dX0_clauseHolds_1 (fun a1430280 m1430281 r1430282 => ?_)
  refine fg_RX0_287 E hW r1430282 dX0_clauseHolds_4 (fun a1430283 m1430284 r1430285 => ?_)
  refine lv_iload_n hx hb dX0_clauseHolds_7 rfl (lv_at hl 1 rfl) ?_
  refine gl_221 E hW r1430285 ⟨by omega, by omega⟩ dX0_clauseHolds_8 (fun o1430286 m1430288 k1430287 => ?_)
  rcases o1430286 with _ | a1430289
  · have hl : lv_has ls 7 [(0, .ref h0), (1, .int u1), (2, .int u2), (3, .int u3), (4, .int u4)] := hl
    show W p l e ({ frames := 4, cells := 0, slots := 0, locals := 117 }) s m ([.ref h0, .int u1, .int u2, .int u3, .int u4] : List Value).toArray below meth c _ _ 0 0 (MQ below (QT (po_X0_clauseHolds kp L f0 h0 u1 u2 u3 u4) G cI cJ cZ cD cR cT A kp L) ([.ref h0, .int u1, .int u2, .int u3, .int u4] : List Value).toArray s 0 0 A) (F0 m 9 ls [.null])
    refine lv_astoreN (lv' := [(5, .null), (0, .ref h0), (1, .int u1), (2, .int u2), (3, .int u3), (4, .int u4)]) hx hb dX0_clauseHolds_9 hl (by decide) rfl (fun ls hl => ?_)
    refine lv_aloadN hx hb dX0_clauseHolds_11 (lv_at hl 0 rfl) ?_
    refine lv_ifnullN (tgt := 28) hx hb dX0_clauseHolds_13 (by decide) ?_
    refine lv_iconst (v := 0) hx hb dX0_clauseHolds_28 (by decide) ?_
    exact e_Z E hW rfl (by decide) ⟨⟨_, rfl, (by have hk : (0 : Int32).toInt = 0 := rfl; first | decide | omega)⟩, hF⟩ dX0_clauseHolds_29
  · have r1430290 : RK kp L a1430289 9 := k1430287 _ rfl
    have hl : lv_has ls 7 [(0, .ref h0), (1, .int u1), (2, .int u2), (3, .int u3), (4, .int u4)] := hl
    show W p l e ({ frames := 4, cells := 0, slots := 0, locals := 117 }) s m ([.ref h0, .int u1, .int u2, .int u3, .int u4] : List Value).toArray below meth c _ _ 0 0 (MQ below (QT (po_X0_clauseHolds kp L f0 h0 u1 u2 u3 u4) G cI cJ cZ cD cR cT A kp L) ([.ref h0, .int u1, .int u2, .int u3, .int u4] : List Value).toArray s 0 0 A) (F0 m 9 ls [.ref a1430289])
    refine lv_astore (lv' := [(5, .ref a1430289), (0, .ref h0), (1, .int u1), (2, .int u2), (3, .int u3), (4, .int u4)]) hx hb dX0_clauseHolds_9 hl (by decide) rfl (fun ls hl => ?_)
    refine lv_aload hx hb dX0_clauseHolds_11 (lv_at hl 0 rfl) ?_
    refine lv_ifnull hx hb dX0_clauseHolds_13 ?_
    refine lv_aload_n hx hb dX0_clauseHolds_16 rfl (lv_at hl 1 rfl) ?_
    refine fg_RX0_42 E hW rh0 dX0_clauseHolds_17 (fun a1430291 m1430292 r1430293 => ?_)
    obtain rfl : a1430280 = a1430291 := (m1430281).symm.trans m1430292
    refine lv_iload_n hx hb dX0_clauseHolds_20 rfl (lv_at hl 2 rfl) ?_
    refine lv_iload_n hx hb dX0_clauseHolds_21 rfl (lv_at hl 3 rfl) ?_
    refine t_callV (As := [.int u1, .int u2]) (rest := []) E hW (c_X2_isInForce l G cI cJ cZ cD cR cT kp L f0 hW.2.2.2 _ a1430280 u1 u2 r1430282 (by omega) (by omega)) r1430282 (by decide) rfl wk_X2_isInForce tw_716 rfl ⟨Nat.le_of_ble_eq_true rfl, Nat.le_of_ble_eq_true rfl⟩ ⟨rfl, rfl⟩ hl.1 rfl (Nat.le_of_ble_eq_true rfl) dX0_clauseHolds_22 ⟨Nat.le_of_ble_eq_true rfl, Nat.le_of_ble_eq_true rfl⟩ (fun v1430294 f1430295 H locs q1430296 hW => ?_)
    obtain ⟨⟨x1430298, rfl, p1430299⟩, g1430297⟩ := q1430296
    have hF := FM.tr hF g1430297 rfl
    refine q_if_ne (tgt := 30) hx hb dX0_clauseHolds_25 (by decide) rfl (fun c1430300 => ?_) (fun c1430300 => ?_)
    · refine lv_aload hx hb dX0_clauseHolds_30 (lv_at hl 0 rfl) ?_
      refine fg_RX0_296 E hW r1430290 dX0_clauseHolds_32 (fun a1430301 m1430302 r1430303 => ?_)
      refine lv_iload_n hx hb dX0_clauseHolds_35 rfl (lv_at hl 3 rfl) ?_
      refine gl_643 E hW r1430303 ⟨by omega, by omega⟩ dX0_clauseHolds_36 (fun y1430304 m1430305 => ?_)
      refine lv_istore (lv' := [(6, .int y1430304), (5, .ref a1430289), (0, .ref h0), (1, .int u1), (2, .int u2), (3, .int u3), (4, .int u4)]) hx hb dX0_clauseHolds_37 hl (by decide) rfl (fun ls hl => ?_)
      refine lv_iload hx hb dX0_clauseHolds_39 (lv_at hl 0 rfl) ?_
      refine lv_sipush (v := 256) hx hb dX0_clauseHolds_41 (by decide) ?_
      have J1430321 : ∀ (f1430315 : Nat → va_E) (y1430319 : Int32) (m1430316 : oR (f1430315 a1430280) 1 = a1430283) (m1430317 : oR (f1430315 a1430289) 3 = a1430301) (m1430318 : oR (f1430315 h0) 4 = a1430280) (b1430320 : (0 : Int) ≤ y1430319.toInt ∧ y1430319.toInt ≤ 1) (H : Heap) (locs : List Loc) (ls : Array Slot), WS G cI cJ cZ cD cR cT A kp L f1430315 s H locs → FM kp L ms_X0_clauseHolds f0 f1430315 → lv_has ls 7 [(6, .int y1430304), (5, .ref a1430289), (0, .ref h0), (1, .int u1), (2, .int u2), (3, .int u3), (4, .int u4)] → W p l e ({ frames := 4, cells := 0, slots := 0, locals := 117 }) s m ([.ref h0, .int u1, .int u2, .int u3, .int u4] : List Value).toArray below meth c H locs 0 0 (MQ below (QT (po_X0_clauseHolds kp L f0 h0 u1 u2 u3 u4) G cI cJ cZ cD cR cT A kp L) ([.ref h0, .int u1, .int u2, .int u3, .int u4] : List Value).toArray s 0 0 A) (F0 m 77 ls [.int y1430319]) := by
        intro f1430315 y1430319 m1430316 m1430317 m1430318 b1430320 H locs ls hW hF hl
        clear p1430299 c1430300
        exact e_Z E hW rfl (by omega) ⟨⟨_, rfl, (by first | omega | trivial)⟩, hF⟩ dX0_clauseHolds_77
      refine q_icmp_eq (Y := 256) (tgt := 76) hx hb dX0_clauseHolds_44 (by decide) rfl rfl (fun c1430322 => ?_) (fun c1430322 => ?_)
      · refine lv_iconst (v := 0) hx hb dX0_clauseHolds_76 (by decide) ?_
        exact J1430321 f1430295 0 ((fm_R g1430297 r1430282 rfl).trans m1430284) m1430302 ((fm_R g1430297 rh0 rfl).trans m1430292) (by decide) _ _ _ hW hF (lv_sub hl [0, 1, 2, 3, 4, 5, 6] rfl)
      · refine lv_iload hx hb dX0_clauseHolds_47 (lv_at hl 0 rfl) ?_
        refine lv_sipush (v := 258) hx hb dX0_clauseHolds_49 (by decide) ?_
        refine q_icmp_eq (Y := 258) (tgt := 76) hx hb dX0_clauseHolds_52 (by decide) rfl rfl (fun c1430323 => ?_) (fun c1430323 => ?_)
        · refine lv_iconst (v := 0) hx hb dX0_clauseHolds_76 (by decide) ?_
          exact J1430321 f1430295 0 ((fm_R g1430297 r1430282 rfl).trans m1430284) m1430302 ((fm_R g1430297 rh0 rfl).trans m1430292) (by decide) _ _ _ hW hF (lv_sub hl [0, 1, 2, 3, 4, 5, 6] rfl)
        · refine lv_aload_n hx hb dX0_clauseHolds_55 rfl (lv_at hl 2 rfl) ?_
          refine lv_aload hx hb dX0_clauseHolds_56 (lv_at hl 1 rfl) ?_
          refine lv_iload_n hx hb dX0_clauseHolds_58 rfl (lv_at hl 4 rfl) ?_
          refine lv_iload_n hx hb dX0_clauseHolds_59 rfl (lv_at hl 5 rfl) ?_
          refine lv_iload hx hb dX0_clauseHolds_60 (lv_at hl 6 rfl) ?_
          refine t_callV (As := [.ref a1430289, .int u2, .int u3, .int u4]) (rest := []) E hW (c_X0_ask l G cI cJ cZ cD cR cT kp L f1430295 hW.2.2.2 _ h0 a1430289 u2 u3 u4 rh0 r1430290 (by omega) (by omega) (by omega) (by rw [fm_I hF r1430290 rfl]; exact hcl _ (by rw [m1430281, m1430284]; exact m1430288))) rh0 (by decide) rfl wk_X0_ask tw_717 rfl ⟨Nat.le_of_ble_eq_true rfl, Nat.le_of_ble_eq_true rfl⟩ ⟨rfl, rfl⟩ hl.1 rfl (Nat.le_of_ble_eq_true rfl) dX0_clauseHolds_62 ⟨Nat.le_of_ble_eq_true rfl, Nat.le_of_ble_eq_true rfl⟩ (fun v1430324 f1430325 H locs q1430326 hW => ?_)
          obtain ⟨⟨x1430328, rfl, p1430329⟩, g1430327⟩ := q1430326
          clear p1430329
          have hF := FM.tr hF g1430327 rfl
          refine lv_ldc2 (v := (-4000000000000000000)) hx hb hown (hts _ tw_721) dX0_clauseHolds_65 ?_
          refine q_lcmp_eq (Y := -4000000000000000000) (tgt := 76) hx hb dX0_clauseHolds_68 dX0_clauseHolds_69 (by decide) rfl rfl (fun c1430330 => ?_) (fun c1430330 => ?_)
          · refine lv_iconst (v := 0) hx hb dX0_clauseHolds_76 (by decide) ?_
            exact J1430321 f1430325 0 ((fm_R g1430327 r1430282 rfl).trans ((fm_R g1430297 r1430282 rfl).trans m1430284)) ((fm_R g1430327 r1430290 rfl).trans m1430302) ((fm_R g1430327 rh0 rfl).trans ((fm_R g1430297 rh0 rfl).trans m1430292)) (by decide) _ _ _ hW hF (lv_sub hl [0, 1, 2, 3, 4, 5, 6] rfl)
          · refine lv_iconst (v := 1) hx hb dX0_clauseHolds_72 (by decide) ?_
            refine lv_goto (tgt := 77) hx hb dX0_clauseHolds_73 (by decide) ?_
            exact J1430321 f1430325 1 ((fm_R g1430327 r1430282 rfl).trans ((fm_R g1430297 r1430282 rfl).trans m1430284)) ((fm_R g1430327 r1430290 rfl).trans m1430302) ((fm_R g1430327 rh0 rfl).trans ((fm_R g1430297 rh0 rfl).trans m1430292)) (by decide) _ _ _ hW hF (lv_sub hl [0, 1, 2, 3, 4, 5, 6] rfl)
    · refine lv_iconst (v := 0) hx hb dX0_clauseHolds_28 (by decide) ?_
      exact e_Z E hW rfl (by decide) ⟨⟨_, rfl, (by have hk : (0 : Int32).toInt = 0 := rfl; first | decide | omega)⟩, hF⟩ dX0_clauseHolds_29
def ms_X0_fairOf : List (Nat × Nat) := [(115, 0)]
def po_X0_fairOf (kp : Nat → Nat) (L : List Nat) (f0 : Nat → va_E) (h0 : Nat) (u1 : Int32) : Option Value → (Nat → va_E) → Prop := fun v f => (∃ r : Int32, v = some (.int r) ∧ ((0 : Int) ≤ r.toInt)) ∧ FM kp L ms_X0_fairOf f0 f
set_option maxHeartbeats 4000000 in
set_option maxRecDepth 100000 in
theorem c_X0_fairOf (l : Launch) (G : va_G) (cI cJ cZ cD cR cT : ClassId) (kp : Nat → Nat) (L : List Nat) (f0 : Nat → va_E) (hTH : TH cI cJ cZ cD cR cT kp L f0) (sz : Nat) (h0 : Nat) (u1 : Int32) (rh0 : RK kp L h0 0) (pu1 : (0 : Int) ≤ u1.toInt ∧ u1.toInt ≤ 39) : Met l yX0_fairOf (Cond.code yX0_fairOf cX0_fairOf 8 (some .int) :: wTab) ({ frames := 4, cells := 0, slots := 0, locals := 117 }) (va_Pc [.ref h0, .int u1] (PreW G (tys6 cI cJ cZ cD cR cT) (va_pl L f0) sz)) (QT (po_X0_fairOf kp L f0 h0 u1) G cI cJ cZ cD cR cT (va_A (va_pl L f0) sz) kp L) 0 0 (va_A (va_pl L f0) sz) := by
  refine metT (by decide) (Nat.le_of_ble_eq_true rfl) hTH ?_
  intro p e s m below meth c A ls E hW hl
  obtain ⟨hx, hb, -, hml, hown, hts, -, -, -⟩ := id E
  have hF : FM kp L ms_X0_fairOf f0 f0 := FM.rf
  have hl : lv_has ls 8 [(0, .ref h0), (1, .int u1)] := hl
  refine lv_aload_n hx hb dX0_fairOf_0 rfl (lv_at hl 0 rfl) ?_
  refine fg_RX0_21 E hW rh0 dX0_fairOf_1 (fun a1430331 m1430332 r1430333 => ?_)
  refine lv_iload_n hx hb dX0_fairOf_4 rfl (lv_at hl 1 rfl) ?_
  refine t_callV (As := [.int u1]) (rest := []) E hW (c_X1_rentOf l G cI cJ cZ cD cR cT kp L f0 hW.2.2.2 _ a1430331 u1 r1430333 (by omega)) r1430333 (by decide) rfl wk_X1_rentOf tw_709 rfl ⟨Nat.le_of_ble_eq_true rfl, Nat.le_of_ble_eq_true rfl⟩ ⟨rfl, rfl⟩ hl.1 rfl (Nat.le_of_ble_eq_true rfl) dX0_fairOf_5 ⟨Nat.le_of_ble_eq_true rfl, Nat.le_of_ble_eq_true rfl⟩ (fun v1430334 f1430335 H locs q1430336 hW => ?_)
  obtain ⟨⟨x1430338, rfl, p1430339⟩, g1430337⟩ := q1430336
  have hF := FM.tr hF g1430337 rfl
  refine lv_istore_n (lv' := [(2, .int x1430338), (0, .ref h0), (1, .int u1)]) hx hb dX0_fairOf_8 rfl hl (by decide) rfl (fun ls hl => ?_)
  refine lv_aload_n hx hb dX0_fairOf_9 rfl (lv_at hl 1 rfl) ?_
  refine fg_RX0_42 E hW rh0 dX0_fairOf_10 (fun a1430340 m1430341 r1430342 => ?_)
  refine fg_RX0_286 E hW r1430342 dX0_fairOf_13 (fun y1430343 m1430344 b1430345 => ?_)
  refine lv_iconst (v := 1) hx hb dX0_fairOf_16 (by decide) ?_
  refine q_isub (Y := 1) hx hb dX0_fairOf_17 rfl rfl (by omega) (fun x1430346 h1430347 => ?_)
  refine lv_istore_n (lv' := [(3, .int x1430346), (2, .int x1430338), (0, .ref h0), (1, .int u1)]) hx hb dX0_fairOf_18 rfl hl (by decide) rfl (fun ls hl => ?_)
  have L1430515 : ∀ (n : Nat), ∀ (f1430509 : Nat → va_E) (y1430513 : Int32) (m1430510 : oI (f1430509 a1430340) 0 = y1430343) (m1430511 : oR (f1430509 h0) 1 = a1430331) (m1430512 : oR (f1430509 h0) 4 = a1430340) (b1430514 : (-1 : Int) ≤ y1430513.toInt ∧ y1430513.toInt ≤ 19) (hm : y1430513.toInt - (-2 : Int) ≤ n) (H : Heap) (locs : List Loc) (ls : Array Slot), WS G cI cJ cZ cD cR cT A kp L f1430509 s H locs → FM kp L ms_X0_fairOf f0 f1430509 → lv_has ls 8 [(3, .int y1430513), (2, .int x1430338), (0, .ref h0), (1, .int u1)] → W p l e ({ frames := 4, cells := 0, slots := 0, locals := 117 }) s m ([.ref h0, .int u1] : List Value).toArray below meth c H locs 0 0 (MQ below (QT (po_X0_fairOf kp L f0 h0 u1) G cI cJ cZ cD cR cT A kp L) ([.ref h0, .int u1] : List Value).toArray s 0 0 A) (F0 m 19 ls []) := by
    intro n
    induction n with
    | zero =>
      intro f1430509 y1430513 m1430510 m1430511 m1430512 b1430514 hm H locs ls hW hF hl
      have hz := i32_b y1430513
      exfalso; omega
    | succ n ih =>
      intro f1430509 y1430513 m1430510 m1430511 m1430512 b1430514 hm H locs ls hW hF hl
      have ih19 := ih
      refine lv_iload_n hx hb dX0_fairOf_19 rfl (lv_at hl 0 rfl) ?_
      refine q_if_lt (tgt := 141) hx hb dX0_fairOf_20 (by decide) rfl (fun c1430516 => ?_) (fun c1430516 => ?_)
      · refine lv_iload_n hx hb dX0_fairOf_141 rfl (lv_at hl 1 rfl) ?_
        exact e_I E hW rfl ⟨⟨_, rfl, (by first | omega | trivial)⟩, hF⟩ dX0_fairOf_142
      · refine lv_aload_n hx hb dX0_fairOf_23 rfl (lv_at hl 2 rfl) ?_
        refine fg_RX0_42 E hW rh0 dX0_fairOf_24 (fun a1430517 m1430518 r1430519 => ?_)
        obtain rfl : a1430340 = a1430517 := (m1430512).symm.trans m1430518
        refine fg_RX0_287 E hW r1430342 dX0_fairOf_27 (fun a1430520 m1430521 r1430522 => ?_)
        refine lv_iload_n hx hb dX0_fairOf_30 rfl (lv_at hl 0 rfl) ?_
        refine gl_221 E hW r1430522 ⟨by omega, by omega⟩ dX0_fairOf_31 (fun o1430523 m1430525 k1430524 => ?_)
        rcases o1430523 with _ | a1430526
        · have hl : lv_has ls 8 [(3, .int y1430513), (2, .int x1430338), (0, .ref h0), (1, .int u1)] := hl
          show W p l e ({ frames := 4, cells := 0, slots := 0, locals := 117 }) s m ([.ref h0, .int u1] : List Value).toArray below meth c _ _ 0 0 (MQ below (QT (po_X0_fairOf kp L f0 h0 u1) G cI cJ cZ cD cR cT A kp L) ([.ref h0, .int u1] : List Value).toArray s 0 0 A) (F0 m 32 ls [.null])
          refine lv_astoreN (lv' := [(4, .null), (3, .int y1430513), (2, .int x1430338), (0, .ref h0), (1, .int u1)]) hx hb dX0_fairOf_32 hl (by decide) rfl (fun ls hl => ?_)
          refine lv_aloadN hx hb dX0_fairOf_34 (lv_at hl 0 rfl) ?_
          refine lv_ifnonnullN hx hb dX0_fairOf_36 ?_
          refine lv_iconst (v := (-1)) hx hb dX0_fairOf_39 (by decide) ?_
          refine lv_goto (tgt := 50) hx hb dX0_fairOf_40 (by decide) ?_
          refine lv_istore (lv' := [(5, .int (-1)), (4, .null), (3, .int y1430513), (2, .int x1430338), (0, .ref h0), (1, .int u1)]) hx hb dX0_fairOf_50 hl (by decide) rfl (fun ls hl => ?_)
          have L1430543 : ∀ (n : Nat), ∀ (f1430536 : Nat → va_E) (y1430541 : Int32) (m1430537 : oI (f1430536 a1430340) 0 = y1430343) (m1430538 : oR (f1430536 a1430340) 1 = a1430520) (m1430539 : oR (f1430536 h0) 1 = a1430331) (m1430540 : oR (f1430536 h0) 4 = a1430340) (b1430542 : (-1 : Int) ≤ y1430541.toInt ∧ y1430541.toInt ≤ -1) (hm : (1 : Int) ≤ n) (H : Heap) (locs : List Loc) (ls : Array Slot), WS G cI cJ cZ cD cR cT A kp L f1430536 s H locs → FM kp L ms_X0_fairOf f0 f1430536 → lv_has ls 8 [(5, .int y1430541), (4, .null), (3, .int y1430513), (2, .int x1430338), (0, .ref h0), (1, .int u1)] → W p l e ({ frames := 4, cells := 0, slots := 0, locals := 117 }) s m ([.ref h0, .int u1] : List Value).toArray below meth c H locs 0 0 (MQ below (QT (po_X0_fairOf kp L f0 h0 u1) G cI cJ cZ cD cR cT A kp L) ([.ref h0, .int u1] : List Value).toArray s 0 0 A) (F0 m 52 ls []) := by
            intro n
            induction n with
            | zero =>
              intro f1430536 y1430541 m1430537 m1430538 m1430539 m1430540 b1430542 hm H locs ls hW hF hl
              exfalso; omega
            | succ n ih =>
              intro f1430536 y1430541 m1430537 m1430538 m1430539 m1430540 b1430542 hm H locs ls hW hF hl
              have ih52 := ih
              refine lv_iload hx hb dX0_fairOf_52 (lv_at hl 0 rfl) ?_
              refine q_if_lt (tgt := 135) hx hb dX0_fairOf_54 (by decide) rfl (fun c1430544 => ?_) (fun c1430544 => ?_)
              · refine q_iinc hx hb dX0_fairOf_135 hl (k := 2) rfl rfl rfl (by omega) (by decide) (fun i1430545 ls h1430546 hl => ?_)
                have hl : lv_has ls 8 [(3, .int i1430545), (5, .int y1430541), (4, .null), (2, .int x1430338), (0, .ref h0), (1, .int u1)] := hl
                refine lv_goto (tgt := 19) hx hb dX0_fairOf_138 (by decide) ?_
                exact ih19 f1430536 i1430545 m1430537 m1430539 m1430540 (by omega) (by omega) _ _ _ hW hF (lv_sub hl [0, 3, 4, 5] rfl)
              · exfalso; omega
          have hk1430547 : ((-1) : Int32).toInt = -1 := rfl
          exact L1430543 1 f1430509 (-1) m1430510 m1430521 m1430511 m1430518 (by decide) (by omega) _ _ _ hW hF (lv_sub hl [0, 1, 2, 3, 4, 5] rfl)
        · have r1430527 : RK kp L a1430526 9 := k1430524 _ rfl
          have hl : lv_has ls 8 [(3, .int y1430513), (2, .int x1430338), (0, .ref h0), (1, .int u1)] := hl
          show W p l e ({ frames := 4, cells := 0, slots := 0, locals := 117 }) s m ([.ref h0, .int u1] : List Value).toArray below meth c _ _ 0 0 (MQ below (QT (po_X0_fairOf kp L f0 h0 u1) G cI cJ cZ cD cR cT A kp L) ([.ref h0, .int u1] : List Value).toArray s 0 0 A) (F0 m 32 ls [.ref a1430526])
          refine lv_astore (lv' := [(4, .ref a1430526), (3, .int y1430513), (2, .int x1430338), (0, .ref h0), (1, .int u1)]) hx hb dX0_fairOf_32 hl (by decide) rfl (fun ls hl => ?_)
          refine lv_aload hx hb dX0_fairOf_34 (lv_at hl 0 rfl) ?_
          refine lv_ifnonnull (tgt := 43) hx hb dX0_fairOf_36 (by decide) ?_
          refine lv_aload hx hb dX0_fairOf_43 (lv_at hl 0 rfl) ?_
          refine fg_RX0_291 E hW r1430527 dX0_fairOf_45 (fun y1430548 m1430549 b1430550 => ?_)
          refine lv_iconst (v := 1) hx hb dX0_fairOf_48 (by decide) ?_
          refine q_isub (Y := 1) hx hb dX0_fairOf_49 rfl rfl (by omega) (fun x1430551 h1430552 => ?_)
          refine lv_istore (lv' := [(5, .int x1430551), (4, .ref a1430526), (3, .int y1430513), (2, .int x1430338), (0, .ref h0), (1, .int u1)]) hx hb dX0_fairOf_50 hl (by decide) rfl (fun ls hl => ?_)
          have L1430620 : ∀ (n : Nat), ∀ (f1430611 : Nat → va_E) (y1430617 : Int32) (m1430612 : oI (f1430611 a1430340) 0 = y1430343) (m1430613 : oR (f1430611 a1430340) 1 = a1430520) (m1430614 : oI (f1430611 a1430526) 1 = y1430548) (m1430615 : oR (f1430611 h0) 1 = a1430331) (m1430616 : oR (f1430611 h0) 4 = a1430340) (b1430618 : (-1 : Int) ≤ y1430617.toInt ∧ y1430617.toInt ≤ 11) (v1430619 : y1430617.toInt < y1430548.toInt) (hm : y1430617.toInt - (-2 : Int) ≤ n) (H : Heap) (locs : List Loc) (ls : Array Slot), WS G cI cJ cZ cD cR cT A kp L f1430611 s H locs → FM kp L ms_X0_fairOf f0 f1430611 → lv_has ls 8 [(5, .int y1430617), (4, .ref a1430526), (3, .int y1430513), (2, .int x1430338), (0, .ref h0), (1, .int u1)] → W p l e ({ frames := 4, cells := 0, slots := 0, locals := 117 }) s m ([.ref h0, .int u1] : List Value).toArray below meth c H locs 0 0 (MQ below (QT (po_X0_fairOf kp L f0 h0 u1) G cI cJ cZ cD cR cT A kp L) ([.ref h0, .int u1] : List Value).toArray s 0 0 A) (F0 m 52 ls []) := by
            intro n
            induction n with
            | zero =>
              intro f1430611 y1430617 m1430612 m1430613 m1430614 m1430615 m1430616 b1430618 v1430619 hm H locs ls hW hF hl
              have hz := i32_b y1430617
              exfalso; omega
            | succ n ih =>
              intro f1430611 y1430617 m1430612 m1430613 m1430614 m1430615 m1430616 b1430618 v1430619 hm H locs ls hW hF hl
              have ih52 := ih
              refine lv_iload hx hb dX0_fairOf_52 (lv_at hl 0 rfl) ?_
              refine q_if_lt (tgt := 135) hx hb dX0_fairOf_54 (by decide) rfl (fun c1430621 => ?_) (fun c1430621 => ?_)
              · refine q_iinc hx hb dX0_fairOf_135 hl (k := 2) rfl rfl rfl (by omega) (by decide) (fun i1430622 ls h1430623 hl => ?_)
                have hl : lv_has ls 8 [(3, .int i1430622), (5, .int y1430617), (4, .ref a1430526), (2, .int x1430338), (0, .ref h0), (1, .int u1)] := hl
                refine lv_goto (tgt := 19) hx hb dX0_fairOf_138 (by decide) ?_
                exact ih19 f1430611 i1430622 m1430612 m1430615 m1430616 (by omega) (by omega) _ _ _ hW hF (lv_sub hl [0, 3, 4, 5] rfl)
              · refine lv_aload hx hb dX0_fairOf_57 (lv_at hl 1 rfl) ?_
                refine fg_RX0_296 E hW r1430527 dX0_fairOf_59 (fun a1430624 m1430625 r1430626 => ?_)
                refine lv_iload hx hb dX0_fairOf_62 (lv_at hl 0 rfl) ?_
                refine gl_643 E hW r1430626 ⟨by omega, by omega⟩ dX0_fairOf_64 (fun y1430627 m1430628 => ?_)
                refine lv_sipush (v := 260) hx hb dX0_fairOf_65 (by decide) ?_
                refine q_icmp_ne (Y := 260) (tgt := 129) hx hb dX0_fairOf_68 (by decide) rfl rfl (fun c1430630 => ?_) (fun c1430630 => ?_)
                · refine q_iinc hx hb dX0_fairOf_129 hl (k := 0) rfl rfl rfl (by omega) (by decide) (fun i1430631 ls h1430632 hl => ?_)
                  have hl : lv_has ls 8 [(5, .int i1430631), (4, .ref a1430526), (3, .int y1430513), (2, .int x1430338), (0, .ref h0), (1, .int u1)] := hl
                  refine lv_goto (tgt := 52) hx hb dX0_fairOf_132 (by decide) ?_
                  exact ih52 f1430611 i1430631 m1430612 m1430613 m1430614 m1430615 m1430616 (by omega) (by omega) (by omega) _ _ _ hW hF (lv_sub hl [0, 1, 2, 3, 4, 5] rfl)
                · refine lv_aload_n hx hb dX0_fairOf_71 rfl (lv_at hl 4 rfl) ?_
                  refine fg_RX0_42 E hW rh0 dX0_fairOf_72 (fun a1430633 m1430634 r1430635 => ?_)
                  obtain rfl : a1430340 = a1430633 := (m1430616).symm.trans m1430634
                  refine lv_iload_n hx hb dX0_fairOf_75 rfl (lv_at hl 2 rfl) ?_
                  refine lv_iload hx hb dX0_fairOf_76 (lv_at hl 0 rfl) ?_
                  refine t_callV (As := [.int y1430513, .int y1430617]) (rest := []) E hW (c_X2_isInForce l G cI cJ cZ cD cR cT kp L f1430611 hW.2.2.2 _ a1430340 y1430513 y1430617 r1430342 (by omega) (by omega)) r1430342 (by decide) rfl wk_X2_isInForce tw_716 rfl ⟨Nat.le_of_ble_eq_true rfl, Nat.le_of_ble_eq_true rfl⟩ ⟨rfl, rfl⟩ hl.1 rfl (Nat.le_of_ble_eq_true rfl) dX0_fairOf_78 ⟨Nat.le_of_ble_eq_true rfl, Nat.le_of_ble_eq_true rfl⟩ (fun v1430636 f1430637 H locs q1430638 hW => ?_)
                  obtain ⟨⟨x1430640, rfl, p1430641⟩, g1430639⟩ := q1430638
                  have hF := FM.tr hF g1430639 rfl
                  refine q_if_ne (tgt := 87) hx hb dX0_fairOf_81 (by decide) rfl (fun c1430642 => ?_) (fun c1430642 => ?_)
                  · refine lv_aload_n hx hb dX0_fairOf_87 rfl (lv_at hl 4 rfl) ?_
                    refine lv_aload hx hb dX0_fairOf_88 (lv_at hl 1 rfl) ?_
                    refine lv_iload hx hb dX0_fairOf_90 (lv_at hl 0 rfl) ?_
                    refine lv_aload_n hx hb dX0_fairOf_92 rfl (lv_at hl 4 rfl) ?_
                    refine fg_RX0_21 E hW rh0 dX0_fairOf_93 (fun a1430643 m1430644 r1430645 => ?_)
                    obtain rfl : a1430331 = a1430643 := (((fm_R g1430639 rh0 rfl).trans m1430615)).symm.trans m1430644
                    refine fg_RX0_124 E hW r1430333 dX0_fairOf_96 (fun a1430646 m1430647 r1430648 => ?_)
                    refine lv_iload_n hx hb dX0_fairOf_99 rfl (lv_at hl 5 rfl) ?_
                    refine gl_164 E hW r1430648 ⟨by omega, by omega⟩ dX0_fairOf_100 (fun y1430649 m1430650 b1430651 => ?_)
                    refine lv_iload_n hx hb dX0_fairOf_101 rfl (lv_at hl 5 rfl) ?_
                    refine t_callV (As := [.ref a1430526, .int y1430617, .int y1430649, .int u1]) (rest := []) E hW (c_X0_ask l G cI cJ cZ cD cR cT kp L f1430637 hW.2.2.2 _ h0 a1430526 y1430617 y1430649 u1 rh0 r1430527 (by omega) (by omega) (by omega) (by rw [((fm_I g1430639 r1430527 rfl).trans m1430614)]; omega)) rh0 (by decide) rfl wk_X0_ask tw_717 rfl ⟨Nat.le_of_ble_eq_true rfl, Nat.le_of_ble_eq_true rfl⟩ ⟨rfl, rfl⟩ hl.1 rfl (Nat.le_of_ble_eq_true rfl) dX0_fairOf_102 ⟨Nat.le_of_ble_eq_true rfl, Nat.le_of_ble_eq_true rfl⟩ (fun v1430652 f1430653 H locs q1430654 hW => ?_)
                    obtain ⟨⟨x1430656, rfl, p1430657⟩, g1430655⟩ := q1430654
                    clear p1430657
                    have hF := FM.tr hF g1430655 rfl
                    refine lv_lstore (lv' := [(6, .long x1430656), (5, .int y1430617), (4, .ref a1430526), (3, .int y1430513), (2, .int x1430338), (0, .ref h0), (1, .int u1)]) hx hb dX0_fairOf_105 hl (by decide) rfl (fun ls hl => ?_)
                    refine lv_lload hx hb dX0_fairOf_107 (lv_at hl 0 rfl) ?_
                    refine lv_ldc2 (v := (-4000000000000000000)) hx hb hown (hts _ tw_721) dX0_fairOf_109 ?_
                    refine q_lcmp_eq (Y := -4000000000000000000) (tgt := 129) hx hb dX0_fairOf_112 dX0_fairOf_113 (by decide) rfl rfl (fun c1430658 => ?_) (fun c1430658 => ?_)
                    · refine q_iinc hx hb dX0_fairOf_129 hl (k := 1) rfl rfl rfl (by omega) (by decide) (fun i1430659 ls h1430660 hl => ?_)
                      have hl : lv_has ls 8 [(5, .int i1430659), (6, .long x1430656), (4, .ref a1430526), (3, .int y1430513), (2, .int x1430338), (0, .ref h0), (1, .int u1)] := hl
                      refine lv_goto (tgt := 52) hx hb dX0_fairOf_132 (by decide) ?_
                      exact ih52 f1430653 i1430659 ((fm_I g1430655 r1430342 rfl).trans ((fm_I g1430639 r1430342 rfl).trans m1430612)) ((fm_R g1430655 r1430342 rfl).trans ((fm_R g1430639 r1430342 rfl).trans m1430613)) ((fm_I g1430655 r1430527 rfl).trans ((fm_I g1430639 r1430527 rfl).trans m1430614)) ((fm_R g1430655 rh0 rfl).trans m1430644) ((fm_R g1430655 rh0 rfl).trans ((fm_R g1430639 rh0 rfl).trans m1430634)) (by omega) (by omega) (by omega) _ _ _ hW hF (lv_sub hl [0, 2, 3, 4, 5, 6] rfl)
                    · refine lv_lconst (v := 0) hx hb dX0_fairOf_116 (by decide) ?_
                      refine lv_lload hx hb dX0_fairOf_117 (lv_at hl 0 rfl) ?_
                      refine lv_iload_n hx hb dX0_fairOf_119 rfl (lv_at hl 4 rfl) ?_
                      refine q_i2l hx hb dX0_fairOf_120 rfl (fun x1430661 h1430662 => ?_)
                      have hb1430663 : -2147483648 ≤ x1430661.toInt ∧ x1430661.toInt ≤ 2147483647 := by have := i32_b x1430338; omega
                      refine t_min_long (own := RX0) E tw_742 ⟨tw_743, tw_115, tw_744⟩ hl.1 ⟨Nat.le_of_ble_eq_true rfl, Nat.le_of_ble_eq_true rfl⟩ ⟨Nat.le_of_ble_eq_true rfl, Nat.le_of_ble_eq_true rfl⟩ rfl rfl dX0_fairOf_121 (fun x1430664 h1430665 => ?_)
                      refine t_max_long (X := 0) (own := RX0) E tw_745 ⟨tw_746, tw_115, tw_747⟩ hl.1 ⟨Nat.le_of_ble_eq_true rfl, Nat.le_of_ble_eq_true rfl⟩ ⟨Nat.le_of_ble_eq_true rfl, Nat.le_of_ble_eq_true rfl⟩ rfl rfl dX0_fairOf_124 (fun x1430666 h1430667 => ?_)
                      refine q_l2i hx hb dX0_fairOf_127 rfl (by omega) (fun x1430668 h1430669 => ?_)
                      exact e_I E hW rfl ⟨⟨_, rfl, (by first | omega | trivial)⟩, hF⟩ dX0_fairOf_128
                  · refine lv_goto (tgt := 129) hx hb dX0_fairOf_84 (by decide) ?_
                    refine q_iinc hx hb dX0_fairOf_129 hl (k := 0) rfl rfl rfl (by omega) (by decide) (fun i1430670 ls h1430671 hl => ?_)
                    have hl : lv_has ls 8 [(5, .int i1430670), (4, .ref a1430526), (3, .int y1430513), (2, .int x1430338), (0, .ref h0), (1, .int u1)] := hl
                    refine lv_goto (tgt := 52) hx hb dX0_fairOf_132 (by decide) ?_
                    exact ih52 f1430637 i1430670 ((fm_I g1430639 r1430342 rfl).trans m1430612) ((fm_R g1430639 r1430342 rfl).trans m1430613) ((fm_I g1430639 r1430527 rfl).trans m1430614) ((fm_R g1430639 rh0 rfl).trans m1430615) ((fm_R g1430639 rh0 rfl).trans m1430634) (by omega) (by omega) (by omega) _ _ _ hW hF (lv_sub hl [0, 1, 2, 3, 4, 5] rfl)
          exact L1430620 13 f1430509 x1430551 m1430510 m1430521 m1430549 m1430511 m1430518 (by omega) (by omega) (by omega) _ _ _ hW hF (lv_sub hl [0, 1, 2, 3, 4, 5] rfl)
  exact L1430515 21 f1430335 x1430346 m1430344 ((fm_R g1430337 rh0 rfl).trans m1430332) m1430341 (by omega) (by omega) _ _ _ hW hF (lv_sub hl [0, 1, 2, 3] rfl)
def ms_X0_pay : List (Nat × Nat) := [(342, 0), (345, 0)]
def po_X0_pay (kp : Nat → Nat) (L : List Nat) (f0 : Nat → va_E) (h0 : Nat) (u1 : Int32) (u2 : Int32) : Option Value → (Nat → va_E) → Prop := fun v f => (∃ r : Int32, v = some (.int r) ∧ (True)) ∧ FM kp L ms_X0_pay f0 f
set_option maxHeartbeats 4000000 in
set_option maxRecDepth 100000 in
theorem c_X0_pay (l : Launch) (G : va_G) (cI cJ cZ cD cR cT : ClassId) (kp : Nat → Nat) (L : List Nat) (f0 : Nat → va_E) (hTH : TH cI cJ cZ cD cR cT kp L f0) (sz : Nat) (h0 : Nat) (u1 : Int32) (u2 : Int32) (rh0 : RK kp L h0 0) (pu1 : (0 : Int) ≤ u1.toInt ∧ u1.toInt ≤ 39) : Met l yX0_pay (Cond.code yX0_pay cX0_pay 5 (some .int) :: wTab) ({ frames := 1, cells := 0, slots := 0, locals := 60 }) (va_Pc [.ref h0, .int u1, .int u2] (PreW G (tys6 cI cJ cZ cD cR cT) (va_pl L f0) sz)) (QT (po_X0_pay kp L f0 h0 u1 u2) G cI cJ cZ cD cR cT (va_A (va_pl L f0) sz) kp L) 0 0 (va_A (va_pl L f0) sz) := by
  refine metT (by decide) (Nat.le_of_ble_eq_true rfl) hTH ?_
  intro p e s m below meth c A ls E hW hl
  obtain ⟨hx, hb, -, hml, hown, hts, -, -, -⟩ := id E
  have hF : FM kp L ms_X0_pay f0 f0 := FM.rf
  have hl : lv_has ls 5 [(0, .ref h0), (1, .int u1), (2, .int u2)] := hl
  refine lv_iload_n hx hb dX0_pay_0 rfl (lv_at hl 2 rfl) ?_
  refine lv_aload_n hx hb dX0_pay_1 rfl (lv_at hl 0 rfl) ?_
  refine fg_RX0_12 E hW rh0 dX0_pay_2 (fun a1430672 m1430673 r1430674 => ?_)
  refine fg_RX0_213 E hW r1430674 dX0_pay_5 (fun a1430675 m1430676 r1430677 => ?_)
  refine lv_iload_n hx hb dX0_pay_8 rfl (lv_at hl 1 rfl) ?_
  refine gl_342 E hW r1430677 ⟨by omega, by omega⟩ dX0_pay_9 (fun y1430678 m1430679 => ?_)
  refine u_isub hx hb dX0_pay_10 (fun x1430681 => ?_)
  refine lv_istore_n (lv' := [(3, .int x1430681), (0, .ref h0), (1, .int u1), (2, .int u2)]) hx hb dX0_pay_11 rfl hl (by decide) rfl (fun ls hl => ?_)
  refine lv_iload_n hx hb dX0_pay_12 rfl (lv_at hl 0 rfl) ?_
  have J1430741 : ∀ (f1430738 : Nat → va_E) (m1430739 : oR (f1430738 a1430672) 2 = a1430675) (m1430740 : oR (f1430738 h0) 0 = a1430672) (H : Heap) (locs : List Loc) (ls : Array Slot), WS G cI cJ cZ cD cR cT A kp L f1430738 s H locs → FM kp L ms_X0_pay f0 f1430738 → lv_has ls 5 [(3, .int x1430681), (0, .ref h0), (1, .int u1), (2, .int u2)] → W p l e ({ frames := 1, cells := 0, slots := 0, locals := 60 }) s m ([.ref h0, .int u1, .int u2] : List Value).toArray below meth c H locs 0 0 (MQ below (QT (po_X0_pay kp L f0 h0 u1 u2) G cI cJ cZ cD cR cT A kp L) ([.ref h0, .int u1, .int u2] : List Value).toArray s 0 0 A) (F0 m 83 ls []) := by
    intro f1430738 m1430739 m1430740 H locs ls hW hF hl
    refine lv_iload_n hx hb dX0_pay_83 rfl (lv_at hl 3 rfl) ?_
    refine lv_aload_n hx hb dX0_pay_84 rfl (lv_at hl 1 rfl) ?_
    refine fg_RX0_12 E hW rh0 dX0_pay_85 (fun a1430742 m1430743 r1430744 => ?_)
    obtain rfl : a1430672 = a1430742 := (m1430740).symm.trans m1430743
    refine fg_RX0_213 E hW r1430674 dX0_pay_88 (fun a1430745 m1430746 r1430747 => ?_)
    obtain rfl : a1430675 = a1430745 := (m1430739).symm.trans m1430746
    refine lv_iload_n hx hb dX0_pay_91 rfl (lv_at hl 2 rfl) ?_
    refine gl_342 E hW r1430677 ⟨by omega, by omega⟩ dX0_pay_92 (fun y1430748 m1430749 => ?_)
    refine t_min (own := RX0) E tw_1133 ⟨tw_637, tw_115, tw_638⟩ hl.1 ⟨Nat.le_of_ble_eq_true rfl, Nat.le_of_ble_eq_true rfl⟩ ⟨Nat.le_of_ble_eq_true rfl, Nat.le_of_ble_eq_true rfl⟩ rfl rfl dX0_pay_93 (fun x1430751 h1430752 => ?_)
    refine lv_istore (lv' := [(4, .int x1430751), (3, .int x1430681), (0, .ref h0), (1, .int u1), (2, .int u2)]) hx hb dX0_pay_96 hl (by decide) rfl (fun ls hl => ?_)
    refine lv_aload_n hx hb dX0_pay_98 rfl (lv_at hl 2 rfl) ?_
    refine fg_RX0_12 E hW rh0 dX0_pay_99 (fun a1430753 m1430754 r1430755 => ?_)
    obtain rfl : a1430672 = a1430753 := (m1430743).symm.trans m1430754
    refine fg_RX0_213 E hW r1430674 dX0_pay_102 (fun a1430756 m1430757 r1430758 => ?_)
    obtain rfl : a1430675 = a1430756 := (m1430746).symm.trans m1430757
    refine lv_iload_n hx hb dX0_pay_105 rfl (lv_at hl 3 rfl) ?_
    refine lv_dup2_11 hx hb dX0_pay_106 rfl rfl ?_
    refine gl_342 E hW r1430677 ⟨by omega, by omega⟩ dX0_pay_107 (fun y1430759 m1430760 => ?_)
    obtain rfl : y1430748 = y1430759 := (m1430749).symm.trans m1430760
    refine lv_iload hx hb dX0_pay_108 (lv_at hl 0 rfl) ?_
    refine u_isub hx hb dX0_pay_110 (fun x1430762 => ?_)
    refine gs_342 E hW r1430677 ⟨by omega, by omega⟩ dX0_pay_111 (fun f1430763 H locs e1430764 n1430765 g1430766 hW => ?_)
    have hF := FM.tr hF g1430766 rfl
    refine lv_iload hx hb dX0_pay_112 (lv_at hl 0 rfl) ?_
    exact e_I E hW rfl ⟨⟨_, rfl, trivial⟩, hF⟩ dX0_pay_114
  refine q_if_le (tgt := 83) hx hb dX0_pay_13 (by decide) rfl (fun c1430767 => ?_) (fun c1430767 => ?_)
  · exact J1430741 f0 m1430676 m1430673 _ _ _ hW hF (lv_sub hl [0, 1, 2, 3] rfl)
  · refine lv_aload_n hx hb dX0_pay_16 rfl (lv_at hl 1 rfl) ?_
    refine fg_RX0_121 E hW rh0 dX0_pay_17 (fun y1430768 m1430769 => ?_)
    refine q_if_le (tgt := 83) hx hb dX0_pay_20 (by decide) rfl (fun c1430771 => ?_) (fun c1430771 => ?_)
    · exact J1430741 f0 m1430676 m1430673 _ _ _ hW hF (lv_sub hl [0, 1, 2, 3] rfl)
    · refine lv_iload_n hx hb dX0_pay_23 rfl (lv_at hl 0 rfl) ?_
      refine lv_aload_n hx hb dX0_pay_24 rfl (lv_at hl 1 rfl) ?_
      refine fg_RX0_121 E hW rh0 dX0_pay_25 (fun y1430772 m1430773 => ?_)
      obtain rfl : y1430768 = y1430772 := (m1430769).symm.trans m1430773
      refine u_iadd hx hb dX0_pay_28 (fun x1430775 => ?_)
      refine lv_iconst (v := 1) hx hb dX0_pay_29 (by decide) ?_
      refine u_isub hx hb dX0_pay_30 (fun x1430776 => ?_)
      refine lv_aload_n hx hb dX0_pay_31 rfl (lv_at hl 1 rfl) ?_
      refine fg_RX0_121 E hW rh0 dX0_pay_32 (fun y1430777 m1430778 => ?_)
      obtain rfl : y1430768 = y1430777 := (m1430773).symm.trans m1430778
      refine u_idiv hx hb dX0_pay_35 (by omega) (fun x1430780 => ?_)
      refine lv_aload_n hx hb dX0_pay_36 rfl (lv_at hl 1 rfl) ?_
      refine fg_RX0_12 E hW rh0 dX0_pay_37 (fun a1430781 m1430782 r1430783 => ?_)
      obtain rfl : a1430672 = a1430781 := (m1430673).symm.trans m1430782
      refine fg_RX0_179 E hW r1430674 dX0_pay_40 (fun a1430784 m1430785 r1430786 => ?_)
      refine lv_iload_n hx hb dX0_pay_43 rfl (lv_at hl 2 rfl) ?_
      refine gl_345 E hW r1430786 ⟨by omega, by omega⟩ dX0_pay_44 (fun y1430787 m1430788 => ?_)
      refine t_min (own := RX0) E tw_1133 ⟨tw_637, tw_115, tw_638⟩ hl.1 ⟨Nat.le_of_ble_eq_true rfl, Nat.le_of_ble_eq_true rfl⟩ ⟨Nat.le_of_ble_eq_true rfl, Nat.le_of_ble_eq_true rfl⟩ rfl rfl dX0_pay_45 (fun x1430790 h1430791 => ?_)
      refine lv_istore (lv' := [(4, .int x1430790), (3, .int x1430681), (0, .ref h0), (1, .int u1), (2, .int u2)]) hx hb dX0_pay_48 hl (by decide) rfl (fun ls hl => ?_)
      refine lv_aload_n hx hb dX0_pay_50 rfl (lv_at hl 2 rfl) ?_
      refine fg_RX0_12 E hW rh0 dX0_pay_51 (fun a1430792 m1430793 r1430794 => ?_)
      obtain rfl : a1430672 = a1430792 := (m1430782).symm.trans m1430793
      refine fg_RX0_179 E hW r1430674 dX0_pay_54 (fun a1430795 m1430796 r1430797 => ?_)
      obtain rfl : a1430784 = a1430795 := (m1430785).symm.trans m1430796
      refine lv_iload_n hx hb dX0_pay_57 rfl (lv_at hl 3 rfl) ?_
      refine lv_dup2_11 hx hb dX0_pay_58 rfl rfl ?_
      refine gl_345 E hW r1430786 ⟨by omega, by omega⟩ dX0_pay_59 (fun y1430798 m1430799 => ?_)
      obtain rfl : y1430787 = y1430798 := (m1430788).symm.trans m1430799
      refine lv_iload hx hb dX0_pay_60 (lv_at hl 0 rfl) ?_
      refine u_isub hx hb dX0_pay_62 (fun x1430801 => ?_)
      refine gs_345 E hW r1430786 ⟨by omega, by omega⟩ dX0_pay_63 (fun f1430802 H locs e1430803 n1430804 g1430805 hW => ?_)
      have hF := FM.tr hF g1430805 rfl
      refine lv_aload_n hx hb dX0_pay_64 rfl (lv_at hl 2 rfl) ?_
      refine fg_RX0_12 E hW rh0 dX0_pay_65 (fun a1430806 m1430807 r1430808 => ?_)
      obtain rfl : a1430672 = a1430806 := (((fm_R g1430805 rh0 rfl).trans m1430793)).symm.trans m1430807
      refine fg_RX0_213 E hW r1430674 dX0_pay_68 (fun a1430809 m1430810 r1430811 => ?_)
      obtain rfl : a1430675 = a1430809 := (((fm_R g1430805 r1430674 rfl).trans m1430676)).symm.trans m1430810
      refine lv_iload_n hx hb dX0_pay_71 rfl (lv_at hl 3 rfl) ?_
      refine lv_dup2_11 hx hb dX0_pay_72 rfl rfl ?_
      refine gl_342 E hW r1430677 ⟨by omega, by omega⟩ dX0_pay_73 (fun y1430812 m1430813 => ?_)
      obtain rfl : y1430678 = y1430812 := (((congrArg (fun z => aI z (u1 : Int32).toNatClampNeg) (fm_A g1430805 r1430677 (by decide) rfl)).trans m1430679)).symm.trans m1430813
      refine lv_iload hx hb dX0_pay_74 (lv_at hl 0 rfl) ?_
      refine lv_aload_n hx hb dX0_pay_76 rfl (lv_at hl 2 rfl) ?_
      refine fg_RX0_121 E hW rh0 dX0_pay_77 (fun y1430815 m1430816 => ?_)
      obtain rfl : y1430768 = y1430815 := (((fm_I g1430805 rh0 rfl).trans m1430778)).symm.trans m1430816
      refine u_imul hx hb dX0_pay_80 (fun x1430818 => ?_)
      refine u_iadd hx hb dX0_pay_81 (fun x1430819 => ?_)
      refine gs_342 E hW r1430677 ⟨by omega, by omega⟩ dX0_pay_82 (fun f1430820 H locs e1430821 n1430822 g1430823 hW => ?_)
      have hF := FM.tr hF g1430823 rfl
      exact J1430741 f1430820 ((fm_R g1430823 r1430674 rfl).trans m1430810) ((fm_R g1430823 rh0 rfl).trans m1430807) _ _ _ hW hF (lv_sub hl [1, 2, 3, 4] rfl)
def ms_X0_collectRents : List (Nat × Nat) := [(0, 13), (115, 0), (165, 0), (169, 0), (342, 0), (345, 0)]
def po_X0_collectRents (kp : Nat → Nat) (L : List Nat) (f0 : Nat → va_E) (h0 : Nat) : Option Value → (Nat → va_E) → Prop := fun v f => v = none ∧ FM kp L ms_X0_collectRents f0 f
set_option maxHeartbeats 4000000 in
set_option maxRecDepth 100000 in
theorem c_X0_collectRents (l : Launch) (G : va_G) (cI cJ cZ cD cR cT : ClassId) (kp : Nat → Nat) (L : List Nat) (f0 : Nat → va_E) (hTH : TH cI cJ cZ cD cR cT kp L f0) (sz : Nat) (h0 : Nat) (rh0 : RK kp L h0 0) : Met l yX0_collectRents (Cond.code yX0_collectRents cX0_collectRents 7 none :: wTab) ({ frames := 5, cells := 0, slots := 0, locals := 144 }) (va_Pc [.ref h0] (PreW G (tys6 cI cJ cZ cD cR cT) (va_pl L f0) sz)) (QT (po_X0_collectRents kp L f0 h0) G cI cJ cZ cD cR cT (va_A (va_pl L f0) sz) kp L) 0 0 (va_A (va_pl L f0) sz) := by
  refine metT (by decide) (Nat.le_of_ble_eq_true rfl) hTH ?_
  intro p e s m below meth c A ls E hW hl
  obtain ⟨hx, hb, -, hml, hown, hts, -, -, -⟩ := id E
  have hF : FM kp L ms_X0_collectRents f0 f0 := FM.rf
  have hl : lv_has ls 7 [(0, .ref h0)] := hl
  refine lv_iconst (v := 0) hx hb dX0_collectRents_0 (by decide) ?_
  refine lv_istore_n (lv' := [(1, .int 0), (0, .ref h0)]) hx hb dX0_collectRents_1 rfl hl (by decide) rfl (fun ls hl => ?_)
  have L1436964 : ∀ (n : Nat), ∀ (f1436961 : Nat → va_E) (y1436962 : Int32) (b1436963 : (0 : Int) ≤ y1436962.toInt ∧ y1436962.toInt ≤ 40) (hm : (41 : Int) - y1436962.toInt ≤ n) (H : Heap) (locs : List Loc) (ls : Array Slot), WS G cI cJ cZ cD cR cT A kp L f1436961 s H locs → FM kp L ms_X0_collectRents f0 f1436961 → lv_has ls 7 [(1, .int y1436962), (0, .ref h0)] → W p l e ({ frames := 5, cells := 0, slots := 0, locals := 144 }) s m ([.ref h0] : List Value).toArray below meth c H locs 0 0 (MQ below (QT (po_X0_collectRents kp L f0 h0) G cI cJ cZ cD cR cT A kp L) ([.ref h0] : List Value).toArray s 0 0 A) (F0 m 2 ls []) := by
    intro n
    induction n with
    | zero =>
      intro f1436961 y1436962 b1436963 hm H locs ls hW hF hl
      have hz := i32_b y1436962
      exfalso; omega
    | succ n ih =>
      intro f1436961 y1436962 b1436963 hm H locs ls hW hF hl
      have ih2 := ih
      refine lv_iload_n hx hb dX0_collectRents_2 rfl (lv_at hl 0 rfl) ?_
      refine lv_aload_n hx hb dX0_collectRents_3 rfl (lv_at hl 1 rfl) ?_
      refine fg_RX0_21 E hW rh0 dX0_collectRents_4 (fun a1436965 m1436966 r1436967 => ?_)
      refine fg_RX0_171 E hW r1436967 dX0_collectRents_7 (fun y1436968 m1436969 b1436970 => ?_)
      refine q_icmp_ge (tgt := 181) hx hb dX0_collectRents_10 (by decide) rfl rfl (fun c1437284 => ?_) (fun c1437284 => ?_)
      · exact e_V E hW rfl ⟨rfl, hF⟩ dX0_collectRents_181
      · refine lv_aload_n hx hb dX0_collectRents_13 rfl (lv_at hl 1 rfl) ?_
        refine fg_RX0_21 E hW rh0 dX0_collectRents_14 (fun a1437285 m1437286 r1437287 => ?_)
        obtain rfl : a1436965 = a1437285 := (m1436966).symm.trans m1437286
        refine fg_RX0_124 E hW r1436967 dX0_collectRents_17 (fun a1437288 m1437289 r1437290 => ?_)
        refine lv_iload_n hx hb dX0_collectRents_20 rfl (lv_at hl 0 rfl) ?_
        refine gl_164 E hW r1437290 ⟨by omega, by omega⟩ dX0_collectRents_21 (fun y1437291 m1437292 b1437293 => ?_)
        refine lv_istore_n (lv' := [(2, .int y1437291), (1, .int y1436962), (0, .ref h0)]) hx hb dX0_collectRents_22 rfl hl (by decide) rfl (fun ls hl => ?_)
        refine lv_iload_n hx hb dX0_collectRents_23 rfl (lv_at hl 0 rfl) ?_
        refine lv_iconst (v := (-1)) hx hb dX0_collectRents_24 (by decide) ?_
        have J1437446 : ∀ (f1437442 : Nat → va_E) (m1437443 : oI (f1437442 a1436965) 0 = y1436968) (m1437444 : oR (f1437442 a1436965) 4 = a1437288) (m1437445 : oR (f1437442 h0) 1 = a1436965) (H : Heap) (locs : List Loc) (ls : Array Slot), WS G cI cJ cZ cD cR cT A kp L f1437442 s H locs → FM kp L ms_X0_collectRents f0 f1437442 → lv_has ls 7 [(2, .int y1437291), (1, .int y1436962), (0, .ref h0)] → W p l e ({ frames := 5, cells := 0, slots := 0, locals := 144 }) s m ([.ref h0] : List Value).toArray below meth c H locs 0 0 (MQ below (QT (po_X0_collectRents kp L f0 h0) G cI cJ cZ cD cR cT A kp L) ([.ref h0] : List Value).toArray s 0 0 A) (F0 m 175 ls []) := by
          intro f1437442 m1437443 m1437444 m1437445 H locs ls hW hF hl
          refine q_iinc hx hb dX0_collectRents_175 hl (k := 1) rfl rfl rfl (by omega) (by decide) (fun i1437447 ls h1437448 hl => ?_)
          have hl : lv_has ls 7 [(1, .int i1437447), (2, .int y1437291), (0, .ref h0)] := hl
          refine lv_goto (tgt := 2) hx hb dX0_collectRents_178 (by decide) ?_
          exact ih2 f1437442 i1437447 (by omega) (by omega) _ _ _ hW hF (lv_sub hl [0, 2] rfl)
        refine q_icmp_eq (Y := -1) (tgt := 175) hx hb dX0_collectRents_25 (by decide) rfl rfl (fun c1437449 => ?_) (fun c1437449 => ?_)
        · exact J1437446 f1436961 m1436969 m1437289 m1437286 _ _ _ hW hF (lv_sub hl [0, 1, 2] rfl)
        · refine lv_aload_n hx hb dX0_collectRents_28 rfl (lv_at hl 2 rfl) ?_
          refine fg_RX0_12 E hW rh0 dX0_collectRents_29 (fun a1437450 m1437451 r1437452 => ?_)
          refine fg_RX0_182 E hW r1437452 dX0_collectRents_32 (fun a1437453 m1437454 r1437455 => ?_)
          refine lv_iload_n hx hb dX0_collectRents_35 rfl (lv_at hl 0 rfl) ?_
          refine gl_346 E hW r1437455 ⟨by omega, by omega⟩ dX0_collectRents_36 (fun y1437456 m1437457 => ?_)
          refine q_if_ne (tgt := 175) hx hb dX0_collectRents_37 (by decide) rfl (fun c1437459 => ?_) (fun c1437459 => ?_)
          · exact J1437446 f1436961 m1436969 m1437289 m1437286 _ _ _ hW hF (lv_sub hl [0, 1, 2] rfl)
          · refine lv_aload_n hx hb dX0_collectRents_40 rfl (lv_at hl 2 rfl) ?_
            refine fg_RX0_21 E hW rh0 dX0_collectRents_41 (fun a1437460 m1437461 r1437462 => ?_)
            obtain rfl : a1436965 = a1437460 := (m1437286).symm.trans m1437461
            refine lv_iload_n hx hb dX0_collectRents_44 rfl (lv_at hl 1 rfl) ?_
            refine t_callV (As := [.int y1436962]) (rest := []) E hW (c_X1_rentOf l G cI cJ cZ cD cR cT kp L f1436961 hW.2.2.2 _ a1436965 y1436962 r1436967 (by omega)) r1436967 (by decide) rfl wk_X1_rentOf tw_709 rfl ⟨Nat.le_of_ble_eq_true rfl, Nat.le_of_ble_eq_true rfl⟩ ⟨rfl, rfl⟩ hl.1 rfl (Nat.le_of_ble_eq_true rfl) dX0_collectRents_45 ⟨Nat.le_of_ble_eq_true rfl, Nat.le_of_ble_eq_true rfl⟩ (fun v1437463 f1437464 H locs q1437465 hW => ?_)
            obtain ⟨⟨x1437467, rfl, p1437468⟩, g1437466⟩ := q1437465
            have hF := FM.tr hF g1437466 rfl
            refine lv_aload_n hx hb dX0_collectRents_48 rfl (lv_at hl 2 rfl) ?_
            refine fg_RX0_21 E hW rh0 dX0_collectRents_49 (fun a1437469 m1437470 r1437471 => ?_)
            obtain rfl : a1436965 = a1437469 := (((fm_R g1437466 rh0 rfl).trans m1437461)).symm.trans m1437470
            refine fg_RX0_188 E hW r1436967 dX0_collectRents_52 (fun a1437472 m1437473 r1437474 => ?_)
            refine lv_iload_n hx hb dX0_collectRents_55 rfl (lv_at hl 1 rfl) ?_
            refine gl_165 E hW r1437474 ⟨by omega, by omega⟩ dX0_collectRents_56 (fun y1437475 m1437476 => ?_)
            refine u_iadd hx hb dX0_collectRents_57 (fun x1437478 => ?_)
            refine lv_istore_n (lv' := [(3, .int x1437478), (2, .int y1437291), (1, .int y1436962), (0, .ref h0)]) hx hb dX0_collectRents_58 rfl hl (by decide) rfl (fun ls hl => ?_)
            refine lv_aload_n hx hb dX0_collectRents_59 rfl (lv_at hl 3 rfl) ?_
            refine fg_RX0_53 E hW rh0 dX0_collectRents_60 (fun a1437479 m1437480 r1437481 => ?_)
            refine lv_iload_n hx hb dX0_collectRents_63 rfl (lv_at hl 2 rfl) ?_
            refine gl_108 E hW r1437481 ⟨by omega, by omega⟩ dX0_collectRents_64 (fun y1437482 m1437483 => ?_)
            refine lv_iconst (v := (-1)) hx hb dX0_collectRents_65 (by decide) ?_
            have J1437508 : ∀ (f1437498 : Nat → va_E) (y1437506 : Int32) (m1437499 : oI (f1437498 a1436965) 0 = y1436968) (m1437500 : oR (f1437498 a1436965) 4 = a1437288) (m1437501 : oR (f1437498 a1436965) 5 = a1437472) (m1437502 : oR (f1437498 a1437450) 6 = a1437453) (m1437503 : oR (f1437498 h0) 0 = a1437450) (m1437504 : oR (f1437498 h0) 1 = a1436965) (m1437505 : oR (f1437498 h0) 8 = a1437479) (b1437507 : (0 : Int) ≤ y1437506.toInt ∧ y1437506.toInt ≤ 1) (H : Heap) (locs : List Loc) (ls : Array Slot), WS G cI cJ cZ cD cR cT A kp L f1437498 s H locs → FM kp L ms_X0_collectRents f0 f1437498 → lv_has ls 7 [(3, .int x1437478), (2, .int y1437291), (1, .int y1436962), (0, .ref h0)] → W p l e ({ frames := 5, cells := 0, slots := 0, locals := 144 }) s m ([.ref h0] : List Value).toArray below meth c H locs 0 0 (MQ below (QT (po_X0_collectRents kp L f0 h0) G cI cJ cZ cD cR cT A kp L) ([.ref h0] : List Value).toArray s 0 0 A) (F0 m 96 ls [.int y1437506]) := by
              intro f1437498 y1437506 m1437499 m1437500 m1437501 m1437502 m1437503 m1437504 m1437505 b1437507 H locs ls hW hF hl
              clear c1437459 p1437468
              refine lv_istore (lv' := [(4, .int y1437506), (3, .int x1437478), (2, .int y1437291), (1, .int y1436962), (0, .ref h0)]) hx hb dX0_collectRents_96 hl (by decide) rfl (fun ls hl => ?_)
              refine lv_iload hx hb dX0_collectRents_98 (lv_at hl 0 rfl) ?_
              have J1437524 : ∀ (f1437515 : Nat → va_E) (y1437523 : Int32) (m1437516 : oI (f1437515 a1436965) 0 = y1436968) (m1437517 : oR (f1437515 a1436965) 4 = a1437288) (m1437518 : oR (f1437515 a1436965) 5 = a1437472) (m1437519 : oR (f1437515 a1437450) 6 = a1437453) (m1437520 : oR (f1437515 h0) 0 = a1437450) (m1437521 : oR (f1437515 h0) 1 = a1436965) (m1437522 : oR (f1437515 h0) 8 = a1437479) (H : Heap) (locs : List Loc) (ls : Array Slot), WS G cI cJ cZ cD cR cT A kp L f1437515 s H locs → FM kp L ms_X0_collectRents f0 f1437515 → lv_has ls 7 [(4, .int y1437506), (3, .int x1437478), (2, .int y1437291), (1, .int y1436962), (0, .ref h0)] → W p l e ({ frames := 5, cells := 0, slots := 0, locals := 144 }) s m ([.ref h0] : List Value).toArray below meth c H locs 0 0 (MQ below (QT (po_X0_collectRents kp L f0 h0) G cI cJ cZ cD cR cT A kp L) ([.ref h0] : List Value).toArray s 0 0 A) (F0 m 112 ls [.int y1437523]) := by
                intro f1437515 y1437523 m1437516 m1437517 m1437518 m1437519 m1437520 m1437521 m1437522 H locs ls hW hF hl
                refine lv_istore (lv' := [(5, .int y1437523), (4, .int y1437506), (3, .int x1437478), (2, .int y1437291), (1, .int y1436962), (0, .ref h0)]) hx hb dX0_collectRents_112 hl (by decide) rfl (fun ls hl => ?_)
                refine lv_aload_n hx hb dX0_collectRents_114 rfl (lv_at hl 5 rfl) ?_
                refine lv_iload_n hx hb dX0_collectRents_115 rfl (lv_at hl 3 rfl) ?_
                refine lv_iload hx hb dX0_collectRents_116 (lv_at hl 0 rfl) ?_
                refine t_callV (As := [.int y1437291, .int y1437523]) (rest := []) E hW (c_X0_pay l G cI cJ cZ cD cR cT kp L f1437515 hW.2.2.2 _ h0 y1437291 y1437523 rh0 (by omega)) rh0 (by decide) rfl wk_X0_pay tw_1129 rfl ⟨Nat.le_of_ble_eq_true rfl, Nat.le_of_ble_eq_true rfl⟩ ⟨rfl, rfl⟩ hl.1 rfl (Nat.le_of_ble_eq_true rfl) dX0_collectRents_118 ⟨Nat.le_of_ble_eq_true rfl, Nat.le_of_ble_eq_true rfl⟩ (fun v1437525 f1437526 H locs q1437527 hW => ?_)
                obtain ⟨⟨x1437529, rfl, p1437530⟩, g1437528⟩ := q1437527
                clear p1437530
                have hF := FM.tr hF g1437528 rfl
                refine lv_istore (lv' := [(6, .int x1437529), (5, .int y1437523), (4, .int y1437506), (3, .int x1437478), (2, .int y1437291), (1, .int y1436962), (0, .ref h0)]) hx hb dX0_collectRents_121 hl (by decide) rfl (fun ls hl => ?_)
                refine lv_aload_n hx hb dX0_collectRents_123 rfl (lv_at hl 6 rfl) ?_
                refine fg_RX0_21 E hW rh0 dX0_collectRents_124 (fun a1437531 m1437532 r1437533 => ?_)
                obtain rfl : a1436965 = a1437531 := (((fm_R g1437528 rh0 rfl).trans m1437521)).symm.trans m1437532
                refine fg_RX0_201 E hW r1436967 dX0_collectRents_127 (fun a1437534 m1437535 r1437536 => ?_)
                refine lv_aload_n hx hb dX0_collectRents_130 rfl (lv_at hl 6 rfl) ?_
                refine fg_RX0_21 E hW rh0 dX0_collectRents_131 (fun a1437537 m1437538 r1437539 => ?_)
                obtain rfl : a1436965 = a1437537 := (m1437532).symm.trans m1437538
                refine fg_RX0_204 E hW r1436967 dX0_collectRents_134 (fun a1437540 m1437541 r1437542 => ?_)
                refine lv_iload_n hx hb dX0_collectRents_137 rfl (lv_at hl 5 rfl) ?_
                refine gl_161 E hW r1437542 ⟨by omega, by omega⟩ dX0_collectRents_138 (fun y1437543 m1437544 b1437545 => ?_)
                refine lv_dup2_11 hx hb dX0_collectRents_139 rfl rfl ?_
                refine gl_169 E hW r1437536 ⟨by omega, by omega⟩ dX0_collectRents_140 (fun y1437546 m1437547 => ?_)
                refine lv_iload hx hb dX0_collectRents_141 (lv_at hl 0 rfl) ?_
                refine u_iadd hx hb dX0_collectRents_143 (fun x1437549 => ?_)
                refine gs_169 E hW r1437536 ⟨by omega, by omega⟩ dX0_collectRents_144 (fun f1437550 H locs e1437551 n1437552 g1437553 hW => ?_)
                have hF := FM.tr hF g1437553 rfl
                refine lv_aload_n hx hb dX0_collectRents_145 rfl (lv_at hl 6 rfl) ?_
                refine lv_dup hx hb dX0_collectRents_146 rfl ?_
                refine fg_RX0_103 E hW rh0 dX0_collectRents_147 (fun y1437554 m1437555 => ?_)
                refine lv_iload hx hb dX0_collectRents_150 (lv_at hl 0 rfl) ?_
                refine q_i2l hx hb dX0_collectRents_152 rfl (fun x1437556 h1437557 => ?_)
                have hb1437558 : -2147483648 ≤ x1437556.toInt ∧ x1437556.toInt ≤ 2147483647 := by have := i32_b x1437529; omega
                refine u_ladd hx hb dX0_collectRents_153 (fun x1437559 => ?_)
                refine fp_RX0_103 E hW rh0 dX0_collectRents_154 (fun f1437560 H locs e1437561 n1437562 g1437563 hW => ?_)
                have hF := FM.tr hF g1437563 rfl
                refine lv_aload_n hx hb dX0_collectRents_157 rfl (lv_at hl 6 rfl) ?_
                refine fg_RX0_21 E hW rh0 dX0_collectRents_158 (fun a1437564 m1437565 r1437566 => ?_)
                obtain rfl : a1436965 = a1437564 := (((fm_R g1437563 rh0 rfl).trans ((fm_R g1437553 rh0 rfl).trans m1437538))).symm.trans m1437565
                refine fg_RX0_188 E hW r1436967 dX0_collectRents_161 (fun a1437567 m1437568 r1437569 => ?_)
                obtain rfl : a1437472 = a1437567 := (((fm_R g1437563 r1436967 rfl).trans ((fm_R g1437553 r1436967 rfl).trans ((fm_R g1437528 r1436967 rfl).trans m1437518)))).symm.trans m1437568
                refine lv_iload_n hx hb dX0_collectRents_164 rfl (lv_at hl 5 rfl) ?_
                refine lv_iload_n hx hb dX0_collectRents_165 rfl (lv_at hl 3 rfl) ?_
                refine lv_iload hx hb dX0_collectRents_166 (lv_at hl 0 rfl) ?_
                refine u_isub hx hb dX0_collectRents_168 (fun x1437570 => ?_)
                refine lv_ldc (v := 10000000) hx hb hown (hts _ tw_1134) dX0_collectRents_169 ?_
                refine t_min (Y := 10000000) (own := RX0) E tw_1133 ⟨tw_637, tw_115, tw_638⟩ hl.1 ⟨Nat.le_of_ble_eq_true rfl, Nat.le_of_ble_eq_true rfl⟩ ⟨Nat.le_of_ble_eq_true rfl, Nat.le_of_ble_eq_true rfl⟩ rfl rfl dX0_collectRents_171 (fun x1437571 h1437572 => ?_)
                refine gs_165 E hW r1437474 ⟨by omega, by omega⟩ dX0_collectRents_174 (fun f1437573 H locs e1437574 n1437575 g1437576 hW => ?_)
                have hF := FM.tr hF g1437576 rfl
                exact J1437446 f1437573 ((fm_I g1437576 r1436967 rfl).trans ((fm_I g1437563 r1436967 rfl).trans ((fm_I g1437553 r1436967 rfl).trans ((fm_I g1437528 r1436967 rfl).trans m1437516)))) ((fm_R g1437576 r1436967 rfl).trans ((fm_R g1437563 r1436967 rfl).trans ((fm_R g1437553 r1436967 rfl).trans ((fm_R g1437528 r1436967 rfl).trans m1437517)))) ((fm_R g1437576 rh0 rfl).trans m1437565) _ _ _ hW hF (lv_sub hl [4, 5, 6] rfl)
              refine q_if_eq (tgt := 111) hx hb dX0_collectRents_100 (by decide) rfl (fun c1437577 => ?_) (fun c1437577 => ?_)
              · refine lv_iload_n hx hb dX0_collectRents_111 rfl (lv_at hl 1 rfl) ?_
                exact J1437524 f1437498 x1437478 m1437499 m1437500 m1437501 m1437502 m1437503 m1437504 m1437505 _ _ _ hW hF (lv_sub hl [0, 1, 2, 3, 4] rfl)
              · refine lv_aload_n hx hb dX0_collectRents_103 rfl (lv_at hl 4 rfl) ?_
                refine lv_iload_n hx hb dX0_collectRents_104 rfl (lv_at hl 3 rfl) ?_
                refine t_callV (As := [.int y1436962]) (rest := []) E hW (c_X0_fairOf l G cI cJ cZ cD cR cT kp L f1437498 hW.2.2.2 _ h0 y1436962 rh0 (by omega)) rh0 (by decide) rfl wk_X0_fairOf tw_1128 rfl ⟨Nat.le_of_ble_eq_true rfl, Nat.le_of_ble_eq_true rfl⟩ ⟨rfl, rfl⟩ hl.1 rfl (Nat.le_of_ble_eq_true rfl) dX0_collectRents_105 ⟨Nat.le_of_ble_eq_true rfl, Nat.le_of_ble_eq_true rfl⟩ (fun v1437578 f1437579 H locs q1437580 hW => ?_)
                obtain ⟨⟨x1437582, rfl, p1437583⟩, g1437581⟩ := q1437580
                have hF := FM.tr hF g1437581 rfl
                refine lv_goto (tgt := 112) hx hb dX0_collectRents_108 (by decide) ?_
                exact J1437524 f1437579 x1437582 ((fm_I g1437581 r1436967 rfl).trans m1437499) ((fm_R g1437581 r1436967 rfl).trans m1437500) ((fm_R g1437581 r1436967 rfl).trans m1437501) ((fm_R g1437581 r1437452 rfl).trans m1437502) ((fm_R g1437581 rh0 rfl).trans m1437503) ((fm_R g1437581 rh0 rfl).trans m1437504) ((fm_R g1437581 rh0 rfl).trans m1437505) _ _ _ hW hF (lv_sub hl [0, 1, 2, 3, 4] rfl)
            refine q_icmp_ne (Y := -1) (tgt := 81) hx hb dX0_collectRents_66 (by decide) rfl rfl (fun c1437584 => ?_) (fun c1437584 => ?_)
            · refine lv_aload_n hx hb dX0_collectRents_81 rfl (lv_at hl 3 rfl) ?_
              refine fg_RX0_53 E hW rh0 dX0_collectRents_82 (fun a1437585 m1437586 r1437587 => ?_)
              obtain rfl : a1437479 = a1437585 := (m1437480).symm.trans m1437586
              refine lv_iload_n hx hb dX0_collectRents_85 rfl (lv_at hl 2 rfl) ?_
              refine gl_108 E hW r1437481 ⟨by omega, by omega⟩ dX0_collectRents_86 (fun y1437588 m1437589 => ?_)
              obtain rfl : y1437482 = y1437588 := (m1437483).symm.trans m1437589
              refine lv_iconst (v := 1) hx hb dX0_collectRents_87 (by decide) ?_
              refine q_icmp_ne (Y := 1) (tgt := 95) hx hb dX0_collectRents_88 (by decide) rfl rfl (fun c1437591 => ?_) (fun c1437591 => ?_)
              · refine lv_iconst (v := 0) hx hb dX0_collectRents_95 (by decide) ?_
                exact J1437508 f1437464 0 ((fm_I g1437466 r1436967 rfl).trans m1436969) ((fm_R g1437466 r1436967 rfl).trans m1437289) m1437473 ((fm_R g1437466 r1437452 rfl).trans m1437454) ((fm_R g1437466 rh0 rfl).trans m1437451) m1437470 m1437586 (by decide) _ _ _ hW hF (lv_sub hl [0, 1, 2, 3] rfl)
              · refine lv_iconst (v := 1) hx hb dX0_collectRents_91 (by decide) ?_
                refine lv_goto (tgt := 96) hx hb dX0_collectRents_92 (by decide) ?_
                exact J1437508 f1437464 1 ((fm_I g1437466 r1436967 rfl).trans m1436969) ((fm_R g1437466 r1436967 rfl).trans m1437289) m1437473 ((fm_R g1437466 r1437452 rfl).trans m1437454) ((fm_R g1437466 rh0 rfl).trans m1437451) m1437470 m1437586 (by decide) _ _ _ hW hF (lv_sub hl [0, 1, 2, 3] rfl)
            · refine lv_aload_n hx hb dX0_collectRents_69 rfl (lv_at hl 3 rfl) ?_
              refine lv_sipush (v := 262) hx hb dX0_collectRents_70 (by decide) ?_
              refine lv_iload_n hx hb dX0_collectRents_73 rfl (lv_at hl 1 rfl) ?_
              refine lv_iload_n hx hb dX0_collectRents_74 rfl (lv_at hl 2 rfl) ?_
              refine t_callV (As := [.int 262, .int y1437291, .int y1436962]) (rest := []) E hW (c_X0_anyHolds l G cI cJ cZ cD cR cT kp L f1437464 hW.2.2.2 _ h0 262 y1437291 y1436962 rh0 (by decide) (by omega) (by omega)) rh0 (by decide) rfl wk_X0_anyHolds tw_752 rfl ⟨Nat.le_of_ble_eq_true rfl, Nat.le_of_ble_eq_true rfl⟩ ⟨rfl, rfl⟩ hl.1 rfl (Nat.le_of_ble_eq_true rfl) dX0_collectRents_75 ⟨Nat.le_of_ble_eq_true rfl, Nat.le_of_ble_eq_true rfl⟩ (fun v1437592 f1437593 H locs q1437594 hW => ?_)
              obtain ⟨⟨x1437596, rfl, p1437597⟩, g1437595⟩ := q1437594
              have p1437597 : (0 : Int) ≤ x1437596.toInt ∧ x1437596.toInt ≤ 1 := p1437597
              have hF := FM.tr hF g1437595 rfl
              refine lv_goto (tgt := 96) hx hb dX0_collectRents_78 (by decide) ?_
              exact J1437508 f1437593 x1437596 ((fm_I g1437595 r1436967 rfl).trans ((fm_I g1437466 r1436967 rfl).trans m1436969)) ((fm_R g1437595 r1436967 rfl).trans ((fm_R g1437466 r1436967 rfl).trans m1437289)) ((fm_R g1437595 r1436967 rfl).trans m1437473) ((fm_R g1437595 r1437452 rfl).trans ((fm_R g1437466 r1437452 rfl).trans m1437454)) ((fm_R g1437595 rh0 rfl).trans ((fm_R g1437466 rh0 rfl).trans m1437451)) ((fm_R g1437595 rh0 rfl).trans m1437470) ((fm_R g1437595 rh0 rfl).trans m1437480) (by omega) _ _ _ hW hF (lv_sub hl [0, 1, 2, 3] rfl)
  have hk1437598 : (0 : Int32).toInt = 0 := rfl
  exact L1436964 41 f0 0 (by decide) (by omega) _ _ _ hW hF (lv_sub hl [0, 1] rfl)
def ms_X0_copyFrom : List (Nat × Nat) := [(0, 6), (0, 9), (0, 12), (0, 13), (1, 0), (1, 8), (1, 12), (1, 13), (1, 14), (2, 0), (3, 0), (3, 1), (3, 2), (3, 3), (4, 0), (10, 0), (10, 7), (108, 0), (161, 0), (162, 0), (163, 0), (164, 0), (165, 0), (166, 0), (167, 0), (169, 0), (170, 0), (171, 0), (221, 0), (284, 0), (285, 0), (341, 0), (342, 0), (343, 0), (344, 0), (345, 0), (346, 0), (347, 0), (348, 0), (520, 0), (521, 0), (701, 0), (702, 0), (703, 0), (704, 0), (705, 0), (706, 0), (708, 0), (709, 0), (710, 0)]
def po_X0_copyFrom (kp : Nat → Nat) (L : List Nat) (f0 : Nat → va_E) (h0 : Nat) (u1 : Nat) : Option Value → (Nat → va_E) → Prop := fun v f => v = none ∧ FM kp L ms_X0_copyFrom f0 f
set_option maxHeartbeats 4000000 in
set_option maxRecDepth 100000 in
theorem c_X0_copyFrom (l : Launch) (G : va_G) (cI cJ cZ cD cR cT : ClassId) (kp : Nat → Nat) (L : List Nat) (f0 : Nat → va_E) (hTH : TH cI cJ cZ cD cR cT kp L f0) (sz : Nat) (h0 : Nat) (u1 : Nat) (rh0 : RK kp L h0 0) (ru1 : RK kp L u1 0) : Met l yX0_copyFrom (Cond.code yX0_copyFrom cX0_copyFrom 2 none :: wTab) ({ frames := 2, cells := 0, slots := 0, locals := 82 }) (va_Pc [.ref h0, .ref u1] (PreW G (tys6 cI cJ cZ cD cR cT) (va_pl L f0) sz)) (QT (po_X0_copyFrom kp L f0 h0 u1) G cI cJ cZ cD cR cT (va_A (va_pl L f0) sz) kp L) 0 0 (va_A (va_pl L f0) sz) := by
  refine metT (by decide) (Nat.le_of_ble_eq_true rfl) hTH ?_
  intro p e s m below meth c A ls E hW hl
  obtain ⟨hx, hb, -, hml, hown, hts, -, -, -⟩ := id E
  have hF : FM kp L ms_X0_copyFrom f0 f0 := FM.rf
  have hl : lv_has ls 2 [(0, .ref h0), (1, .ref u1)] := hl
  refine lv_aload_n hx hb dX0_copyFrom_0 rfl (lv_at hl 0 rfl) ?_
  refine fg_RX0_12 E hW rh0 dX0_copyFrom_1 (fun a1437599 m1437600 r1437601 => ?_)
  refine lv_aload_n hx hb dX0_copyFrom_4 rfl (lv_at hl 1 rfl) ?_
  refine fg_RX0_12 E hW ru1 dX0_copyFrom_5 (fun a1437602 m1437603 r1437604 => ?_)
  refine t_callV (As := [.ref a1437602]) (rest := []) E hW (c_X4_copyFrom l G cI cJ cZ cD cR cT kp L f0 hW.2.2.2 _ a1437599 a1437602 r1437601 r1437604) r1437601 (by decide) rfl wk_X4_copyFrom tw_1289 rfl ⟨Nat.le_of_ble_eq_true rfl, Nat.le_of_ble_eq_true rfl⟩ ⟨rfl, rfl⟩ hl.1 rfl (Nat.le_of_ble_eq_true rfl) dX0_copyFrom_8 ⟨Nat.le_of_ble_eq_true rfl, Nat.le_of_ble_eq_true rfl⟩ (fun v1437605 f1437606 H locs q1437607 hW => ?_)
  obtain ⟨rfl, g1437608⟩ := q1437607
  have hF := FM.tr hF g1437608 rfl
  refine lv_aload_n hx hb dX0_copyFrom_11 rfl (lv_at hl 0 rfl) ?_
  refine fg_RX0_21 E hW rh0 dX0_copyFrom_12 (fun a1437609 m1437610 r1437611 => ?_)
  refine lv_aload_n hx hb dX0_copyFrom_15 rfl (lv_at hl 1 rfl) ?_
  refine fg_RX0_21 E hW ru1 dX0_copyFrom_16 (fun a1437612 m1437613 r1437614 => ?_)
  refine t_callV (As := [.ref a1437612]) (rest := []) E hW (c_X1_copyFrom l G cI cJ cZ cD cR cT kp L f1437606 hW.2.2.2 _ a1437609 a1437612 r1437611 r1437614) r1437611 (by decide) rfl wk_X1_copyFrom tw_1294 rfl ⟨Nat.le_of_ble_eq_true rfl, Nat.le_of_ble_eq_true rfl⟩ ⟨rfl, rfl⟩ hl.1 rfl (Nat.le_of_ble_eq_true rfl) dX0_copyFrom_19 ⟨Nat.le_of_ble_eq_true rfl, Nat.le_of_ble_eq_true rfl⟩ (fun v1437615 f1437616 H locs q1437617 hW => ?_)
  obtain ⟨rfl, g1437618⟩ := q1437617
  have hF := FM.tr hF g1437618 rfl
  refine lv_aload_n hx hb dX0_copyFrom_22 rfl (lv_at hl 0 rfl) ?_
  refine fg_RX0_28 E hW rh0 dX0_copyFrom_23 (fun a1437619 m1437620 r1437621 => ?_)
  refine lv_aload_n hx hb dX0_copyFrom_26 rfl (lv_at hl 1 rfl) ?_
  refine fg_RX0_28 E hW ru1 dX0_copyFrom_27 (fun a1437622 m1437623 r1437624 => ?_)
  refine t_callV (As := [.ref a1437622]) (rest := []) E hW (c_X10_copyFrom l G cI cJ cZ cD cR cT kp L f1437616 hW.2.2.2 _ a1437619 a1437622 r1437621 r1437624) r1437621 (by decide) rfl wk_X10_copyFrom tw_1299 rfl ⟨Nat.le_of_ble_eq_true rfl, Nat.le_of_ble_eq_true rfl⟩ ⟨rfl, rfl⟩ hl.1 rfl (Nat.le_of_ble_eq_true rfl) dX0_copyFrom_30 ⟨Nat.le_of_ble_eq_true rfl, Nat.le_of_ble_eq_true rfl⟩ (fun v1437625 f1437626 H locs q1437627 hW => ?_)
  obtain ⟨rfl, g1437628⟩ := q1437627
  have hF := FM.tr hF g1437628 rfl
  refine lv_aload_n hx hb dX0_copyFrom_33 rfl (lv_at hl 0 rfl) ?_
  refine fg_RX0_35 E hW rh0 dX0_copyFrom_34 (fun a1437629 m1437630 r1437631 => ?_)
  refine lv_aload_n hx hb dX0_copyFrom_37 rfl (lv_at hl 1 rfl) ?_
  refine fg_RX0_35 E hW ru1 dX0_copyFrom_38 (fun a1437632 m1437633 r1437634 => ?_)
  refine t_callV (As := [.ref a1437632]) (rest := []) E hW (c_X7_copyFrom l G cI cJ cZ cD cR cT kp L f1437626 hW.2.2.2 _ a1437629 a1437632 r1437631 r1437634) r1437631 (by decide) rfl wk_X7_copyFrom tw_1304 rfl ⟨Nat.le_of_ble_eq_true rfl, Nat.le_of_ble_eq_true rfl⟩ ⟨rfl, rfl⟩ hl.1 rfl (Nat.le_of_ble_eq_true rfl) dX0_copyFrom_41 ⟨Nat.le_of_ble_eq_true rfl, Nat.le_of_ble_eq_true rfl⟩ (fun v1437635 f1437636 H locs q1437637 hW => ?_)
  obtain ⟨rfl, g1437638⟩ := q1437637
  have hF := FM.tr hF g1437638 rfl
  refine lv_aload_n hx hb dX0_copyFrom_44 rfl (lv_at hl 0 rfl) ?_
  refine fg_RX0_42 E hW rh0 dX0_copyFrom_45 (fun a1437639 m1437640 r1437641 => ?_)
  refine lv_aload_n hx hb dX0_copyFrom_48 rfl (lv_at hl 1 rfl) ?_
  refine fg_RX0_42 E hW ru1 dX0_copyFrom_49 (fun a1437642 m1437643 r1437644 => ?_)
  refine t_callV (As := [.ref a1437642]) (rest := []) E hW (c_X2_copyFrom l G cI cJ cZ cD cR cT kp L f1437636 hW.2.2.2 _ a1437639 a1437642 r1437641 r1437644) r1437641 (by decide) rfl wk_X2_copyFrom tw_1309 rfl ⟨Nat.le_of_ble_eq_true rfl, Nat.le_of_ble_eq_true rfl⟩ ⟨rfl, rfl⟩ hl.1 rfl (Nat.le_of_ble_eq_true rfl) dX0_copyFrom_52 ⟨Nat.le_of_ble_eq_true rfl, Nat.le_of_ble_eq_true rfl⟩ (fun v1437645 f1437646 H locs q1437647 hW => ?_)
  obtain ⟨rfl, g1437648⟩ := q1437647
  have hF := FM.tr hF g1437648 rfl
  refine lv_aload_n hx hb dX0_copyFrom_55 rfl (lv_at hl 0 rfl) ?_
  refine fg_RX0_49 E hW rh0 dX0_copyFrom_56 (fun a1437649 m1437650 r1437651 => ?_)
  refine lv_aload_n hx hb dX0_copyFrom_59 rfl (lv_at hl 1 rfl) ?_
  refine fg_RX0_49 E hW ru1 dX0_copyFrom_60 (fun a1437652 m1437653 r1437654 => ?_)
  refine t_callV (As := [.ref a1437652]) (rest := []) E hW (c_X3_copyFrom l G cI cJ cZ cD cR cT kp L f1437646 hW.2.2.2 _ a1437649 a1437652 r1437651 r1437654) r1437651 (by decide) rfl wk_X3_copyFrom tw_1313 rfl ⟨Nat.le_of_ble_eq_true rfl, Nat.le_of_ble_eq_true rfl⟩ ⟨rfl, rfl⟩ hl.1 rfl (Nat.le_of_ble_eq_true rfl) dX0_copyFrom_63 ⟨Nat.le_of_ble_eq_true rfl, Nat.le_of_ble_eq_true rfl⟩ (fun v1437655 f1437656 H locs q1437657 hW => ?_)
  obtain ⟨rfl, g1437658⟩ := q1437657
  have hF := FM.tr hF g1437658 rfl
  refine lv_aload_n hx hb dX0_copyFrom_66 rfl (lv_at hl 0 rfl) ?_
  refine lv_aload_n hx hb dX0_copyFrom_67 rfl (lv_at hl 1 rfl) ?_
  refine fg_RX0_93 E hW ru1 dX0_copyFrom_68 (fun y1437659 m1437660 b1437661 => ?_)
  refine fp_RX0_93 E hW rh0 (by omega) dX0_copyFrom_71 (fun f1437662 H locs e1437663 n1437664 g1437665 hW => ?_)
  have hF := FM.tr hF g1437665 rfl
  refine lv_aload_n hx hb dX0_copyFrom_74 rfl (lv_at hl 0 rfl) ?_
  refine fg_RX0_53 E hW rh0 dX0_copyFrom_75 (fun a1437666 m1437667 r1437668 => ?_)
  refine lv_iconst (v := (-1)) hx hb dX0_copyFrom_78 (by decide) ?_
  refine t_callS (As := [.ref a1437666, .int (-1)]) (rest := []) E hW (c_fill l G cI cJ cZ cD cR cT kp L f1437662 hW.2.2.2 _ a1437666 (-1) 108 r1437668 (by decide) rfl (by decide) (fun _ _ _ => trivial) (by decide)) wk_J7_fill_53178 tw_390 rfl ⟨Nat.le_of_ble_eq_true rfl, Nat.le_of_ble_eq_true rfl⟩ ⟨rfl, rfl⟩ hl.1 rfl (Nat.le_of_ble_eq_true rfl) dX0_copyFrom_79 ⟨Nat.le_of_ble_eq_true rfl, Nat.le_of_ble_eq_true rfl⟩ (fun v1437672 f1437669 H locs q1437671 hW => ?_)
  obtain ⟨rfl, g1437670⟩ := q1437671
  have hF := FM.tr hF g1437670 rfl
  refine lv_aload_n hx hb dX0_copyFrom_82 rfl (lv_at hl 0 rfl) ?_
  refine lv_iconst (v := 0) hx hb dX0_copyFrom_83 (by decide) ?_
  refine fp_RX0_97 E hW rh0 (by decide) dX0_copyFrom_84 (fun f1437673 H locs e1437674 n1437675 g1437676 hW => ?_)
  have hF := FM.tr hF g1437676 rfl
  refine lv_aload_n hx hb dX0_copyFrom_87 rfl (lv_at hl 0 rfl) ?_
  refine lv_iconst (v := 0) hx hb dX0_copyFrom_88 (by decide) ?_
  refine fp_RX0_100 E hW rh0 dX0_copyFrom_89 (fun f1437677 H locs e1437678 n1437679 g1437680 hW => ?_)
  have hF := FM.tr hF g1437680 rfl
  refine lv_aload_n hx hb dX0_copyFrom_92 rfl (lv_at hl 0 rfl) ?_
  refine lv_lconst (v := 0) hx hb dX0_copyFrom_93 (by decide) ?_
  refine fp_RX0_103 E hW rh0 dX0_copyFrom_94 (fun f1437681 H locs e1437682 n1437683 g1437684 hW => ?_)
  have hF := FM.tr hF g1437684 rfl
  exact e_V E hW rfl ⟨rfl, hF⟩ dX0_copyFrom_97
def ms_X0_drawOf : List (Nat × Nat) := [(115, 0)]
def po_X0_drawOf (kp : Nat → Nat) (L : List Nat) (f0 : Nat → va_E) (h0 : Nat) (u1 : Int32) : Option Value → (Nat → va_E) → Prop := fun v f => (∃ r : Int64, v = some (.long r) ∧ (True)) ∧ FM kp L ms_X0_drawOf f0 f
set_option maxHeartbeats 4000000 in
set_option maxRecDepth 100000 in
theorem c_X0_drawOf (l : Launch) (G : va_G) (cI cJ cZ cD cR cT : ClassId) (kp : Nat → Nat) (L : List Nat) (f0 : Nat → va_E) (hTH : TH cI cJ cZ cD cR cT kp L f0) (sz : Nat) (h0 : Nat) (u1 : Int32) (rh0 : RK kp L h0 0) (pu1 : (0 : Int) ≤ u1.toInt ∧ u1.toInt ≤ 39) : Met l yX0_drawOf (Cond.code yX0_drawOf cX0_drawOf 9 (some .long) :: wTab) ({ frames := 4, cells := 0, slots := 0, locals := 117 }) (va_Pc [.ref h0, .int u1] (PreW G (tys6 cI cJ cZ cD cR cT) (va_pl L f0) sz)) (QT (po_X0_drawOf kp L f0 h0 u1) G cI cJ cZ cD cR cT (va_A (va_pl L f0) sz) kp L) 0 0 (va_A (va_pl L f0) sz) := by
  refine metT (by decide) (Nat.le_of_ble_eq_true rfl) hTH ?_
  intro p e s m below meth c A ls E hW hl
  obtain ⟨hx, hb, -, hml, hown, hts, -, -, -⟩ := id E
  have hF : FM kp L ms_X0_drawOf f0 f0 := FM.rf
  have hl : lv_has ls 9 [(0, .ref h0), (1, .int u1)] := hl
  refine lv_lconst (v := 0) hx hb dX0_drawOf_0 (by decide) ?_
  refine lv_lstore_n (lv' := [(2, .long 0), (0, .ref h0), (1, .int u1)]) hx hb dX0_drawOf_1 rfl hl (by decide) rfl (fun ls hl => ?_)
  refine lv_iconst (v := 0) hx hb dX0_drawOf_2 (by decide) ?_
  refine lv_istore (lv' := [(4, .int 0), (2, .long 0), (0, .ref h0), (1, .int u1)]) hx hb dX0_drawOf_3 hl (by decide) rfl (fun ls hl => ?_)
  have L1453423 : ∀ (n : Nat), ∀ (f1453419 : Nat → va_E) (y1453420 : Int32) (y1453422 : Int64) (b1453421 : (0 : Int) ≤ y1453420.toInt ∧ y1453420.toInt ≤ 20) (hm : (21 : Int) - y1453420.toInt ≤ n) (H : Heap) (locs : List Loc) (ls : Array Slot), WS G cI cJ cZ cD cR cT A kp L f1453419 s H locs → FM kp L ms_X0_drawOf f0 f1453419 → lv_has ls 9 [(4, .int y1453420), (2, .long y1453422), (0, .ref h0), (1, .int u1)] → W p l e ({ frames := 4, cells := 0, slots := 0, locals := 117 }) s m ([.ref h0, .int u1] : List Value).toArray below meth c H locs 0 0 (MQ below (QT (po_X0_drawOf kp L f0 h0 u1) G cI cJ cZ cD cR cT A kp L) ([.ref h0, .int u1] : List Value).toArray s 0 0 A) (F0 m 5 ls []) := by
    intro n
    induction n with
    | zero =>
      intro f1453419 y1453420 y1453422 b1453421 hm H locs ls hW hF hl
      have hz := i32_b y1453420
      exfalso; omega
    | succ n ih =>
      intro f1453419 y1453420 y1453422 b1453421 hm H locs ls hW hF hl
      have ih5 := ih
      refine lv_iload hx hb dX0_drawOf_5 (lv_at hl 0 rfl) ?_
      refine lv_aload_n hx hb dX0_drawOf_7 rfl (lv_at hl 2 rfl) ?_
      refine fg_RX0_42 E hW rh0 dX0_drawOf_8 (fun a1453424 m1453425 r1453426 => ?_)
      refine fg_RX0_286 E hW r1453426 dX0_drawOf_11 (fun y1453427 m1453428 b1453429 => ?_)
      refine q_icmp_ge (tgt := 117) hx hb dX0_drawOf_14 (by decide) rfl rfl (fun c1454402 => ?_) (fun c1454402 => ?_)
      · refine lv_lload_n hx hb dX0_drawOf_117 rfl (lv_at hl 1 rfl) ?_
        exact e_J E hW rfl ⟨⟨_, rfl, trivial⟩, hF⟩ dX0_drawOf_118
      · refine lv_aload_n hx hb dX0_drawOf_17 rfl (lv_at hl 2 rfl) ?_
        refine fg_RX0_42 E hW rh0 dX0_drawOf_18 (fun a1454403 m1454404 r1454405 => ?_)
        obtain rfl : a1453424 = a1454403 := (m1453425).symm.trans m1454404
        refine fg_RX0_287 E hW r1453426 dX0_drawOf_21 (fun a1454406 m1454407 r1454408 => ?_)
        refine lv_iload hx hb dX0_drawOf_24 (lv_at hl 0 rfl) ?_
        refine gl_221 E hW r1454408 ⟨by omega, by omega⟩ dX0_drawOf_26 (fun o1454409 m1454411 k1454410 => ?_)
        rcases o1454409 with _ | a1454412
        · have hl : lv_has ls 9 [(4, .int y1453420), (2, .long y1453422), (0, .ref h0), (1, .int u1)] := hl
          show W p l e ({ frames := 4, cells := 0, slots := 0, locals := 117 }) s m ([.ref h0, .int u1] : List Value).toArray below meth c _ _ 0 0 (MQ below (QT (po_X0_drawOf kp L f0 h0 u1) G cI cJ cZ cD cR cT A kp L) ([.ref h0, .int u1] : List Value).toArray s 0 0 A) (F0 m 27 ls [.null])
          refine lv_astoreN (lv' := [(5, .null), (4, .int y1453420), (2, .long y1453422), (0, .ref h0), (1, .int u1)]) hx hb dX0_drawOf_27 hl (by decide) rfl (fun ls hl => ?_)
          refine lv_iconst (v := 0) hx hb dX0_drawOf_29 (by decide) ?_
          refine lv_istore (lv' := [(6, .int 0), (5, .null), (4, .int y1453420), (2, .long y1453422), (0, .ref h0), (1, .int u1)]) hx hb dX0_drawOf_30 hl (by decide) rfl (fun ls hl => ?_)
          have L1454428 : ∀ (n : Nat), ∀ (f1454421 : Nat → va_E) (y1454425 : Int32) (y1454427 : Int64) (m1454422 : oI (f1454421 a1453424) 0 = y1453427) (m1454423 : oR (f1454421 a1453424) 1 = a1454406) (m1454424 : oR (f1454421 h0) 4 = a1453424) (b1454426 : (0 : Int) ≤ y1454425.toInt ∧ y1454425.toInt ≤ 0) (hm : (1 : Int) ≤ n) (H : Heap) (locs : List Loc) (ls : Array Slot), WS G cI cJ cZ cD cR cT A kp L f1454421 s H locs → FM kp L ms_X0_drawOf f0 f1454421 → lv_has ls 9 [(6, .int y1454425), (5, .null), (4, .int y1453420), (2, .long y1454427), (0, .ref h0), (1, .int u1)] → W p l e ({ frames := 4, cells := 0, slots := 0, locals := 117 }) s m ([.ref h0, .int u1] : List Value).toArray below meth c H locs 0 0 (MQ below (QT (po_X0_drawOf kp L f0 h0 u1) G cI cJ cZ cD cR cT A kp L) ([.ref h0, .int u1] : List Value).toArray s 0 0 A) (F0 m 32 ls []) := by
            intro n
            induction n with
            | zero =>
              intro f1454421 y1454425 y1454427 m1454422 m1454423 m1454424 b1454426 hm H locs ls hW hF hl
              exfalso; omega
            | succ n ih =>
              intro f1454421 y1454425 y1454427 m1454422 m1454423 m1454424 b1454426 hm H locs ls hW hF hl
              have ih32 := ih
              refine lv_aloadN hx hb dX0_drawOf_32 (lv_at hl 1 rfl) ?_
              refine lv_ifnullN (tgt := 111) hx hb dX0_drawOf_34 (by decide) ?_
              refine q_iinc hx hb dX0_drawOf_111 hl (k := 2) rfl rfl rfl (by omega) (by decide) (fun i1454429 ls h1454430 hl => ?_)
              have hl : lv_has ls 9 [(4, .int i1454429), (6, .int y1454425), (5, .null), (2, .long y1454427), (0, .ref h0), (1, .int u1)] := hl
              refine lv_goto (tgt := 5) hx hb dX0_drawOf_114 (by decide) ?_
              exact ih5 f1454421 i1454429 y1454427 (by omega) (by omega) _ _ _ hW hF (lv_sub hl [0, 3, 4, 5] rfl)
          have hk1454431 : (0 : Int32).toInt = 0 := rfl
          exact L1454428 1 f1453419 0 y1453422 m1453428 m1454407 m1454404 (by decide) (by omega) _ _ _ hW hF (lv_sub hl [0, 1, 2, 3, 4, 5] rfl)
        · have r1454413 : RK kp L a1454412 9 := k1454410 _ rfl
          have hl : lv_has ls 9 [(4, .int y1453420), (2, .long y1453422), (0, .ref h0), (1, .int u1)] := hl
          show W p l e ({ frames := 4, cells := 0, slots := 0, locals := 117 }) s m ([.ref h0, .int u1] : List Value).toArray below meth c _ _ 0 0 (MQ below (QT (po_X0_drawOf kp L f0 h0 u1) G cI cJ cZ cD cR cT A kp L) ([.ref h0, .int u1] : List Value).toArray s 0 0 A) (F0 m 27 ls [.ref a1454412])
          refine lv_astore (lv' := [(5, .ref a1454412), (4, .int y1453420), (2, .long y1453422), (0, .ref h0), (1, .int u1)]) hx hb dX0_drawOf_27 hl (by decide) rfl (fun ls hl => ?_)
          refine lv_iconst (v := 0) hx hb dX0_drawOf_29 (by decide) ?_
          refine lv_istore (lv' := [(6, .int 0), (5, .ref a1454412), (4, .int y1453420), (2, .long y1453422), (0, .ref h0), (1, .int u1)]) hx hb dX0_drawOf_30 hl (by decide) rfl (fun ls hl => ?_)
          have L1455255 : ∀ (n : Nat), ∀ (f1455248 : Nat → va_E) (y1455252 : Int32) (y1455254 : Int64) (m1455249 : oI (f1455248 a1453424) 0 = y1453427) (m1455250 : oR (f1455248 a1453424) 1 = a1454406) (m1455251 : oR (f1455248 h0) 4 = a1453424) (b1455253 : (0 : Int) ≤ y1455252.toInt ∧ y1455252.toInt ≤ 12) (hm : (13 : Int) - y1455252.toInt ≤ n) (H : Heap) (locs : List Loc) (ls : Array Slot), WS G cI cJ cZ cD cR cT A kp L f1455248 s H locs → FM kp L ms_X0_drawOf f0 f1455248 → lv_has ls 9 [(6, .int y1455252), (5, .ref a1454412), (4, .int y1453420), (2, .long y1455254), (0, .ref h0), (1, .int u1)] → W p l e ({ frames := 4, cells := 0, slots := 0, locals := 117 }) s m ([.ref h0, .int u1] : List Value).toArray below meth c H locs 0 0 (MQ below (QT (po_X0_drawOf kp L f0 h0 u1) G cI cJ cZ cD cR cT A kp L) ([.ref h0, .int u1] : List Value).toArray s 0 0 A) (F0 m 32 ls []) := by
            intro n
            induction n with
            | zero =>
              intro f1455248 y1455252 y1455254 m1455249 m1455250 m1455251 b1455253 hm H locs ls hW hF hl
              have hz := i32_b y1455252
              exfalso; omega
            | succ n ih =>
              intro f1455248 y1455252 y1455254 m1455249 m1455250 m1455251 b1455253 hm H locs ls hW hF hl
              have ih32 := ih
              refine lv_aload hx hb dX0_drawOf_32 (lv_at hl 1 rfl) ?_
              refine lv_ifnull hx hb dX0_drawOf_34 ?_
              refine lv_iload hx hb dX0_drawOf_37 (lv_at hl 0 rfl) ?_
              refine lv_aload hx hb dX0_drawOf_39 (lv_at hl 1 rfl) ?_
              refine fg_RX0_291 E hW r1454413 dX0_drawOf_41 (fun y1455256 m1455257 b1455258 => ?_)
              refine q_icmp_ge (tgt := 111) hx hb dX0_drawOf_44 (by decide) rfl rfl (fun c1455316 => ?_) (fun c1455316 => ?_)
              · refine q_iinc hx hb dX0_drawOf_111 hl (k := 2) rfl rfl rfl (by omega) (by decide) (fun i1455317 ls h1455318 hl => ?_)
                have hl : lv_has ls 9 [(4, .int i1455317), (6, .int y1455252), (5, .ref a1454412), (2, .long y1455254), (0, .ref h0), (1, .int u1)] := hl
                refine lv_goto (tgt := 5) hx hb dX0_drawOf_114 (by decide) ?_
                exact ih5 f1455248 i1455317 y1455254 (by omega) (by omega) _ _ _ hW hF (lv_sub hl [0, 3, 4, 5] rfl)
              · refine lv_aload hx hb dX0_drawOf_47 (lv_at hl 1 rfl) ?_
                refine fg_RX0_296 E hW r1454413 dX0_drawOf_49 (fun a1455319 m1455320 r1455321 => ?_)
                refine lv_iload hx hb dX0_drawOf_52 (lv_at hl 0 rfl) ?_
                refine gl_643 E hW r1455321 ⟨by omega, by omega⟩ dX0_drawOf_54 (fun y1455322 m1455323 => ?_)
                refine lv_sipush (v := 261) hx hb dX0_drawOf_55 (by decide) ?_
                have J1455352 : ∀ (f1455345 : Nat → va_E) (y1455351 : Int64) (m1455346 : oI (f1455345 a1453424) 0 = y1453427) (m1455347 : oR (f1455345 a1453424) 1 = a1454406) (m1455348 : oI (f1455345 a1454412) 1 = y1455256) (m1455349 : oR (f1455345 a1454412) 3 = a1455319) (m1455350 : oR (f1455345 h0) 4 = a1453424) (H : Heap) (locs : List Loc) (ls : Array Slot), WS G cI cJ cZ cD cR cT A kp L f1455345 s H locs → FM kp L ms_X0_drawOf f0 f1455345 → lv_has ls 9 [(6, .int y1455252), (5, .ref a1454412), (4, .int y1453420), (2, .long y1455351), (0, .ref h0), (1, .int u1)] → W p l e ({ frames := 4, cells := 0, slots := 0, locals := 117 }) s m ([.ref h0, .int u1] : List Value).toArray below meth c H locs 0 0 (MQ below (QT (po_X0_drawOf kp L f0 h0 u1) G cI cJ cZ cD cR cT A kp L) ([.ref h0, .int u1] : List Value).toArray s 0 0 A) (F0 m 105 ls []) := by
                  intro f1455345 y1455351 m1455346 m1455347 m1455348 m1455349 m1455350 H locs ls hW hF hl
                  refine q_iinc hx hb dX0_drawOf_105 hl (k := 0) rfl rfl rfl (by omega) (by decide) (fun i1455353 ls h1455354 hl => ?_)
                  have hl : lv_has ls 9 [(6, .int i1455353), (5, .ref a1454412), (4, .int y1453420), (2, .long y1455351), (0, .ref h0), (1, .int u1)] := hl
                  refine lv_goto (tgt := 32) hx hb dX0_drawOf_108 (by decide) ?_
                  exact ih32 f1455345 i1455353 y1455351 m1455346 m1455347 m1455350 (by omega) (by omega) _ _ _ hW hF (lv_sub hl [0, 1, 2, 3, 4, 5] rfl)
                refine q_icmp_ne (Y := 261) (tgt := 105) hx hb dX0_drawOf_58 (by decide) rfl rfl (fun c1455355 => ?_) (fun c1455355 => ?_)
                · exact J1455352 f1455248 y1455254 m1455249 m1455250 m1455257 m1455320 m1455251 _ _ _ hW hF (lv_sub hl [0, 1, 2, 3, 4, 5] rfl)
                · refine lv_aload_n hx hb dX0_drawOf_61 rfl (lv_at hl 4 rfl) ?_
                  refine fg_RX0_42 E hW rh0 dX0_drawOf_62 (fun a1455356 m1455357 r1455358 => ?_)
                  obtain rfl : a1453424 = a1455356 := (m1455251).symm.trans m1455357
                  refine lv_iload hx hb dX0_drawOf_65 (lv_at hl 2 rfl) ?_
                  refine lv_iload hx hb dX0_drawOf_67 (lv_at hl 0 rfl) ?_
                  refine t_callV (As := [.int y1453420, .int y1455252]) (rest := []) E hW (c_X2_isInForce l G cI cJ cZ cD cR cT kp L f1455248 hW.2.2.2 _ a1453424 y1453420 y1455252 r1453426 (by omega) (by omega)) r1453426 (by decide) rfl wk_X2_isInForce tw_716 rfl ⟨Nat.le_of_ble_eq_true rfl, Nat.le_of_ble_eq_true rfl⟩ ⟨rfl, rfl⟩ hl.1 rfl (Nat.le_of_ble_eq_true rfl) dX0_drawOf_69 ⟨Nat.le_of_ble_eq_true rfl, Nat.le_of_ble_eq_true rfl⟩ (fun v1455359 f1455360 H locs q1455361 hW => ?_)
                  obtain ⟨⟨x1455363, rfl, p1455364⟩, g1455362⟩ := q1455361
                  have hF := FM.tr hF g1455362 rfl
                  refine q_if_eq (tgt := 105) hx hb dX0_drawOf_72 (by decide) rfl (fun c1455365 => ?_) (fun c1455365 => ?_)
                  · exact J1455352 f1455360 y1455254 ((fm_I g1455362 r1453426 rfl).trans m1455249) ((fm_R g1455362 r1453426 rfl).trans m1455250) ((fm_I g1455362 r1454413 rfl).trans m1455257) ((fm_R g1455362 r1454413 rfl).trans m1455320) ((fm_R g1455362 rh0 rfl).trans m1455357) _ _ _ hW hF (lv_sub hl [0, 1, 2, 3, 4, 5] rfl)
                  · refine lv_aload_n hx hb dX0_drawOf_75 rfl (lv_at hl 4 rfl) ?_
                    refine lv_aload hx hb dX0_drawOf_76 (lv_at hl 1 rfl) ?_
                    refine lv_iload hx hb dX0_drawOf_78 (lv_at hl 0 rfl) ?_
                    refine lv_iload_n hx hb dX0_drawOf_80 rfl (lv_at hl 5 rfl) ?_
                    refine lv_iconst (v := (-1)) hx hb dX0_drawOf_81 (by decide) ?_
                    refine t_callV (As := [.ref a1454412, .int y1455252, .int u1, .int (-1)]) (rest := []) E hW (c_X0_ask l G cI cJ cZ cD cR cT kp L f1455360 hW.2.2.2 _ h0 a1454412 y1455252 u1 (-1) rh0 r1454413 (by omega) (by omega) (by decide) (by rw [((fm_I g1455362 r1454413 rfl).trans m1455257)]; omega)) rh0 (by decide) rfl wk_X0_ask tw_717 rfl ⟨Nat.le_of_ble_eq_true rfl, Nat.le_of_ble_eq_true rfl⟩ ⟨rfl, rfl⟩ hl.1 rfl (Nat.le_of_ble_eq_true rfl) dX0_drawOf_82 ⟨Nat.le_of_ble_eq_true rfl, Nat.le_of_ble_eq_true rfl⟩ (fun v1455366 f1455367 H locs q1455368 hW => ?_)
                    obtain ⟨⟨x1455370, rfl, p1455371⟩, g1455369⟩ := q1455368
                    clear p1455371
                    have hF := FM.tr hF g1455369 rfl
                    refine lv_lstore (lv' := [(7, .long x1455370), (6, .int y1455252), (5, .ref a1454412), (4, .int y1453420), (2, .long y1455254), (0, .ref h0), (1, .int u1)]) hx hb dX0_drawOf_85 hl (by decide) rfl (fun ls hl => ?_)
                    refine lv_lload_n hx hb dX0_drawOf_87 rfl (lv_at hl 4 rfl) ?_
                    refine lv_lload hx hb dX0_drawOf_88 (lv_at hl 0 rfl) ?_
                    refine lv_ldc2 (v := (-4000000000000000000)) hx hb hown (hts _ tw_721) dX0_drawOf_90 ?_
                    have J1455373 : ∀ (y1455372 : Int64) (H : Heap) (locs : List Loc) (ls : Array Slot), WS G cI cJ cZ cD cR cT A kp L f1455367 s H locs → FM kp L ms_X0_drawOf f0 f1455367 → lv_has ls 9 [(7, .long x1455370), (6, .int y1455252), (5, .ref a1454412), (4, .int y1453420), (2, .long y1455254), (0, .ref h0), (1, .int u1)] → W p l e ({ frames := 4, cells := 0, slots := 0, locals := 117 }) s m ([.ref h0, .int u1] : List Value).toArray below meth c H locs 0 0 (MQ below (QT (po_X0_drawOf kp L f0 h0 u1) G cI cJ cZ cD cR cT A kp L) ([.ref h0, .int u1] : List Value).toArray s 0 0 A) (F0 m 103 ls [.long y1455372, .long y1455254]) := by
                      intro y1455372 H locs ls hW hF hl
                      clear p1455364 c1455365
                      refine u_ladd hx hb dX0_drawOf_103 (fun x1455374 => ?_)
                      refine lv_lstore_n (lv' := [(2, .long x1455374), (7, .long x1455370), (6, .int y1455252), (5, .ref a1454412), (4, .int y1453420), (0, .ref h0), (1, .int u1)]) hx hb dX0_drawOf_104 rfl hl (by decide) rfl (fun ls hl => ?_)
                      exact J1455352 f1455367 x1455374 ((fm_I g1455369 r1453426 rfl).trans ((fm_I g1455362 r1453426 rfl).trans m1455249)) ((fm_R g1455369 r1453426 rfl).trans ((fm_R g1455362 r1453426 rfl).trans m1455250)) ((fm_I g1455369 r1454413 rfl).trans ((fm_I g1455362 r1454413 rfl).trans m1455257)) ((fm_R g1455369 r1454413 rfl).trans ((fm_R g1455362 r1454413 rfl).trans m1455320)) ((fm_R g1455369 rh0 rfl).trans ((fm_R g1455362 rh0 rfl).trans m1455357)) _ _ _ hW hF (lv_sub hl [2, 3, 4, 0, 5, 6] rfl)
                    refine q_lcmp_ne (Y := -4000000000000000000) (tgt := 101) hx hb dX0_drawOf_93 dX0_drawOf_94 (by decide) rfl rfl (fun c1455375 => ?_) (fun c1455375 => ?_)
                    · refine lv_lload hx hb dX0_drawOf_101 (lv_at hl 0 rfl) ?_
                      exact J1455373 x1455370  _ _ _ hW hF (lv_sub hl [0, 1, 2, 3, 4, 5, 6] rfl)
                    · refine lv_lconst (v := 0) hx hb dX0_drawOf_97 (by decide) ?_
                      refine lv_goto (tgt := 103) hx hb dX0_drawOf_98 (by decide) ?_
                      exact J1455373 0  _ _ _ hW hF (lv_sub hl [0, 1, 2, 3, 4, 5, 6] rfl)
          have hk1455376 : (0 : Int32).toInt = 0 := rfl
          exact L1455255 13 f1453419 0 y1453422 m1453428 m1454407 m1454404 (by decide) (by omega) _ _ _ hW hF (lv_sub hl [0, 1, 2, 3, 4, 5] rfl)
  have hk1455377 : (0 : Int32).toInt = 0 := rfl
  have hk1455378 : (0 : Int64).toInt = 0 := rfl
  exact L1453423 21 f0 0 0 (by decide) (by omega) _ _ _ hW hF (lv_sub hl [0, 1, 2, 3] rfl)
def ms_X0_falls : List (Nat × Nat) := []
def po_X0_falls (kp : Nat → Nat) (L : List Nat) (f0 : Nat → va_E) (u1 : Int64) (u2 : Int64) (u3 : Int64) (u4 : Int32) : Option Value → (Nat → va_E) → Prop := fun v f => (∃ r : Int32, v = some (.int r) ∧ ((0 : Int) ≤ r.toInt ∧ r.toInt ≤ 1)) ∧ FM kp L ms_X0_falls f0 f
set_option maxHeartbeats 4000000 in
set_option maxRecDepth 100000 in
theorem c_X0_falls (l : Launch) (G : va_G) (cI cJ cZ cD cR cT : ClassId) (kp : Nat → Nat) (L : List Nat) (f0 : Nat → va_E) (hTH : TH cI cJ cZ cD cR cT kp L f0) (sz : Nat) (u1 : Int64) (u2 : Int64) (u3 : Int64) (u4 : Int32) (pu4 : (-29 : Int) ≤ u4.toInt ∧ u4.toInt ≤ 38) : Met l yX0_falls (Cond.code yX0_falls cX0_falls 10 (some .boolean) :: wTab) ({ frames := 1, cells := 0, slots := 0, locals := 40 }) (va_Pc [.long u1, .long u2, .long u3, .int u4] (PreW G (tys6 cI cJ cZ cD cR cT) (va_pl L f0) sz)) (QT (po_X0_falls kp L f0 u1 u2 u3 u4) G cI cJ cZ cD cR cT (va_A (va_pl L f0) sz) kp L) 0 0 (va_A (va_pl L f0) sz) := by
  refine metT (by decide) (Nat.le_of_ble_eq_true rfl) hTH ?_
  intro p e s m below meth c A ls E hW hl
  obtain ⟨hx, hb, -, hml, hown, hts, -, -, -⟩ := id E
  have hF : FM kp L ms_X0_falls f0 f0 := FM.rf
  have hl : lv_has ls 10 [(0, .long u1), (2, .long u2), (4, .long u3), (6, .int u4)] := hl
  refine lv_lload_n hx hb dX0_falls_0 rfl (lv_at hl 0 rfl) ?_
  refine lv_lstore (lv' := [(7, .long u1), (0, .long u1), (2, .long u2), (4, .long u3), (6, .int u4)]) hx hb dX0_falls_1 hl (by decide) rfl (fun ls hl => ?_)
  refine lv_iconst (v := 0) hx hb dX0_falls_3 (by decide) ?_
  refine lv_istore (lv' := [(9, .int 0), (7, .long u1), (0, .long u1), (2, .long u2), (4, .long u3), (6, .int u4)]) hx hb dX0_falls_4 hl (by decide) rfl (fun ls hl => ?_)
  have L1455544 : ∀ (n : Nat), ∀ (y1455541 : Int32) (y1455543 : Int64) (b1455542 : (0 : Int) ≤ y1455541.toInt ∧ y1455541.toInt ≤ 39) (hm : (40 : Int) - y1455541.toInt ≤ n) (H : Heap) (locs : List Loc) (ls : Array Slot), WS G cI cJ cZ cD cR cT A kp L f0 s H locs → FM kp L ms_X0_falls f0 f0 → lv_has ls 10 [(9, .int y1455541), (7, .long y1455543), (0, .long u1), (2, .long u2), (4, .long u3), (6, .int u4)] → W p l e ({ frames := 1, cells := 0, slots := 0, locals := 40 }) s m ([.long u1, .long u2, .long u3, .int u4] : List Value).toArray below meth c H locs 0 0 (MQ below (QT (po_X0_falls kp L f0 u1 u2 u3 u4) G cI cJ cZ cD cR cT A kp L) ([.long u1, .long u2, .long u3, .int u4] : List Value).toArray s 0 0 A) (F0 m 6 ls []) := by
    intro n
    induction n with
    | zero =>
      intro y1455541 y1455543 b1455542 hm H locs ls hW hF hl
      have hz := i32_b y1455541
      exfalso; omega
    | succ n ih =>
      intro y1455541 y1455543 b1455542 hm H locs ls hW hF hl
      have ih6 := ih
      refine lv_iload hx hb dX0_falls_6 (lv_at hl 0 rfl) ?_
      refine lv_iload hx hb dX0_falls_8 (lv_at hl 5 rfl) ?_
      refine q_icmp_ge (tgt := 37) hx hb dX0_falls_10 (by decide) rfl rfl (fun c1455545 => ?_) (fun c1455545 => ?_)
      · refine lv_iconst (v := 0) hx hb dX0_falls_37 (by decide) ?_
        exact e_Z E hW rfl (by decide) ⟨⟨_, rfl, (by have hk : (0 : Int32).toInt = 0 := rfl; first | decide | omega)⟩, hF⟩ dX0_falls_38
      · refine lv_lload hx hb dX0_falls_13 (lv_at hl 1 rfl) ?_
        refine lv_lload_n hx hb dX0_falls_15 rfl (lv_at hl 3 rfl) ?_
        refine lv_lload hx hb dX0_falls_16 (lv_at hl 4 rfl) ?_
        refine u_lsub hx hb dX0_falls_18 (fun x1455546 => ?_)
        refine u_ladd hx hb dX0_falls_19 (fun x1455547 => ?_)
        refine lv_lstore (lv' := [(7, .long x1455547), (9, .int y1455541), (0, .long u1), (2, .long u2), (4, .long u3), (6, .int u4)]) hx hb dX0_falls_20 hl (by decide) rfl (fun ls hl => ?_)
        refine lv_lload hx hb dX0_falls_22 (lv_at hl 0 rfl) ?_
        refine lv_lconst (v := 0) hx hb dX0_falls_24 (by decide) ?_
        refine q_lcmp_ge (Y := 0) (tgt := 31) hx hb dX0_falls_25 dX0_falls_26 (by decide) rfl rfl (fun c1455548 => ?_) (fun c1455548 => ?_)
        · refine q_iinc hx hb dX0_falls_31 hl (k := 1) rfl rfl rfl (by omega) (by decide) (fun i1455549 ls h1455550 hl => ?_)
          have hl : lv_has ls 10 [(9, .int i1455549), (7, .long x1455547), (0, .long u1), (2, .long u2), (4, .long u3), (6, .int u4)] := hl
          refine lv_goto (tgt := 6) hx hb dX0_falls_34 (by decide) ?_
          exact ih6 i1455549 x1455547 (by omega) (by omega) _ _ _ hW hF (lv_sub hl [0, 1, 2, 3, 4, 5] rfl)
        · refine lv_iconst (v := 1) hx hb dX0_falls_29 (by decide) ?_
          exact e_Z E hW rfl (by decide) ⟨⟨_, rfl, (by have hk : (1 : Int32).toInt = 1 := rfl; first | decide | omega)⟩, hF⟩ dX0_falls_30
  have hk1455551 : (0 : Int32).toInt = 0 := rfl
  exact L1455544 40 0 u1 (by decide) (by omega) _ _ _ hW hF (lv_sub hl [0, 1, 2, 3, 4, 5] rfl)
def ms_X0_takeMostSpared : List (Nat × Nat) := [(116, 0)]
def po_X0_takeMostSpared (kp : Nat → Nat) (L : List Nat) (f0 : Nat → va_E) (h0 : Nat) (u1 : Int32) : Option Value → (Nat → va_E) → Prop := fun v f => (∃ r : Int32, v = some (.int r) ∧ ((0 : Int) ≤ r.toInt)) ∧ FM kp L ms_X0_takeMostSpared f0 f
set_option maxHeartbeats 4000000 in
set_option maxRecDepth 100000 in
theorem c_X0_takeMostSpared (l : Launch) (G : va_G) (cI cJ cZ cD cR cT : ClassId) (kp : Nat → Nat) (L : List Nat) (f0 : Nat → va_E) (hTH : TH cI cJ cZ cD cR cT kp L f0) (sz : Nat) (h0 : Nat) (u1 : Int32) (rh0 : RK kp L h0 0) (pu1 : (0 : Int) ≤ u1.toInt ∧ u1.toInt ≤ 40) : Met l yX0_takeMostSpared (Cond.code yX0_takeMostSpared cX0_takeMostSpared 5 (some .int) :: wTab) ({ frames := 1, cells := 0, slots := 0, locals := 40 }) (va_Pc [.ref h0, .int u1] (PreW G (tys6 cI cJ cZ cD cR cT) (va_pl L f0) sz)) (QT (po_X0_takeMostSpared kp L f0 h0 u1) G cI cJ cZ cD cR cT (va_A (va_pl L f0) sz) kp L) 0 0 (va_A (va_pl L f0) sz) := by
  refine metT (by decide) (Nat.le_of_ble_eq_true rfl) hTH ?_
  intro p e s m below meth c A ls E hW hl
  obtain ⟨hx, hb, -, hml, hown, hts, -, -, -⟩ := id E
  have hF : FM kp L ms_X0_takeMostSpared f0 f0 := FM.rf
  have hl : lv_has ls 5 [(0, .ref h0), (1, .int u1)] := hl
  refine lv_iconst (v := 0) hx hb dX0_takeMostSpared_0 (by decide) ?_
  refine lv_istore_n (lv' := [(2, .int 0), (0, .ref h0), (1, .int u1)]) hx hb dX0_takeMostSpared_1 rfl hl (by decide) rfl (fun ls hl => ?_)
  refine lv_iconst (v := 0) hx hb dX0_takeMostSpared_2 (by decide) ?_
  refine lv_istore_n (lv' := [(3, .int 0), (2, .int 0), (0, .ref h0), (1, .int u1)]) hx hb dX0_takeMostSpared_3 rfl hl (by decide) rfl (fun ls hl => ?_)
  refine lv_iconst (v := 0) hx hb dX0_takeMostSpared_4 (by decide) ?_
  refine lv_istore (lv' := [(4, .int 0), (3, .int 0), (2, .int 0), (0, .ref h0), (1, .int u1)]) hx hb dX0_takeMostSpared_5 hl (by decide) rfl (fun ls hl => ?_)
  have L1456203 : ∀ (n : Nat), ∀ (y1456197 : Int32) (y1456199 : Int32) (y1456201 : Int32) (b1456198 : (0 : Int) ≤ y1456197.toInt ∧ y1456197.toInt ≤ 40) (b1456200 : (0 : Int) ≤ y1456199.toInt ∧ y1456199.toInt ≤ 39) (b1456202 : (0 : Int) ≤ y1456201.toInt) (hm : (41 : Int) - y1456197.toInt ≤ n) (H : Heap) (locs : List Loc) (ls : Array Slot), WS G cI cJ cZ cD cR cT A kp L f0 s H locs → FM kp L ms_X0_takeMostSpared f0 f0 → lv_has ls 5 [(4, .int y1456197), (3, .int y1456199), (2, .int y1456201), (0, .ref h0), (1, .int u1)] → W p l e ({ frames := 1, cells := 0, slots := 0, locals := 40 }) s m ([.ref h0, .int u1] : List Value).toArray below meth c H locs 0 0 (MQ below (QT (po_X0_takeMostSpared kp L f0 h0 u1) G cI cJ cZ cD cR cT A kp L) ([.ref h0, .int u1] : List Value).toArray s 0 0 A) (F0 m 7 ls []) := by
    intro n
    induction n with
    | zero =>
      intro y1456197 y1456199 y1456201 b1456198 b1456200 b1456202 hm H locs ls hW hF hl
      have hz := i32_b y1456197
      exfalso; omega
    | succ n ih =>
      intro y1456197 y1456199 y1456201 b1456198 b1456200 b1456202 hm H locs ls hW hF hl
      have ih7 := ih
      refine lv_iload hx hb dX0_takeMostSpared_7 (lv_at hl 0 rfl) ?_
      refine lv_iload_n hx hb dX0_takeMostSpared_9 rfl (lv_at hl 4 rfl) ?_
      refine q_icmp_ge (tgt := 41) hx hb dX0_takeMostSpared_10 (by decide) rfl rfl (fun c1456231 => ?_) (fun c1456231 => ?_)
      · refine lv_aload_n hx hb dX0_takeMostSpared_41 rfl (lv_at hl 3 rfl) ?_
        refine fg_RX0_61 E hW rh0 dX0_takeMostSpared_42 (fun a1456232 m1456233 r1456234 => ?_)
        refine lv_iload_n hx hb dX0_takeMostSpared_45 rfl (lv_at hl 1 rfl) ?_
        refine lv_iconst (v := 0) hx hb dX0_takeMostSpared_46 (by decide) ?_
        refine gs_116 E hW r1456234 ⟨by omega, by omega⟩ dX0_takeMostSpared_47 (fun f1456235 H locs e1456236 n1456237 g1456238 hW => ?_)
        have hF := FM.tr hF g1456238 rfl
        refine lv_iload_n hx hb dX0_takeMostSpared_48 rfl (lv_at hl 2 rfl) ?_
        exact e_I E hW rfl ⟨⟨_, rfl, (by first | omega | trivial)⟩, hF⟩ dX0_takeMostSpared_49
      · refine lv_aload_n hx hb dX0_takeMostSpared_13 rfl (lv_at hl 3 rfl) ?_
        refine fg_RX0_61 E hW rh0 dX0_takeMostSpared_14 (fun a1456239 m1456240 r1456241 => ?_)
        refine lv_iload hx hb dX0_takeMostSpared_17 (lv_at hl 0 rfl) ?_
        refine gl_116 E hW r1456241 ⟨by omega, by omega⟩ dX0_takeMostSpared_19 (fun y1456242 m1456243 => ?_)
        refine lv_iload_n hx hb dX0_takeMostSpared_20 rfl (lv_at hl 2 rfl) ?_
        have J1456255 : ∀ (y1456251 : Int32) (y1456253 : Int32) (b1456252 : (0 : Int) ≤ y1456251.toInt ∧ y1456251.toInt ≤ 39) (b1456254 : (0 : Int) ≤ y1456253.toInt) (H : Heap) (locs : List Loc) (ls : Array Slot), WS G cI cJ cZ cD cR cT A kp L f0 s H locs → FM kp L ms_X0_takeMostSpared f0 f0 → lv_has ls 5 [(4, .int y1456197), (3, .int y1456251), (2, .int y1456253), (0, .ref h0), (1, .int u1)] → W p l e ({ frames := 1, cells := 0, slots := 0, locals := 40 }) s m ([.ref h0, .int u1] : List Value).toArray below meth c H locs 0 0 (MQ below (QT (po_X0_takeMostSpared kp L f0 h0 u1) G cI cJ cZ cD cR cT A kp L) ([.ref h0, .int u1] : List Value).toArray s 0 0 A) (F0 m 35 ls []) := by
          intro y1456251 y1456253 b1456252 b1456254 H locs ls hW hF hl
          clear b1456200 b1456202
          refine q_iinc hx hb dX0_takeMostSpared_35 hl (k := 0) rfl rfl rfl (by omega) (by decide) (fun i1456256 ls h1456257 hl => ?_)
          have hl : lv_has ls 5 [(4, .int i1456256), (3, .int y1456251), (2, .int y1456253), (0, .ref h0), (1, .int u1)] := hl
          refine lv_goto (tgt := 7) hx hb dX0_takeMostSpared_38 (by decide) ?_
          exact ih7 i1456256 y1456251 y1456253 (by omega) (by omega) (by omega) (by omega) _ _ _ hW hF (lv_sub hl [0, 1, 2, 3, 4] rfl)
        refine q_icmp_le (tgt := 35) hx hb dX0_takeMostSpared_21 (by decide) rfl rfl (fun c1456258 => ?_) (fun c1456258 => ?_)
        · exact J1456255 y1456199 y1456201 (by omega) (by omega) _ _ _ hW hF (lv_sub hl [0, 1, 2, 3, 4] rfl)
        · have hb1456259 : y1456201.toInt ≤ 2147483646 := by have := i32_b y1456242; omega
          refine lv_aload_n hx hb dX0_takeMostSpared_24 rfl (lv_at hl 3 rfl) ?_
          refine fg_RX0_61 E hW rh0 dX0_takeMostSpared_25 (fun a1456260 m1456261 r1456262 => ?_)
          obtain rfl : a1456239 = a1456260 := (m1456240).symm.trans m1456261
          refine lv_iload hx hb dX0_takeMostSpared_28 (lv_at hl 0 rfl) ?_
          refine gl_116 E hW r1456241 ⟨by omega, by omega⟩ dX0_takeMostSpared_30 (fun y1456263 m1456264 => ?_)
          obtain rfl : y1456242 = y1456263 := (m1456243).symm.trans m1456264
          refine lv_istore_n (lv' := [(2, .int y1456242), (4, .int y1456197), (3, .int y1456199), (0, .ref h0), (1, .int u1)]) hx hb dX0_takeMostSpared_31 rfl hl (by decide) rfl (fun ls hl => ?_)
          refine lv_iload hx hb dX0_takeMostSpared_32 (lv_at hl 1 rfl) ?_
          refine lv_istore_n (lv' := [(3, .int y1456197), (2, .int y1456242), (4, .int y1456197), (0, .ref h0), (1, .int u1)]) hx hb dX0_takeMostSpared_34 rfl hl (by decide) rfl (fun ls hl => ?_)
          exact J1456255 y1456197 y1456242 (by omega) (by omega) _ _ _ hW hF (lv_sub hl [2, 0, 1, 3, 4] rfl)
  have hk1456266 : (0 : Int32).toInt = 0 := rfl
  have hk1456267 : (0 : Int32).toInt = 0 := rfl
  have hk1456268 : (0 : Int32).toInt = 0 := rfl
  exact L1456203 41 0 0 0 (by decide) (by decide) (by decide) (by omega) _ _ _ hW hF (lv_sub hl [0, 1, 2, 3, 4] rfl)
def ms_X0_fewestKept : List (Nat × Nat) := [(115, 0), (116, 0)]
def po_X0_fewestKept (kp : Nat → Nat) (L : List Nat) (f0 : Nat → va_E) (h0 : Nat) (u1 : Int32) (u2 : Int32) : Option Value → (Nat → va_E) → Prop := fun v f => (∃ r : Int32, v = some (.int r) ∧ ((-1 : Int) ≤ r.toInt ∧ r.toInt ≤ 40)) ∧ FM kp L ms_X0_fewestKept f0 f
set_option maxHeartbeats 4000000 in
set_option maxRecDepth 100000 in
theorem c_X0_fewestKept (l : Launch) (G : va_G) (cI cJ cZ cD cR cT : ClassId) (kp : Nat → Nat) (L : List Nat) (f0 : Nat → va_E) (hTH : TH cI cJ cZ cD cR cT kp L f0) (sz : Nat) (h0 : Nat) (u1 : Int32) (u2 : Int32) (rh0 : RK kp L h0 0) (pu1 : (0 : Int) ≤ u1.toInt ∧ u1.toInt ≤ 7) (pu2 : (-29 : Int) ≤ u2.toInt ∧ u2.toInt ≤ 38) : Met l yX0_fewestKept (Cond.code yX0_fewestKept cX0_fewestKept 7 (some .int) :: wTab) ({ frames := 5, cells := 0, slots := 0, locals := 144 }) (va_Pc [.ref h0, .int u1, .int u2] (PreW G (tys6 cI cJ cZ cD cR cT) (va_pl L f0) sz)) (QT (po_X0_fewestKept kp L f0 h0 u1 u2) G cI cJ cZ cD cR cT (va_A (va_pl L f0) sz) kp L) 0 0 (va_A (va_pl L f0) sz) := by
  refine metT (by decide) (Nat.le_of_ble_eq_true rfl) hTH ?_
  intro p e s m below meth c A ls E hW hl
  obtain ⟨hx, hb, -, hml, hown, hts, -, -, -⟩ := id E
  have hF : FM kp L ms_X0_fewestKept f0 f0 := FM.rf
  have hl : lv_has ls 7 [(0, .ref h0), (1, .int u1), (2, .int u2)] := hl
  refine lv_lconst (v := 0) hx hb dX0_fewestKept_0 (by decide) ?_
  refine lv_lstore_n (lv' := [(3, .long 0), (0, .ref h0), (1, .int u1), (2, .int u2)]) hx hb dX0_fewestKept_1 rfl hl (by decide) rfl (fun ls hl => ?_)
  refine lv_iconst (v := 0) hx hb dX0_fewestKept_2 (by decide) ?_
  refine lv_istore (lv' := [(5, .int 0), (3, .long 0), (0, .ref h0), (1, .int u1), (2, .int u2)]) hx hb dX0_fewestKept_3 hl (by decide) rfl (fun ls hl => ?_)
  refine lv_iconst (v := 0) hx hb dX0_fewestKept_5 (by decide) ?_
  refine lv_istore (lv' := [(6, .int 0), (5, .int 0), (3, .long 0), (0, .ref h0), (1, .int u1), (2, .int u2)]) hx hb dX0_fewestKept_6 hl (by decide) rfl (fun ls hl => ?_)
  have L1459029 : ∀ (n : Nat), ∀ (f1459022 : Nat → va_E) (y1459023 : Int32) (y1459025 : Int32) (y1459027 : Int64) (b1459024 : (0 : Int) ≤ y1459023.toInt ∧ y1459023.toInt ≤ 40) (b1459026 : (0 : Int) ≤ y1459025.toInt ∧ y1459025.toInt ≤ 41) (v1459028 : y1459025.toInt ≤ y1459023.toInt) (hm : (41 : Int) - y1459023.toInt ≤ n) (H : Heap) (locs : List Loc) (ls : Array Slot), WS G cI cJ cZ cD cR cT A kp L f1459022 s H locs → FM kp L ms_X0_fewestKept f0 f1459022 → lv_has ls 7 [(6, .int y1459023), (5, .int y1459025), (3, .long y1459027), (0, .ref h0), (1, .int u1), (2, .int u2)] → W p l e ({ frames := 5, cells := 0, slots := 0, locals := 144 }) s m ([.ref h0, .int u1, .int u2] : List Value).toArray below meth c H locs 0 0 (MQ below (QT (po_X0_fewestKept kp L f0 h0 u1 u2) G cI cJ cZ cD cR cT A kp L) ([.ref h0, .int u1, .int u2] : List Value).toArray s 0 0 A) (F0 m 8 ls []) := by
    intro n
    induction n with
    | zero =>
      intro f1459022 y1459023 y1459025 y1459027 b1459024 b1459026 v1459028 hm H locs ls hW hF hl
      have hz := i32_b y1459023
      exfalso; omega
    | succ n ih =>
      intro f1459022 y1459023 y1459025 y1459027 b1459024 b1459026 v1459028 hm H locs ls hW hF hl
      have ih8 := ih
      refine lv_iload hx hb dX0_fewestKept_8 (lv_at hl 0 rfl) ?_
      refine lv_aload_n hx hb dX0_fewestKept_10 rfl (lv_at hl 3 rfl) ?_
      refine fg_RX0_21 E hW rh0 dX0_fewestKept_11 (fun a1459030 m1459031 r1459032 => ?_)
      refine fg_RX0_171 E hW r1459032 dX0_fewestKept_14 (fun y1459033 m1459034 b1459035 => ?_)
      refine q_icmp_ge (tgt := 93) hx hb dX0_fewestKept_17 (by decide) rfl rfl (fun c1459159 => ?_) (fun c1459159 => ?_)
      · refine lv_iconst (v := 0) hx hb dX0_fewestKept_93 (by decide) ?_
        refine lv_istore (lv' := [(6, .int 0), (5, .int y1459025), (3, .long y1459027), (0, .ref h0), (1, .int u1), (2, .int u2)]) hx hb dX0_fewestKept_94 hl (by decide) rfl (fun ls hl => ?_)
        have L1460166 : ∀ (n : Nat), ∀ (f1460160 : Nat → va_E) (y1460163 : Int32) (y1460165 : Int64) (m1460161 : oI (f1460160 a1459030) 0 = y1459033) (m1460162 : oR (f1460160 h0) 1 = a1459030) (b1460164 : (0 : Int) ≤ y1460163.toInt ∧ y1460163.toInt ≤ 41) (hm : (42 : Int) - y1460163.toInt ≤ n) (H : Heap) (locs : List Loc) (ls : Array Slot), WS G cI cJ cZ cD cR cT A kp L f1460160 s H locs → FM kp L ms_X0_fewestKept f0 f1460160 → lv_has ls 7 [(6, .int y1460163), (5, .int y1459025), (3, .long y1460165), (0, .ref h0), (1, .int u1), (2, .int u2)] → W p l e ({ frames := 5, cells := 0, slots := 0, locals := 144 }) s m ([.ref h0, .int u1, .int u2] : List Value).toArray below meth c H locs 0 0 (MQ below (QT (po_X0_fewestKept kp L f0 h0 u1 u2) G cI cJ cZ cD cR cT A kp L) ([.ref h0, .int u1, .int u2] : List Value).toArray s 0 0 A) (F0 m 96 ls []) := by
          intro n
          induction n with
          | zero =>
            intro f1460160 y1460163 y1460165 m1460161 m1460162 b1460164 hm H locs ls hW hF hl
            have hz := i32_b y1460163
            exfalso; omega
          | succ n ih =>
            intro f1460160 y1460163 y1460165 m1460161 m1460162 b1460164 hm H locs ls hW hF hl
            have ih96 := ih
            refine lv_iload hx hb dX0_fewestKept_96 (lv_at hl 0 rfl) ?_
            refine lv_iload hx hb dX0_fewestKept_98 (lv_at hl 1 rfl) ?_
            refine q_icmp_gt (tgt := 150) hx hb dX0_fewestKept_100 (by decide) rfl rfl (fun c1460167 => ?_) (fun c1460167 => ?_)
            · refine lv_iconst (v := (-1)) hx hb dX0_fewestKept_150 (by decide) ?_
              exact e_I E hW rfl ⟨⟨_, rfl, (by have hk : ((-1) : Int32).toInt = -1 := rfl; first | decide | omega)⟩, hF⟩ dX0_fewestKept_151
            · refine lv_aload_n hx hb dX0_fewestKept_103 rfl (lv_at hl 3 rfl) ?_
              refine fg_RX0_21 E hW rh0 dX0_fewestKept_104 (fun a1460168 m1460169 r1460170 => ?_)
              obtain rfl : a1459030 = a1460168 := (m1460162).symm.trans m1460169
              refine fg_RX0_201 E hW r1459032 dX0_fewestKept_107 (fun a1460171 m1460172 r1460173 => ?_)
              refine lv_iload_n hx hb dX0_fewestKept_110 rfl (lv_at hl 4 rfl) ?_
              refine gl_169 E hW r1460173 ⟨by omega, by omega⟩ dX0_fewestKept_111 (fun y1460174 m1460175 => ?_)
              refine q_i2l hx hb dX0_fewestKept_112 rfl (fun x1460177 h1460178 => ?_)
              have hb1460179 : -2147483648 ≤ x1460177.toInt ∧ x1460177.toInt ≤ 2147483647 := by have := i32_b y1460174; omega
              refine lv_lload_n hx hb dX0_fewestKept_113 rfl (lv_at hl 2 rfl) ?_
              refine lv_aload_n hx hb dX0_fewestKept_114 rfl (lv_at hl 3 rfl) ?_
              refine fg_RX0_21 E hW rh0 dX0_fewestKept_115 (fun a1460180 m1460181 r1460182 => ?_)
              obtain rfl : a1459030 = a1460180 := (m1460169).symm.trans m1460181
              refine fg_RX0_222 E hW r1459032 dX0_fewestKept_118 (fun a1460183 m1460184 r1460185 => ?_)
              refine lv_iload_n hx hb dX0_fewestKept_121 rfl (lv_at hl 4 rfl) ?_
              refine gl_170 E hW r1460185 ⟨by omega, by omega⟩ dX0_fewestKept_122 (fun y1460186 m1460187 => ?_)
              refine q_i2l hx hb dX0_fewestKept_123 rfl (fun x1460189 h1460190 => ?_)
              have hb1460191 : -2147483648 ≤ x1460189.toInt ∧ x1460189.toInt ≤ 2147483647 := by have := i32_b y1460186; omega
              refine lv_iload_n hx hb dX0_fewestKept_124 rfl (lv_at hl 5 rfl) ?_
              refine t_callS (As := [.long x1460177, .long y1460165, .long x1460189, .int u2]) (rest := []) E hW (c_X0_falls l G cI cJ cZ cD cR cT kp L f1460160 hW.2.2.2 _ x1460177 y1460165 x1460189 u2 (by omega)) wk_X0_falls tw_1219 rfl ⟨Nat.le_of_ble_eq_true rfl, Nat.le_of_ble_eq_true rfl⟩ ⟨rfl, rfl⟩ hl.1 rfl (Nat.le_of_ble_eq_true rfl) dX0_fewestKept_125 ⟨Nat.le_of_ble_eq_true rfl, Nat.le_of_ble_eq_true rfl⟩ (fun v1460192 f1460193 H locs q1460194 hW => ?_)
              obtain ⟨⟨x1460196, rfl, p1460197⟩, g1460195⟩ := q1460194
              have hF := FM.tr hF g1460195 rfl
              refine q_if_eq (tgt := 134) hx hb dX0_fewestKept_128 (by decide) rfl (fun c1460198 => ?_) (fun c1460198 => ?_)
              · refine lv_lload_n hx hb dX0_fewestKept_134 rfl (lv_at hl 2 rfl) ?_
                refine lv_aload_n hx hb dX0_fewestKept_135 rfl (lv_at hl 3 rfl) ?_
                refine lv_iload hx hb dX0_fewestKept_136 (lv_at hl 1 rfl) ?_
                refine t_callV (As := [.int y1459025]) (rest := [.long y1460165]) E hW (c_X0_takeMostSpared l G cI cJ cZ cD cR cT kp L f1460193 hW.2.2.2 _ h0 y1459025 rh0 (by omega)) rh0 (by decide) rfl wk_X0_takeMostSpared tw_1222 rfl ⟨Nat.le_of_ble_eq_true rfl, Nat.le_of_ble_eq_true rfl⟩ ⟨rfl, rfl⟩ hl.1 rfl (Nat.le_of_ble_eq_true rfl) dX0_fewestKept_138 ⟨Nat.le_of_ble_eq_true rfl, Nat.le_of_ble_eq_true rfl⟩ (fun v1460199 f1460200 H locs q1460201 hW => ?_)
                obtain ⟨⟨x1460203, rfl, p1460204⟩, g1460202⟩ := q1460201
                have hF := FM.tr hF g1460202 rfl
                refine q_i2l hx hb dX0_fewestKept_141 rfl (fun x1460205 h1460206 => ?_)
                have hb1460207 : -2147483648 ≤ x1460205.toInt ∧ x1460205.toInt ≤ 2147483647 := by have := i32_b x1460203; omega
                refine u_lsub hx hb dX0_fewestKept_142 (fun x1460208 => ?_)
                refine lv_lstore_n (lv' := [(3, .long x1460208), (6, .int y1460163), (5, .int y1459025), (0, .ref h0), (1, .int u1), (2, .int u2)]) hx hb dX0_fewestKept_143 rfl hl (by decide) rfl (fun ls hl => ?_)
                refine q_iinc hx hb dX0_fewestKept_144 hl (k := 1) rfl rfl rfl (by omega) (by decide) (fun i1460209 ls h1460210 hl => ?_)
                have hl : lv_has ls 7 [(6, .int i1460209), (3, .long x1460208), (5, .int y1459025), (0, .ref h0), (1, .int u1), (2, .int u2)] := hl
                refine lv_goto (tgt := 96) hx hb dX0_fewestKept_147 (by decide) ?_
                exact ih96 f1460200 i1460209 x1460208 ((fm_I g1460202 r1459032 rfl).trans ((fm_I g1460195 r1459032 rfl).trans m1460161)) ((fm_R g1460202 rh0 rfl).trans ((fm_R g1460195 rh0 rfl).trans m1460181)) (by omega) (by omega) _ _ _ hW hF (lv_sub hl [0, 2, 1, 3, 4, 5] rfl)
              · refine lv_iload hx hb dX0_fewestKept_131 (lv_at hl 0 rfl) ?_
                exact e_I E hW rfl ⟨⟨_, rfl, (by first | omega | trivial)⟩, hF⟩ dX0_fewestKept_133
        have hk1460211 : (0 : Int32).toInt = 0 := rfl
        exact L1460166 42 f1459022 0 y1459027 m1459034 m1459031 (by decide) (by omega) _ _ _ hW hF (lv_sub hl [0, 1, 2, 3, 4, 5] rfl)
      · refine lv_aload_n hx hb dX0_fewestKept_20 rfl (lv_at hl 3 rfl) ?_
        refine fg_RX0_21 E hW rh0 dX0_fewestKept_21 (fun a1460212 m1460213 r1460214 => ?_)
        obtain rfl : a1459030 = a1460212 := (m1459031).symm.trans m1460213
        refine fg_RX0_204 E hW r1459032 dX0_fewestKept_24 (fun a1460215 m1460216 r1460217 => ?_)
        refine lv_iload hx hb dX0_fewestKept_27 (lv_at hl 0 rfl) ?_
        refine gl_161 E hW r1460217 ⟨by omega, by omega⟩ dX0_fewestKept_29 (fun y1460218 m1460219 b1460220 => ?_)
        refine lv_iload_n hx hb dX0_fewestKept_30 rfl (lv_at hl 4 rfl) ?_
        have J1460280 : ∀ (f1460272 : Nat → va_E) (y1460276 : Int32) (y1460278 : Int64) (m1460273 : oI (f1460272 a1459030) 0 = y1459033) (m1460274 : oR (f1460272 a1459030) 1 = a1460215) (m1460275 : oR (f1460272 h0) 1 = a1459030) (b1460277 : (0 : Int) ≤ y1460276.toInt ∧ y1460276.toInt ≤ 41) (v1460279 : y1460276.toInt ≤ y1459023.toInt + 1) (H : Heap) (locs : List Loc) (ls : Array Slot), WS G cI cJ cZ cD cR cT A kp L f1460272 s H locs → FM kp L ms_X0_fewestKept f0 f1460272 → lv_has ls 7 [(6, .int y1459023), (5, .int y1460276), (3, .long y1460278), (0, .ref h0), (1, .int u1), (2, .int u2)] → W p l e ({ frames := 5, cells := 0, slots := 0, locals := 144 }) s m ([.ref h0, .int u1, .int u2] : List Value).toArray below meth c H locs 0 0 (MQ below (QT (po_X0_fewestKept kp L f0 h0 u1 u2) G cI cJ cZ cD cR cT A kp L) ([.ref h0, .int u1, .int u2] : List Value).toArray s 0 0 A) (F0 m 87 ls []) := by
          intro f1460272 y1460276 y1460278 m1460273 m1460274 m1460275 b1460277 v1460279 H locs ls hW hF hl
          clear b1459026 b1460220
          refine q_iinc hx hb dX0_fewestKept_87 hl (k := 0) rfl rfl rfl (by omega) (by decide) (fun i1460281 ls h1460282 hl => ?_)
          have hl : lv_has ls 7 [(6, .int i1460281), (5, .int y1460276), (3, .long y1460278), (0, .ref h0), (1, .int u1), (2, .int u2)] := hl
          refine lv_goto (tgt := 8) hx hb dX0_fewestKept_90 (by decide) ?_
          exact ih8 f1460272 i1460281 y1460276 y1460278 (by omega) (by omega) (by omega) (by omega) _ _ _ hW hF (lv_sub hl [0, 1, 2, 3, 4, 5] rfl)
        refine q_icmp_ne (tgt := 87) hx hb dX0_fewestKept_31 (by decide) rfl rfl (fun c1460283 => ?_) (fun c1460283 => ?_)
        · exact J1460280 f1459022 y1459025 y1459027 m1459034 m1460216 m1460213 (by omega) (by omega) _ _ _ hW hF (lv_sub hl [0, 1, 2, 3, 4, 5] rfl)
        · refine lv_aload_n hx hb dX0_fewestKept_34 rfl (lv_at hl 3 rfl) ?_
          refine fg_RX0_21 E hW rh0 dX0_fewestKept_35 (fun a1460284 m1460285 r1460286 => ?_)
          obtain rfl : a1459030 = a1460284 := (m1460213).symm.trans m1460285
          refine fg_RX0_124 E hW r1459032 dX0_fewestKept_38 (fun a1460287 m1460288 r1460289 => ?_)
          refine lv_iload hx hb dX0_fewestKept_41 (lv_at hl 0 rfl) ?_
          refine gl_164 E hW r1460289 ⟨by omega, by omega⟩ dX0_fewestKept_43 (fun y1460290 m1460291 b1460292 => ?_)
          refine lv_iconst (v := (-1)) hx hb dX0_fewestKept_44 (by decide) ?_
          refine q_icmp_eq (Y := -1) (tgt := 87) hx hb dX0_fewestKept_45 (by decide) rfl rfl (fun c1460293 => ?_) (fun c1460293 => ?_)
          · exact J1460280 f1459022 y1459025 y1459027 m1459034 m1460216 m1460285 (by omega) (by omega) _ _ _ hW hF (lv_sub hl [0, 1, 2, 3, 4, 5] rfl)
          · refine lv_lload_n hx hb dX0_fewestKept_48 rfl (lv_at hl 2 rfl) ?_
            refine lv_aload_n hx hb dX0_fewestKept_49 rfl (lv_at hl 3 rfl) ?_
            refine fg_RX0_21 E hW rh0 dX0_fewestKept_50 (fun a1460294 m1460295 r1460296 => ?_)
            obtain rfl : a1459030 = a1460294 := (m1460285).symm.trans m1460295
            refine lv_iload hx hb dX0_fewestKept_53 (lv_at hl 0 rfl) ?_
            refine t_callV (As := [.int y1459023]) (rest := [.long y1459027]) E hW (c_X1_rentOf l G cI cJ cZ cD cR cT kp L f1459022 hW.2.2.2 _ a1459030 y1459023 r1459032 (by omega)) r1459032 (by decide) rfl wk_X1_rentOf tw_709 rfl ⟨Nat.le_of_ble_eq_true rfl, Nat.le_of_ble_eq_true rfl⟩ ⟨rfl, rfl⟩ hl.1 rfl (Nat.le_of_ble_eq_true rfl) dX0_fewestKept_55 ⟨Nat.le_of_ble_eq_true rfl, Nat.le_of_ble_eq_true rfl⟩ (fun v1460297 f1460298 H locs q1460299 hW => ?_)
            obtain ⟨⟨x1460301, rfl, p1460302⟩, g1460300⟩ := q1460299
            have hF := FM.tr hF g1460300 rfl
            refine q_i2l hx hb dX0_fewestKept_58 rfl (fun x1460303 h1460304 => ?_)
            have hb1460305 : -2147483648 ≤ x1460303.toInt ∧ x1460303.toInt ≤ 2147483647 := by have := i32_b x1460301; omega
            refine u_ladd hx hb dX0_fewestKept_59 (fun x1460306 => ?_)
            refine lv_lstore_n (lv' := [(3, .long x1460306), (6, .int y1459023), (5, .int y1459025), (0, .ref h0), (1, .int u1), (2, .int u2)]) hx hb dX0_fewestKept_60 rfl hl (by decide) rfl (fun ls hl => ?_)
            refine lv_aload_n hx hb dX0_fewestKept_61 rfl (lv_at hl 3 rfl) ?_
            refine fg_RX0_61 E hW rh0 dX0_fewestKept_62 (fun a1460307 m1460308 r1460309 => ?_)
            refine lv_iload hx hb dX0_fewestKept_65 (lv_at hl 2 rfl) ?_
            refine lv_aload_n hx hb dX0_fewestKept_67 rfl (lv_at hl 3 rfl) ?_
            refine fg_RX0_21 E hW rh0 dX0_fewestKept_68 (fun a1460310 m1460311 r1460312 => ?_)
            obtain rfl : a1459030 = a1460310 := (((fm_R g1460300 rh0 rfl).trans m1460295)).symm.trans m1460311
            refine lv_iload hx hb dX0_fewestKept_71 (lv_at hl 1 rfl) ?_
            refine t_callV (As := [.int y1459023]) (rest := [.int y1459025, .ref a1460307]) E hW (c_X1_rentOf l G cI cJ cZ cD cR cT kp L f1460298 hW.2.2.2 _ a1459030 y1459023 r1459032 (by omega)) r1459032 (by decide) rfl wk_X1_rentOf tw_709 rfl ⟨Nat.le_of_ble_eq_true rfl, Nat.le_of_ble_eq_true rfl⟩ ⟨rfl, rfl⟩ hl.1 rfl (Nat.le_of_ble_eq_true rfl) dX0_fewestKept_73 ⟨Nat.le_of_ble_eq_true rfl, Nat.le_of_ble_eq_true rfl⟩ (fun v1460313 f1460314 H locs q1460315 hW => ?_)
            obtain ⟨⟨x1460317, rfl, p1460318⟩, g1460316⟩ := q1460315
            have hF := FM.tr hF g1460316 rfl
            refine lv_aload_n hx hb dX0_fewestKept_76 rfl (lv_at hl 3 rfl) ?_
            refine lv_iload hx hb dX0_fewestKept_77 (lv_at hl 1 rfl) ?_
            refine t_callV (As := [.int y1459023]) (rest := [.int x1460317, .int y1459025, .ref a1460307]) E hW (c_X0_fairOf l G cI cJ cZ cD cR cT kp L f1460314 hW.2.2.2 _ h0 y1459023 rh0 (by omega)) rh0 (by decide) rfl wk_X0_fairOf tw_1128 rfl ⟨Nat.le_of_ble_eq_true rfl, Nat.le_of_ble_eq_true rfl⟩ ⟨rfl, rfl⟩ hl.1 rfl (Nat.le_of_ble_eq_true rfl) dX0_fewestKept_79 ⟨Nat.le_of_ble_eq_true rfl, Nat.le_of_ble_eq_true rfl⟩ (fun v1460319 f1460320 H locs q1460321 hW => ?_)
            obtain ⟨⟨x1460323, rfl, p1460324⟩, g1460322⟩ := q1460321
            have hF := FM.tr hF g1460322 rfl
            have hb1460327 : -2147483648 ≤ x1460317.toInt ∧ x1460317.toInt ≤ 2147483647 := i32_b x1460317
            have hb1460328 : -2147483648 ≤ x1460323.toInt ∧ x1460323.toInt ≤ 2147483647 := i32_b x1460323
            refine q_isub hx hb dX0_fewestKept_82 rfl rfl (by omega) (fun x1460325 h1460326 => ?_)
            refine gs_116 E hW r1460309 ⟨by omega, by omega⟩ dX0_fewestKept_83 (fun f1460329 H locs e1460330 n1460331 g1460332 hW => ?_)
            have hF := FM.tr hF g1460332 rfl
            refine q_iinc hx hb dX0_fewestKept_84 hl (k := 2) rfl rfl rfl (by omega) (by decide) (fun i1460333 ls h1460334 hl => ?_)
            have hl : lv_has ls 7 [(5, .int i1460333), (3, .long x1460306), (6, .int y1459023), (0, .ref h0), (1, .int u1), (2, .int u2)] := hl
            exact J1460280 f1460329 i1460333 x1460306 ((fm_I g1460332 r1459032 rfl).trans ((fm_I g1460322 r1459032 rfl).trans ((fm_I g1460316 r1459032 rfl).trans ((fm_I g1460300 r1459032 rfl).trans m1459034)))) ((fm_R g1460332 r1459032 rfl).trans ((fm_R g1460322 r1459032 rfl).trans ((fm_R g1460316 r1459032 rfl).trans ((fm_R g1460300 r1459032 rfl).trans m1460216)))) ((fm_R g1460332 rh0 rfl).trans ((fm_R g1460322 rh0 rfl).trans ((fm_R g1460316 rh0 rfl).trans m1460311))) (by omega) (by omega) _ _ _ hW hF (lv_sub hl [2, 0, 1, 3, 4, 5] rfl)
  have hk1460335 : (0 : Int32).toInt = 0 := rfl
  have hk1460336 : (0 : Int32).toInt = 0 := rfl
  have hk1460337 : (0 : Int64).toInt = 0 := rfl
  exact L1459029 41 f0 0 0 0 (by decide) (by decide) (by omega) (by omega) _ _ _ hW hF (lv_sub hl [0, 1, 2, 3, 4, 5] rfl)
def ms_X0_keepsFor : List (Nat × Nat) := [(115, 0)]
def po_X0_keepsFor (kp : Nat → Nat) (L : List Nat) (f0 : Nat → va_E) (h0 : Nat) (u1 : Int32) (u2 : Int32) : Option Value → (Nat → va_E) → Prop := fun v f => (∃ r : Int32, v = some (.int r) ∧ ((0 : Int) ≤ r.toInt ∧ r.toInt ≤ 1)) ∧ FM kp L ms_X0_keepsFor f0 f
set_option maxHeartbeats 4000000 in
set_option maxRecDepth 100000 in
theorem c_X0_keepsFor (l : Launch) (G : va_G) (cI cJ cZ cD cR cT : ClassId) (kp : Nat → Nat) (L : List Nat) (f0 : Nat → va_E) (hTH : TH cI cJ cZ cD cR cT kp L f0) (sz : Nat) (h0 : Nat) (u1 : Int32) (u2 : Int32) (rh0 : RK kp L h0 0) (pu1 : (-1 : Int) ≤ u1.toInt ∧ u1.toInt ≤ 39) (pu2 : (0 : Int) ≤ u2.toInt ∧ u2.toInt ≤ 39) : Met l yX0_keepsFor (Cond.code yX0_keepsFor cX0_keepsFor 3 (some .boolean) :: wTab) ({ frames := 5, cells := 0, slots := 0, locals := 143 }) (va_Pc [.ref h0, .int u1, .int u2] (PreW G (tys6 cI cJ cZ cD cR cT) (va_pl L f0) sz)) (QT (po_X0_keepsFor kp L f0 h0 u1 u2) G cI cJ cZ cD cR cT (va_A (va_pl L f0) sz) kp L) 0 0 (va_A (va_pl L f0) sz) := by
  refine metT (by decide) (Nat.le_of_ble_eq_true rfl) hTH ?_
  intro p e s m below meth c A ls E hW hl
  obtain ⟨hx, hb, -, hml, hown, hts, -, -, -⟩ := id E
  have hF : FM kp L ms_X0_keepsFor f0 f0 := FM.rf
  have hl : lv_has ls 3 [(0, .ref h0), (1, .int u1), (2, .int u2)] := hl
  refine lv_iload_n hx hb dX0_keepsFor_0 rfl (lv_at hl 1 rfl) ?_
  refine lv_iconst (v := (-1)) hx hb dX0_keepsFor_1 (by decide) ?_
  have J1460348 : ∀ (f1460345 : Nat → va_E) (y1460346 : Int32) (b1460347 : (0 : Int) ≤ y1460346.toInt ∧ y1460346.toInt ≤ 1) (H : Heap) (locs : List Loc) (ls : Array Slot), WS G cI cJ cZ cD cR cT A kp L f1460345 s H locs → FM kp L ms_X0_keepsFor f0 f1460345 → lv_has ls 3 [(0, .ref h0), (1, .int u1), (2, .int u2)] → W p l e ({ frames := 5, cells := 0, slots := 0, locals := 143 }) s m ([.ref h0, .int u1, .int u2] : List Value).toArray below meth c H locs 0 0 (MQ below (QT (po_X0_keepsFor kp L f0 h0 u1 u2) G cI cJ cZ cD cR cT A kp L) ([.ref h0, .int u1, .int u2] : List Value).toArray s 0 0 A) (F0 m 22 ls [.int y1460346]) := by
    intro f1460345 y1460346 b1460347 H locs ls hW hF hl
    exact e_Z E hW rfl (by omega) ⟨⟨_, rfl, (by first | omega | trivial)⟩, hF⟩ dX0_keepsFor_22
  refine q_icmp_eq (Y := -1) (tgt := 21) hx hb dX0_keepsFor_2 (by decide) rfl rfl (fun c1460349 => ?_) (fun c1460349 => ?_)
  · refine lv_iconst (v := 0) hx hb dX0_keepsFor_21 (by decide) ?_
    exact J1460348 f0 0 (by decide) _ _ _ hW hF (lv_sub hl [0, 1, 2] rfl)
  · refine lv_aload_n hx hb dX0_keepsFor_5 rfl (lv_at hl 0 rfl) ?_
    refine lv_sipush (v := 262) hx hb dX0_keepsFor_6 (by decide) ?_
    refine lv_iload_n hx hb dX0_keepsFor_9 rfl (lv_at hl 1 rfl) ?_
    refine lv_iload_n hx hb dX0_keepsFor_10 rfl (lv_at hl 2 rfl) ?_
    refine t_callV (As := [.int 262, .int u1, .int u2]) (rest := []) E hW (c_X0_anyHolds l G cI cJ cZ cD cR cT kp L f0 hW.2.2.2 _ h0 262 u1 u2 rh0 (by decide) (by omega) (by omega)) rh0 (by decide) rfl wk_X0_anyHolds tw_752 rfl ⟨Nat.le_of_ble_eq_true rfl, Nat.le_of_ble_eq_true rfl⟩ ⟨rfl, rfl⟩ hl.1 rfl (Nat.le_of_ble_eq_true rfl) dX0_keepsFor_11 ⟨Nat.le_of_ble_eq_true rfl, Nat.le_of_ble_eq_true rfl⟩ (fun v1460350 f1460351 H locs q1460352 hW => ?_)
    obtain ⟨⟨x1460354, rfl, p1460355⟩, g1460353⟩ := q1460352
    have p1460355 : (0 : Int) ≤ x1460354.toInt ∧ x1460354.toInt ≤ 1 := p1460355
    have hF := FM.tr hF g1460353 rfl
    refine q_if_eq (tgt := 21) hx hb dX0_keepsFor_14 (by decide) rfl (fun c1460356 => ?_) (fun c1460356 => ?_)
    · refine lv_iconst (v := 0) hx hb dX0_keepsFor_21 (by decide) ?_
      exact J1460348 f1460351 0 (by decide) _ _ _ hW hF (lv_sub hl [0, 1, 2] rfl)
    · refine lv_iconst (v := 1) hx hb dX0_keepsFor_17 (by decide) ?_
      refine lv_goto (tgt := 22) hx hb dX0_keepsFor_18 (by decide) ?_
      exact J1460348 f1460351 1 (by decide) _ _ _ hW hF (lv_sub hl [0, 1, 2] rfl)
def ms_X0_lookAtNow : List (Nat × Nat) := [(0, 14), (222, 0), (223, 0)]
def po_X0_lookAtNow (kp : Nat → Nat) (L : List Nat) (f0 : Nat → va_E) (h0 : Nat) : Option Value → (Nat → va_E) → Prop := fun v f => v = none ∧ FM kp L ms_X0_lookAtNow f0 f
set_option maxHeartbeats 4000000 in
set_option maxRecDepth 100000 in
theorem c_X0_lookAtNow (l : Launch) (G : va_G) (cI cJ cZ cD cR cT : ClassId) (kp : Nat → Nat) (L : List Nat) (f0 : Nat → va_E) (hTH : TH cI cJ cZ cD cR cT kp L f0) (sz : Nat) (h0 : Nat) (rh0 : RK kp L h0 0) : Met l yX0_lookAtNow (Cond.code yX0_lookAtNow cX0_lookAtNow 1 none :: wTab) ({ frames := 3, cells := 0, slots := 0, locals := 88 }) (va_Pc [.ref h0] (PreW G (tys6 cI cJ cZ cD cR cT) (va_pl L f0) sz)) (QT (po_X0_lookAtNow kp L f0 h0) G cI cJ cZ cD cR cT (va_A (va_pl L f0) sz) kp L) 0 0 (va_A (va_pl L f0) sz) := by
  refine metT (by decide) (Nat.le_of_ble_eq_true rfl) hTH ?_
  intro p e s m below meth c A ls E hW hl
  obtain ⟨hx, hb, -, hml, hown, hts, -, -, -⟩ := id E
  have hF : FM kp L ms_X0_lookAtNow f0 f0 := FM.rf
  have hl : lv_has ls 1 [(0, .ref h0)] := hl
  refine lv_aload_n hx hb dX0_lookAtNow_0 rfl (lv_at hl 0 rfl) ?_
  refine fg_RX0_42 E hW rh0 dX0_lookAtNow_1 (fun a1460357 m1460358 r1460359 => ?_)
  refine lv_aload_n hx hb dX0_lookAtNow_4 rfl (lv_at hl 0 rfl) ?_
  refine fg_RX0_93 E hW rh0 dX0_lookAtNow_5 (fun y1460360 m1460361 b1460362 => ?_)
  refine t_callV (As := [.int y1460360]) (rest := []) E hW (c_X2_mark l G cI cJ cZ cD cR cT kp L f0 hW.2.2.2 _ a1460357 y1460360 r1460359 (by omega)) r1460359 (by decide) rfl wk_X2_mark tw_691 rfl ⟨Nat.le_of_ble_eq_true rfl, Nat.le_of_ble_eq_true rfl⟩ ⟨rfl, rfl⟩ hl.1 rfl (Nat.le_of_ble_eq_true rfl) dX0_lookAtNow_8 ⟨Nat.le_of_ble_eq_true rfl, Nat.le_of_ble_eq_true rfl⟩ (fun v1460363 f1460364 H locs q1460365 hW => ?_)
  obtain ⟨rfl, g1460366⟩ := q1460365
  have hF := FM.tr hF g1460366 rfl
  refine lv_aload_n hx hb dX0_lookAtNow_11 rfl (lv_at hl 0 rfl) ?_
  refine lv_aload_n hx hb dX0_lookAtNow_12 rfl (lv_at hl 0 rfl) ?_
  refine fg_RX0_97 E hW rh0 dX0_lookAtNow_13 (fun y1460367 m1460368 b1460369 => ?_)
  have J1460390 : ∀ (f1460385 : Nat → va_E) (y1460389 : Int32) (m1460386 : oR (f1460385 h0) 4 = a1460357) (m1460387 : oI (f1460385 h0) 6 = y1460360) (m1460388 : oI (f1460385 h0) 9 = y1460367) (H : Heap) (locs : List Loc) (ls : Array Slot), WS G cI cJ cZ cD cR cT A kp L f1460385 s H locs → FM kp L ms_X0_lookAtNow f0 f1460385 → lv_has ls 1 [(0, .ref h0)] → W p l e ({ frames := 3, cells := 0, slots := 0, locals := 88 }) s m ([.ref h0] : List Value).toArray below meth c H locs 0 0 (MQ below (QT (po_X0_lookAtNow kp L f0 h0) G cI cJ cZ cD cR cT A kp L) ([.ref h0] : List Value).toArray s 0 0 A) (F0 m 37 ls [.int y1460389, .ref h0]) := by
    intro f1460385 y1460389 m1460386 m1460387 m1460388 H locs ls hW hF hl
    refine fp_RX0_121 E hW rh0 dX0_lookAtNow_37 (fun f1460391 H locs e1460392 n1460393 g1460394 hW => ?_)
    have hF := FM.tr hF g1460394 rfl
    exact e_V E hW rfl ⟨rfl, hF⟩ dX0_lookAtNow_40
  refine q_if_eq (tgt := 26) hx hb dX0_lookAtNow_16 (by decide) rfl (fun c1460395 => ?_) (fun c1460395 => ?_)
  · refine lv_aload_n hx hb dX0_lookAtNow_26 rfl (lv_at hl 0 rfl) ?_
    refine fg_RX0_35 E hW rh0 dX0_lookAtNow_27 (fun a1460396 m1460397 r1460398 => ?_)
    refine lv_aload_n hx hb dX0_lookAtNow_30 rfl (lv_at hl 0 rfl) ?_
    refine fg_RX0_93 E hW rh0 dX0_lookAtNow_31 (fun y1460399 m1460400 b1460401 => ?_)
    obtain rfl : y1460360 = y1460399 := (((fm_I g1460366 rh0 rfl).trans m1460361)).symm.trans m1460400
    refine t_callV (As := [.int y1460360]) (rest := [.ref h0]) E hW (c_X7_priceIn l G cI cJ cZ cD cR cT kp L f1460364 hW.2.2.2 _ a1460396 y1460360 r1460398 (by omega)) r1460398 (by decide) rfl wk_X7_priceIn tw_700 rfl ⟨Nat.le_of_ble_eq_true rfl, Nat.le_of_ble_eq_true rfl⟩ ⟨rfl, rfl⟩ hl.1 rfl (Nat.le_of_ble_eq_true rfl) dX0_lookAtNow_34 ⟨Nat.le_of_ble_eq_true rfl, Nat.le_of_ble_eq_true rfl⟩ (fun v1460402 f1460403 H locs q1460404 hW => ?_)
    obtain ⟨⟨x1460406, rfl, p1460407⟩, g1460405⟩ := q1460404
    clear p1460407
    have hF := FM.tr hF g1460405 rfl
    exact J1460390 f1460403 x1460406 ((fm_R g1460405 rh0 rfl).trans ((fm_R g1460366 rh0 rfl).trans m1460358)) ((fm_I g1460405 rh0 rfl).trans m1460400) ((fm_I g1460405 rh0 rfl).trans m1460368) _ _ _ hW hF (lv_sub hl [0] rfl)
  · refine lv_aload_n hx hb dX0_lookAtNow_19 rfl (lv_at hl 0 rfl) ?_
    refine fg_RX0_107 E hW rh0 dX0_lookAtNow_20 (fun y1460408 m1460409 => ?_)
    refine lv_goto (tgt := 37) hx hb dX0_lookAtNow_23 (by decide) ?_
    exact J1460390 f1460364 y1460408 ((fm_R g1460366 rh0 rfl).trans m1460358) ((fm_I g1460366 rh0 rfl).trans m1460361) m1460368 _ _ _ hW hF (lv_sub hl [0] rfl)
def ms_X0_reap : List (Nat × Nat) := [(345, 0)]
def po_X0_reap (kp : Nat → Nat) (L : List Nat) (f0 : Nat → va_E) (h0 : Nat) : Option Value → (Nat → va_E) → Prop := fun v f => v = none ∧ FM kp L ms_X0_reap f0 f
set_option maxHeartbeats 4000000 in
set_option maxRecDepth 100000 in
theorem c_X0_reap (l : Launch) (G : va_G) (cI cJ cZ cD cR cT : ClassId) (kp : Nat → Nat) (L : List Nat) (f0 : Nat → va_E) (hTH : TH cI cJ cZ cD cR cT kp L f0) (sz : Nat) (h0 : Nat) (rh0 : RK kp L h0 0) : Met l yX0_reap (Cond.code yX0_reap cX0_reap 5 none :: wTab) ({ frames := 2, cells := 0, slots := 0, locals := 63 }) (va_Pc [.ref h0] (PreW G (tys6 cI cJ cZ cD cR cT) (va_pl L f0) sz)) (QT (po_X0_reap kp L f0 h0) G cI cJ cZ cD cR cT (va_A (va_pl L f0) sz) kp L) 0 0 (va_A (va_pl L f0) sz) := by
  refine metT (by decide) (Nat.le_of_ble_eq_true rfl) hTH ?_
  intro p e s m below meth c A ls E hW hl
  obtain ⟨hx, hb, -, hml, hown, hts, -, -, -⟩ := id E
  have hF : FM kp L ms_X0_reap f0 f0 := FM.rf
  have hl : lv_has ls 5 [(0, .ref h0)] := hl
  refine lv_aload_n hx hb dX0_reap_0 rfl (lv_at hl 0 rfl) ?_
  refine fg_RX0_97 E hW rh0 dX0_reap_1 (fun y1460411 m1460412 b1460413 => ?_)
  have J1460436 : ∀ (y1460434 : Int32) (b1460435 : (0 : Int) ≤ y1460434.toInt ∧ y1460434.toInt ≤ 1) (H : Heap) (locs : List Loc) (ls : Array Slot), WS G cI cJ cZ cD cR cT A kp L f0 s H locs → FM kp L ms_X0_reap f0 f0 → lv_has ls 5 [(0, .ref h0)] → W p l e ({ frames := 2, cells := 0, slots := 0, locals := 63 }) s m ([.ref h0] : List Value).toArray below meth c H locs 0 0 (MQ below (QT (po_X0_reap kp L f0 h0) G cI cJ cZ cD cR cT A kp L) ([.ref h0] : List Value).toArray s 0 0 A) (F0 m 45 ls [.int y1460434]) := by
    intro y1460434 b1460435 H locs ls hW hF hl
    refine lv_istore_n (lv' := [(1, .int y1460434), (0, .ref h0)]) hx hb dX0_reap_45 rfl hl (by decide) rfl (fun ls hl => ?_)
    refine lv_iconst (v := 0) hx hb dX0_reap_46 (by decide) ?_
    refine lv_istore_n (lv' := [(2, .int 0), (1, .int y1460434), (0, .ref h0)]) hx hb dX0_reap_47 rfl hl (by decide) rfl (fun ls hl => ?_)
    have L1462778 : ∀ (n : Nat), ∀ (f1462774 : Nat → va_E) (y1462776 : Int32) (m1462775 : oI (f1462774 h0) 9 = y1460411) (b1462777 : (0 : Int) ≤ y1462776.toInt ∧ y1462776.toInt ≤ 40) (hm : (41 : Int) - y1462776.toInt ≤ n) (H : Heap) (locs : List Loc) (ls : Array Slot), WS G cI cJ cZ cD cR cT A kp L f1462774 s H locs → FM kp L ms_X0_reap f0 f1462774 → lv_has ls 5 [(2, .int y1462776), (1, .int y1460434), (0, .ref h0)] → W p l e ({ frames := 2, cells := 0, slots := 0, locals := 63 }) s m ([.ref h0] : List Value).toArray below meth c H locs 0 0 (MQ below (QT (po_X0_reap kp L f0 h0) G cI cJ cZ cD cR cT A kp L) ([.ref h0] : List Value).toArray s 0 0 A) (F0 m 48 ls []) := by
      intro n
      induction n with
      | zero =>
        intro f1462774 y1462776 m1462775 b1462777 hm H locs ls hW hF hl
        have hz := i32_b y1462776
        exfalso; omega
      | succ n ih =>
        intro f1462774 y1462776 m1462775 b1462777 hm H locs ls hW hF hl
        have ih48 := ih
        refine lv_iload_n hx hb dX0_reap_48 rfl (lv_at hl 1 rfl) ?_
        have J1462897 : ∀ (H : Heap) (locs : List Loc) (ls : Array Slot), WS G cI cJ cZ cD cR cT A kp L f1462774 s H locs → FM kp L ms_X0_reap f0 f1462774 → lv_has ls 5 [(2, .int y1462776), (1, .int y1460434), (0, .ref h0)] → W p l e ({ frames := 2, cells := 0, slots := 0, locals := 63 }) s m ([.ref h0] : List Value).toArray below meth c H locs 0 0 (MQ below (QT (po_X0_reap kp L f0 h0) G cI cJ cZ cD cR cT A kp L) ([.ref h0] : List Value).toArray s 0 0 A) (F0 m 145 ls []) := by
          intro  H locs ls hW hF hl
          exact e_V E hW rfl ⟨rfl, hF⟩ dX0_reap_145
        refine q_if_eq (tgt := 145) hx hb dX0_reap_49 (by decide) rfl (fun c1462898 => ?_) (fun c1462898 => ?_)
        · exact J1462897   _ _ _ hW hF (lv_sub hl [0, 1, 2] rfl)
        · refine lv_iload_n hx hb dX0_reap_52 rfl (lv_at hl 0 rfl) ?_
          refine lv_aload_n hx hb dX0_reap_53 rfl (lv_at hl 2 rfl) ?_
          refine fg_RX0_21 E hW rh0 dX0_reap_54 (fun a1462899 m1462900 r1462901 => ?_)
          refine fg_RX0_171 E hW r1462901 dX0_reap_57 (fun y1462902 m1462903 b1462904 => ?_)
          refine q_icmp_ge (tgt := 145) hx hb dX0_reap_60 (by decide) rfl rfl (fun c1462905 => ?_) (fun c1462905 => ?_)
          · exact J1462897   _ _ _ hW hF (lv_sub hl [0, 1, 2] rfl)
          · refine lv_aload_n hx hb dX0_reap_63 rfl (lv_at hl 2 rfl) ?_
            refine fg_RX0_21 E hW rh0 dX0_reap_64 (fun a1462906 m1462907 r1462908 => ?_)
            obtain rfl : a1462899 = a1462906 := (m1462900).symm.trans m1462907
            refine fg_RX0_124 E hW r1462901 dX0_reap_67 (fun a1462909 m1462910 r1462911 => ?_)
            refine lv_iload_n hx hb dX0_reap_70 rfl (lv_at hl 0 rfl) ?_
            refine gl_164 E hW r1462911 ⟨by omega, by omega⟩ dX0_reap_71 (fun y1462912 m1462913 b1462914 => ?_)
            refine lv_istore_n (lv' := [(3, .int y1462912), (2, .int y1462776), (1, .int y1460434), (0, .ref h0)]) hx hb dX0_reap_72 rfl hl (by decide) rfl (fun ls hl => ?_)
            refine lv_aload_n hx hb dX0_reap_73 rfl (lv_at hl 3 rfl) ?_
            refine fg_RX0_97 E hW rh0 dX0_reap_74 (fun y1462915 m1462916 b1462917 => ?_)
            obtain rfl : y1460411 = y1462915 := (m1462775).symm.trans m1462916
            have J1462950 : ∀ (f1462944 : Nat → va_E) (y1462949 : Int32) (m1462945 : oI (f1462944 a1462899) 0 = y1462902) (m1462946 : oR (f1462944 a1462899) 4 = a1462909) (m1462947 : oR (f1462944 h0) 1 = a1462899) (m1462948 : oI (f1462944 h0) 9 = y1460411) (H : Heap) (locs : List Loc) (ls : Array Slot), WS G cI cJ cZ cD cR cT A kp L f1462944 s H locs → FM kp L ms_X0_reap f0 f1462944 → lv_has ls 5 [(3, .int y1462912), (2, .int y1462776), (1, .int y1460434), (0, .ref h0)] → W p l e ({ frames := 2, cells := 0, slots := 0, locals := 63 }) s m ([.ref h0] : List Value).toArray below meth c H locs 0 0 (MQ below (QT (po_X0_reap kp L f0 h0) G cI cJ cZ cD cR cT A kp L) ([.ref h0] : List Value).toArray s 0 0 A) (F0 m 112 ls [.int y1462949]) := by
              intro f1462944 y1462949 m1462945 m1462946 m1462947 m1462948 H locs ls hW hF hl
              refine lv_istore (lv' := [(4, .int y1462949), (3, .int y1462912), (2, .int y1462776), (1, .int y1460434), (0, .ref h0)]) hx hb dX0_reap_112 hl (by decide) rfl (fun ls hl => ?_)
              refine lv_iload_n hx hb dX0_reap_114 rfl (lv_at hl 1 rfl) ?_
              refine lv_iconst (v := (-1)) hx hb dX0_reap_115 (by decide) ?_
              have J1462971 : ∀ (f1462966 : Nat → va_E) (m1462967 : oI (f1462966 a1462899) 0 = y1462902) (m1462968 : oR (f1462966 a1462899) 4 = a1462909) (m1462969 : oR (f1462966 h0) 1 = a1462899) (m1462970 : oI (f1462966 h0) 9 = y1460411) (H : Heap) (locs : List Loc) (ls : Array Slot), WS G cI cJ cZ cD cR cT A kp L f1462966 s H locs → FM kp L ms_X0_reap f0 f1462966 → lv_has ls 5 [(4, .int y1462949), (3, .int y1462912), (2, .int y1462776), (1, .int y1460434), (0, .ref h0)] → W p l e ({ frames := 2, cells := 0, slots := 0, locals := 63 }) s m ([.ref h0] : List Value).toArray below meth c H locs 0 0 (MQ below (QT (po_X0_reap kp L f0 h0) G cI cJ cZ cD cR cT A kp L) ([.ref h0] : List Value).toArray s 0 0 A) (F0 m 139 ls []) := by
                intro f1462966 m1462967 m1462968 m1462969 m1462970 H locs ls hW hF hl
                refine q_iinc hx hb dX0_reap_139 hl (k := 2) rfl rfl rfl (by omega) (by decide) (fun i1462972 ls h1462973 hl => ?_)
                have hl : lv_has ls 5 [(2, .int i1462972), (4, .int y1462949), (3, .int y1462912), (1, .int y1460434), (0, .ref h0)] := hl
                refine lv_goto (tgt := 48) hx hb dX0_reap_142 (by decide) ?_
                exact ih48 f1462966 i1462972 m1462970 (by omega) (by omega) _ _ _ hW hF (lv_sub hl [0, 3, 4] rfl)
              refine q_icmp_eq (Y := -1) (tgt := 139) hx hb dX0_reap_116 (by decide) rfl rfl (fun c1462974 => ?_) (fun c1462974 => ?_)
              · exact J1462971 f1462944 m1462945 m1462946 m1462947 m1462948 _ _ _ hW hF (lv_sub hl [0, 1, 2, 3, 4] rfl)
              · refine lv_iload hx hb dX0_reap_119 (lv_at hl 0 rfl) ?_
                refine lv_iconst (v := (-1)) hx hb dX0_reap_121 (by decide) ?_
                refine q_icmp_eq (Y := -1) (tgt := 139) hx hb dX0_reap_122 (by decide) rfl rfl (fun c1462975 => ?_) (fun c1462975 => ?_)
                · exact J1462971 f1462944 m1462945 m1462946 m1462947 m1462948 _ _ _ hW hF (lv_sub hl [0, 1, 2, 3, 4] rfl)
                · refine lv_aload_n hx hb dX0_reap_125 rfl (lv_at hl 4 rfl) ?_
                  refine fg_RX0_12 E hW rh0 dX0_reap_126 (fun a1462976 m1462977 r1462978 => ?_)
                  refine fg_RX0_179 E hW r1462978 dX0_reap_129 (fun a1462979 m1462980 r1462981 => ?_)
                  refine lv_iload_n hx hb dX0_reap_132 rfl (lv_at hl 1 rfl) ?_
                  refine lv_dup2_11 hx hb dX0_reap_133 rfl rfl ?_
                  refine gl_345 E hW r1462981 ⟨by omega, by omega⟩ dX0_reap_134 (fun y1462982 m1462983 => ?_)
                  refine lv_iload hx hb dX0_reap_135 (lv_at hl 0 rfl) ?_
                  refine u_iadd hx hb dX0_reap_137 (fun x1462985 => ?_)
                  refine gs_345 E hW r1462981 ⟨by omega, by omega⟩ dX0_reap_138 (fun f1462986 H locs e1462987 n1462988 g1462989 hW => ?_)
                  have hF := FM.tr hF g1462989 rfl
                  exact J1462971 f1462986 ((fm_I g1462989 r1462901 rfl).trans m1462945) ((fm_R g1462989 r1462901 rfl).trans m1462946) ((fm_R g1462989 rh0 rfl).trans m1462947) ((fm_I g1462989 rh0 rfl).trans m1462948) _ _ _ hW hF (lv_sub hl [0, 1, 2, 3, 4] rfl)
            refine q_if_eq (tgt := 100) hx hb dX0_reap_77 (by decide) rfl (fun c1462990 => ?_) (fun c1462990 => ?_)
            · refine lv_aload_n hx hb dX0_reap_100 rfl (lv_at hl 3 rfl) ?_
              refine fg_RX0_35 E hW rh0 dX0_reap_101 (fun a1462991 m1462992 r1462993 => ?_)
              refine lv_iload_n hx hb dX0_reap_104 rfl (lv_at hl 1 rfl) ?_
              refine lv_aload_n hx hb dX0_reap_105 rfl (lv_at hl 3 rfl) ?_
              refine fg_RX0_93 E hW rh0 dX0_reap_106 (fun y1462994 m1462995 b1462996 => ?_)
              refine t_callV (As := [.int y1462776, .int y1462994]) (rest := []) E hW (c_X7_sacksOf l G cI cJ cZ cD cR cT kp L f1462774 hW.2.2.2 _ a1462991 y1462776 y1462994 r1462993 (by omega) (by omega)) r1462993 (by decide) rfl wk_X7_sacksOf tw_1123 rfl ⟨Nat.le_of_ble_eq_true rfl, Nat.le_of_ble_eq_true rfl⟩ ⟨rfl, rfl⟩ hl.1 rfl (Nat.le_of_ble_eq_true rfl) dX0_reap_109 ⟨Nat.le_of_ble_eq_true rfl, Nat.le_of_ble_eq_true rfl⟩ (fun v1462997 f1462998 H locs q1462999 hW => ?_)
              obtain ⟨⟨x1463001, rfl, p1463002⟩, g1463000⟩ := q1462999
              clear p1463002
              have hF := FM.tr hF g1463000 rfl
              exact J1462950 f1462998 x1463001 ((fm_I g1463000 r1462901 rfl).trans m1462903) ((fm_R g1463000 r1462901 rfl).trans m1462910) ((fm_R g1463000 rh0 rfl).trans m1462907) ((fm_I g1463000 rh0 rfl).trans m1462916) _ _ _ hW hF (lv_sub hl [0, 1, 2, 3] rfl)
            · refine lv_aload_n hx hb dX0_reap_80 rfl (lv_at hl 3 rfl) ?_
              refine fg_RX0_110 E hW rh0 dX0_reap_81 (fun y1463003 m1463004 => ?_)
              refine lv_aload_n hx hb dX0_reap_84 rfl (lv_at hl 3 rfl) ?_
              refine fg_RX0_21 E hW rh0 dX0_reap_85 (fun a1463006 m1463007 r1463008 => ?_)
              obtain rfl : a1462899 = a1463006 := (m1462907).symm.trans m1463007
              refine fg_RX0_172 E hW r1462901 dX0_reap_88 (fun a1463009 m1463010 r1463011 => ?_)
              refine lv_iload_n hx hb dX0_reap_91 rfl (lv_at hl 1 rfl) ?_
              refine gl_162 E hW r1463011 ⟨by omega, by omega⟩ dX0_reap_92 (fun y1463012 m1463013 => ?_)
              refine u_imul hx hb dX0_reap_93 (fun x1463015 => ?_)
              refine lv_bipush (v := 100) hx hb dX0_reap_94 (by decide) ?_
              refine u_idiv hx hb dX0_reap_96 (by decide) (fun x1463016 => ?_)
              refine lv_goto (tgt := 112) hx hb dX0_reap_97 (by decide) ?_
              exact J1462950 f1462774 x1463016 m1462903 m1462910 m1463007 m1462916 _ _ _ hW hF (lv_sub hl [0, 1, 2, 3] rfl)
    have hk1463017 : (0 : Int32).toInt = 0 := rfl
    exact L1462778 41 f0 0 m1460412 (by decide) (by omega) _ _ _ hW hF (lv_sub hl [0, 1, 2] rfl)
  refine q_if_eq (tgt := 25) hx hb dX0_reap_4 (by decide) rfl (fun c1463018 => ?_) (fun c1463018 => ?_)
  · refine lv_aload_n hx hb dX0_reap_25 rfl (lv_at hl 0 rfl) ?_
    refine fg_RX0_35 E hW rh0 dX0_reap_26 (fun a1463019 m1463020 r1463021 => ?_)
    refine fg_RX0_167 E hW r1463021 dX0_reap_29 (fun a1463022 m1463023 r1463024 => ?_)
    refine lv_aload_n hx hb dX0_reap_32 rfl (lv_at hl 0 rfl) ?_
    refine fg_RX0_93 E hW rh0 dX0_reap_33 (fun y1463025 m1463026 b1463027 => ?_)
    refine gl_521 E hW r1463024 ⟨by omega, by omega⟩ dX0_reap_36 (fun o1463028 m1463030 k1463029 => ?_)
    rcases o1463028 with _ | a1463031
    · have hl : lv_has ls 5 [(0, .ref h0)] := hl
      show W p l e ({ frames := 2, cells := 0, slots := 0, locals := 63 }) s m ([.ref h0] : List Value).toArray below meth c _ _ 0 0 (MQ below (QT (po_X0_reap kp L f0 h0) G cI cJ cZ cD cR cT A kp L) ([.ref h0] : List Value).toArray s 0 0 A) (F0 m 37 ls [.null])
      refine lv_ifnullN (tgt := 44) hx hb dX0_reap_37 (by decide) ?_
      refine lv_iconst (v := 0) hx hb dX0_reap_44 (by decide) ?_
      exact J1460436 0 (by decide) _ _ _ hW hF (lv_sub hl [0] rfl)
    · have r1463032 : RK kp L a1463031 6 := k1463029 _ rfl
      have hl : lv_has ls 5 [(0, .ref h0)] := hl
      show W p l e ({ frames := 2, cells := 0, slots := 0, locals := 63 }) s m ([.ref h0] : List Value).toArray below meth c _ _ 0 0 (MQ below (QT (po_X0_reap kp L f0 h0) G cI cJ cZ cD cR cT A kp L) ([.ref h0] : List Value).toArray s 0 0 A) (F0 m 37 ls [.ref a1463031])
      refine lv_ifnull hx hb dX0_reap_37 ?_
      refine lv_iconst (v := 1) hx hb dX0_reap_40 (by decide) ?_
      refine lv_goto (tgt := 45) hx hb dX0_reap_41 (by decide) ?_
      exact J1460436 1 (by decide) _ _ _ hW hF (lv_sub hl [0] rfl)
  · refine lv_aload_n hx hb dX0_reap_7 rfl (lv_at hl 0 rfl) ?_
    refine fg_RX0_93 E hW rh0 dX0_reap_8 (fun y1463033 m1463034 b1463035 => ?_)
    refine lv_bipush (v := 13) hx hb dX0_reap_11 (by decide) ?_
    refine q_irem (Y := 13) hx hb dX0_reap_13 rfl rfl (by omega) (by omega) (fun x1463036 h1463037 => ?_)
    refine q_if_ne (tgt := 21) hx hb dX0_reap_14 (by decide) rfl (fun c1463038 => ?_) (fun c1463038 => ?_)
    · refine lv_iconst (v := 0) hx hb dX0_reap_21 (by decide) ?_
      refine lv_goto (tgt := 45) hx hb dX0_reap_22 (by decide) ?_
      exact J1460436 0 (by decide) _ _ _ hW hF (lv_sub hl [0] rfl)
    · refine lv_iconst (v := 1) hx hb dX0_reap_17 (by decide) ?_
      refine lv_goto (tgt := 45) hx hb dX0_reap_18 (by decide) ?_
      exact J1460436 1 (by decide) _ _ _ hW hF (lv_sub hl [0] rfl)
def ms_X0_payMortgages : List (Nat × Nat) := [(169, 0), (171, 0)]
def po_X0_payMortgages (kp : Nat → Nat) (L : List Nat) (f0 : Nat → va_E) (h0 : Nat) : Option Value → (Nat → va_E) → Prop := fun v f => v = none ∧ FM kp L ms_X0_payMortgages f0 f
set_option maxHeartbeats 4000000 in
set_option maxRecDepth 100000 in
theorem c_X0_payMortgages (l : Launch) (G : va_G) (cI cJ cZ cD cR cT : ClassId) (kp : Nat → Nat) (L : List Nat) (f0 : Nat → va_E) (hTH : TH cI cJ cZ cD cR cT kp L f0) (sz : Nat) (h0 : Nat) (rh0 : RK kp L h0 0) : Met l yX0_payMortgages (Cond.code yX0_payMortgages cX0_payMortgages 2 none :: wTab) ({ frames := 1, cells := 0, slots := 0, locals := 40 }) (va_Pc [.ref h0] (PreW G (tys6 cI cJ cZ cD cR cT) (va_pl L f0) sz)) (QT (po_X0_payMortgages kp L f0 h0) G cI cJ cZ cD cR cT (va_A (va_pl L f0) sz) kp L) 0 0 (va_A (va_pl L f0) sz) := by
  refine metT (by decide) (Nat.le_of_ble_eq_true rfl) hTH ?_
  intro p e s m below meth c A ls E hW hl
  obtain ⟨hx, hb, -, hml, hown, hts, -, -, -⟩ := id E
  have hF : FM kp L ms_X0_payMortgages f0 f0 := FM.rf
  have hl : lv_has ls 2 [(0, .ref h0)] := hl
  refine lv_iconst (v := 0) hx hb dX0_payMortgages_0 (by decide) ?_
  refine lv_istore_n (lv' := [(1, .int 0), (0, .ref h0)]) hx hb dX0_payMortgages_1 rfl hl (by decide) rfl (fun ls hl => ?_)
  have L1464527 : ∀ (n : Nat), ∀ (f1464524 : Nat → va_E) (y1464525 : Int32) (b1464526 : (0 : Int) ≤ y1464525.toInt ∧ y1464525.toInt ≤ 8) (hm : (9 : Int) - y1464525.toInt ≤ n) (H : Heap) (locs : List Loc) (ls : Array Slot), WS G cI cJ cZ cD cR cT A kp L f1464524 s H locs → FM kp L ms_X0_payMortgages f0 f1464524 → lv_has ls 2 [(1, .int y1464525), (0, .ref h0)] → W p l e ({ frames := 1, cells := 0, slots := 0, locals := 40 }) s m ([.ref h0] : List Value).toArray below meth c H locs 0 0 (MQ below (QT (po_X0_payMortgages kp L f0 h0) G cI cJ cZ cD cR cT A kp L) ([.ref h0] : List Value).toArray s 0 0 A) (F0 m 2 ls []) := by
    intro n
    induction n with
    | zero =>
      intro f1464524 y1464525 b1464526 hm H locs ls hW hF hl
      have hz := i32_b y1464525
      exfalso; omega
    | succ n ih =>
      intro f1464524 y1464525 b1464526 hm H locs ls hW hF hl
      have ih2 := ih
      refine lv_iload_n hx hb dX0_payMortgages_2 rfl (lv_at hl 0 rfl) ?_
      refine lv_aload_n hx hb dX0_payMortgages_3 rfl (lv_at hl 1 rfl) ?_
      refine fg_RX0_21 E hW rh0 dX0_payMortgages_4 (fun a1464528 m1464529 r1464530 => ?_)
      refine fg_RX0_216 E hW r1464530 dX0_payMortgages_7 (fun y1464531 m1464532 b1464533 => ?_)
      refine q_icmp_ge (tgt := 106) hx hb dX0_payMortgages_10 (by decide) rfl rfl (fun c1464689 => ?_) (fun c1464689 => ?_)
      · exact e_V E hW rfl ⟨rfl, hF⟩ dX0_payMortgages_106
      · refine lv_aload_n hx hb dX0_payMortgages_13 rfl (lv_at hl 1 rfl) ?_
        refine fg_RX0_21 E hW rh0 dX0_payMortgages_14 (fun a1464690 m1464691 r1464692 => ?_)
        obtain rfl : a1464528 = a1464690 := (m1464529).symm.trans m1464691
        refine fg_RX0_219 E hW r1464530 dX0_payMortgages_17 (fun a1464693 m1464694 r1464695 => ?_)
        refine lv_iload_n hx hb dX0_payMortgages_20 rfl (lv_at hl 0 rfl) ?_
        refine gl_171 E hW r1464695 ⟨by omega, by omega⟩ dX0_payMortgages_21 (fun y1464696 m1464697 => ?_)
        refine lv_iconst (v := (-1)) hx hb dX0_payMortgages_22 (by decide) ?_
        have J1464772 : ∀ (f1464768 : Nat → va_E) (m1464769 : oI (f1464768 a1464528) 8 = y1464531) (m1464770 : oR (f1464768 a1464528) 11 = a1464693) (m1464771 : oR (f1464768 h0) 1 = a1464528) (H : Heap) (locs : List Loc) (ls : Array Slot), WS G cI cJ cZ cD cR cT A kp L f1464768 s H locs → FM kp L ms_X0_payMortgages f0 f1464768 → lv_has ls 2 [(1, .int y1464525), (0, .ref h0)] → W p l e ({ frames := 1, cells := 0, slots := 0, locals := 40 }) s m ([.ref h0] : List Value).toArray below meth c H locs 0 0 (MQ below (QT (po_X0_payMortgages kp L f0 h0) G cI cJ cZ cD cR cT A kp L) ([.ref h0] : List Value).toArray s 0 0 A) (F0 m 100 ls []) := by
          intro f1464768 m1464769 m1464770 m1464771 H locs ls hW hF hl
          refine q_iinc hx hb dX0_payMortgages_100 hl (k := 0) rfl rfl rfl (by omega) (by decide) (fun i1464773 ls h1464774 hl => ?_)
          have hl : lv_has ls 2 [(1, .int i1464773), (0, .ref h0)] := hl
          refine lv_goto (tgt := 2) hx hb dX0_payMortgages_103 (by decide) ?_
          exact ih2 f1464768 i1464773 (by omega) (by omega) _ _ _ hW hF (lv_sub hl [0, 1] rfl)
        refine q_icmp_eq (Y := -1) (tgt := 29) hx hb dX0_payMortgages_23 (by decide) rfl rfl (fun c1464775 => ?_) (fun c1464775 => ?_)
        · refine lv_aload_n hx hb dX0_payMortgages_29 rfl (lv_at hl 1 rfl) ?_
          refine fg_RX0_21 E hW rh0 dX0_payMortgages_30 (fun a1464776 m1464777 r1464778 => ?_)
          obtain rfl : a1464528 = a1464776 := (m1464691).symm.trans m1464777
          refine fg_RX0_201 E hW r1464530 dX0_payMortgages_33 (fun a1464779 m1464780 r1464781 => ?_)
          refine lv_iload_n hx hb dX0_payMortgages_36 rfl (lv_at hl 0 rfl) ?_
          refine gl_169 E hW r1464781 ⟨by omega, by omega⟩ dX0_payMortgages_37 (fun y1464782 m1464783 => ?_)
          refine lv_aload_n hx hb dX0_payMortgages_38 rfl (lv_at hl 1 rfl) ?_
          refine fg_RX0_21 E hW rh0 dX0_payMortgages_39 (fun a1464785 m1464786 r1464787 => ?_)
          obtain rfl : a1464528 = a1464785 := (m1464777).symm.trans m1464786
          refine fg_RX0_222 E hW r1464530 dX0_payMortgages_42 (fun a1464788 m1464789 r1464790 => ?_)
          refine lv_iload_n hx hb dX0_payMortgages_45 rfl (lv_at hl 0 rfl) ?_
          refine gl_170 E hW r1464790 ⟨by omega, by omega⟩ dX0_payMortgages_46 (fun y1464791 m1464792 => ?_)
          refine q_icmp_ge (tgt := 79) hx hb dX0_payMortgages_47 (by decide) rfl rfl (fun c1464794 => ?_) (fun c1464794 => ?_)
          · refine lv_aload_n hx hb dX0_payMortgages_79 rfl (lv_at hl 1 rfl) ?_
            refine fg_RX0_21 E hW rh0 dX0_payMortgages_80 (fun a1464795 m1464796 r1464797 => ?_)
            obtain rfl : a1464528 = a1464795 := (m1464786).symm.trans m1464796
            refine fg_RX0_201 E hW r1464530 dX0_payMortgages_83 (fun a1464798 m1464799 r1464800 => ?_)
            obtain rfl : a1464779 = a1464798 := (m1464780).symm.trans m1464799
            refine lv_iload_n hx hb dX0_payMortgages_86 rfl (lv_at hl 0 rfl) ?_
            refine lv_dup2_11 hx hb dX0_payMortgages_87 rfl rfl ?_
            refine gl_169 E hW r1464781 ⟨by omega, by omega⟩ dX0_payMortgages_88 (fun y1464801 m1464802 => ?_)
            obtain rfl : y1464782 = y1464801 := (m1464783).symm.trans m1464802
            refine lv_aload_n hx hb dX0_payMortgages_89 rfl (lv_at hl 1 rfl) ?_
            refine fg_RX0_21 E hW rh0 dX0_payMortgages_90 (fun a1464804 m1464805 r1464806 => ?_)
            obtain rfl : a1464528 = a1464804 := (m1464796).symm.trans m1464805
            refine fg_RX0_222 E hW r1464530 dX0_payMortgages_93 (fun a1464807 m1464808 r1464809 => ?_)
            obtain rfl : a1464788 = a1464807 := (m1464789).symm.trans m1464808
            refine lv_iload_n hx hb dX0_payMortgages_96 rfl (lv_at hl 0 rfl) ?_
            refine gl_170 E hW r1464790 ⟨by omega, by omega⟩ dX0_payMortgages_97 (fun y1464810 m1464811 => ?_)
            obtain rfl : y1464791 = y1464810 := (m1464792).symm.trans m1464811
            refine u_isub hx hb dX0_payMortgages_98 (fun x1464813 => ?_)
            refine gs_169 E hW r1464781 ⟨by omega, by omega⟩ dX0_payMortgages_99 (fun f1464814 H locs e1464815 n1464816 g1464817 hW => ?_)
            have hF := FM.tr hF g1464817 rfl
            exact J1464772 f1464814 ((fm_I g1464817 r1464530 rfl).trans m1464532) ((fm_R g1464817 r1464530 rfl).trans m1464694) ((fm_R g1464817 rh0 rfl).trans m1464805) _ _ _ hW hF (lv_sub hl [0, 1] rfl)
          · have hb1464818 : y1464782.toInt ≤ 2147483646 := by have := i32_b y1464791; omega
            have hb1464819 : -2147483647 ≤ y1464791.toInt := by have := i32_b y1464782; omega
            refine lv_aload_n hx hb dX0_payMortgages_50 rfl (lv_at hl 1 rfl) ?_
            refine fg_RX0_21 E hW rh0 dX0_payMortgages_51 (fun a1464820 m1464821 r1464822 => ?_)
            obtain rfl : a1464528 = a1464820 := (m1464786).symm.trans m1464821
            refine fg_RX0_219 E hW r1464530 dX0_payMortgages_54 (fun a1464823 m1464824 r1464825 => ?_)
            obtain rfl : a1464693 = a1464823 := (m1464694).symm.trans m1464824
            refine lv_iload_n hx hb dX0_payMortgages_57 rfl (lv_at hl 0 rfl) ?_
            refine lv_aload_n hx hb dX0_payMortgages_58 rfl (lv_at hl 1 rfl) ?_
            refine fg_RX0_93 E hW rh0 dX0_payMortgages_59 (fun y1464826 m1464827 b1464828 => ?_)
            refine lv_bipush (v := 13) hx hb dX0_payMortgages_62 (by decide) ?_
            refine q_idiv (Y := 13) hx hb dX0_payMortgages_64 rfl rfl (by omega) (by omega) (fun x1464829 h1464830 => ?_)
            refine gs_171 E hW r1464695 ⟨by omega, by omega⟩ dX0_payMortgages_65 (fun f1464831 H locs e1464832 n1464833 g1464834 hW => ?_)
            have hF := FM.tr hF g1464834 rfl
            refine lv_aload_n hx hb dX0_payMortgages_66 rfl (lv_at hl 1 rfl) ?_
            refine fg_RX0_21 E hW rh0 dX0_payMortgages_67 (fun a1464835 m1464836 r1464837 => ?_)
            obtain rfl : a1464528 = a1464835 := (((fm_R g1464834 rh0 rfl).trans m1464821)).symm.trans m1464836
            refine fg_RX0_201 E hW r1464530 dX0_payMortgages_70 (fun a1464838 m1464839 r1464840 => ?_)
            obtain rfl : a1464779 = a1464838 := (((fm_R g1464834 r1464530 rfl).trans m1464780)).symm.trans m1464839
            refine lv_iload_n hx hb dX0_payMortgages_73 rfl (lv_at hl 0 rfl) ?_
            refine lv_iconst (v := 0) hx hb dX0_payMortgages_74 (by decide) ?_
            refine gs_169 E hW r1464781 ⟨by omega, by omega⟩ dX0_payMortgages_75 (fun f1464841 H locs e1464842 n1464843 g1464844 hW => ?_)
            have hF := FM.tr hF g1464844 rfl
            refine lv_goto (tgt := 100) hx hb dX0_payMortgages_76 (by decide) ?_
            exact J1464772 f1464841 ((fm_I g1464844 r1464530 rfl).trans ((fm_I g1464834 r1464530 rfl).trans m1464532)) ((fm_R g1464844 r1464530 rfl).trans ((fm_R g1464834 r1464530 rfl).trans m1464824)) ((fm_R g1464844 rh0 rfl).trans m1464836) _ _ _ hW hF (lv_sub hl [0, 1] rfl)
        · refine lv_goto (tgt := 100) hx hb dX0_payMortgages_26 (by decide) ?_
          exact J1464772 f1464524 m1464532 m1464694 m1464691 _ _ _ hW hF (lv_sub hl [0, 1] rfl)
  have hk1464845 : (0 : Int32).toInt = 0 := rfl
  exact L1464527 9 f0 0 (by decide) (by omega) _ _ _ hW hF (lv_sub hl [0, 1] rfl)
def ms_X0_tellWrits : List (Nat × Nat) := [(10, 0), (701, 0), (702, 0), (703, 0), (704, 0), (705, 0), (706, 0)]
def po_X0_tellWrits (kp : Nat → Nat) (L : List Nat) (f0 : Nat → va_E) (h0 : Nat) : Option Value → (Nat → va_E) → Prop := fun v f => v = none ∧ FM kp L ms_X0_tellWrits f0 f
set_option maxHeartbeats 4000000 in
set_option maxRecDepth 100000 in
theorem c_X0_tellWrits (l : Launch) (G : va_G) (cI cJ cZ cD cR cT : ClassId) (kp : Nat → Nat) (L : List Nat) (f0 : Nat → va_E) (hTH : TH cI cJ cZ cD cR cT kp L f0) (sz : Nat) (h0 : Nat) (rh0 : RK kp L h0 0) : Met l yX0_tellWrits (Cond.code yX0_tellWrits cX0_tellWrits 2 none :: wTab) ({ frames := 3, cells := 0, slots := 0, locals := 87 }) (va_Pc [.ref h0] (PreW G (tys6 cI cJ cZ cD cR cT) (va_pl L f0) sz)) (QT (po_X0_tellWrits kp L f0 h0) G cI cJ cZ cD cR cT (va_A (va_pl L f0) sz) kp L) 0 0 (va_A (va_pl L f0) sz) := by
  refine metT (by decide) (Nat.le_of_ble_eq_true rfl) hTH ?_
  intro p e s m below meth c A ls E hW hl
  obtain ⟨hx, hb, -, hml, hown, hts, -, -, -⟩ := id E
  have hF : FM kp L ms_X0_tellWrits f0 f0 := FM.rf
  have hl : lv_has ls 2 [(0, .ref h0)] := hl
  refine lv_iconst (v := 0) hx hb dX0_tellWrits_0 (by decide) ?_
  refine lv_istore_n (lv' := [(1, .int 0), (0, .ref h0)]) hx hb dX0_tellWrits_1 rfl hl (by decide) rfl (fun ls hl => ?_)
  have L1467186 : ∀ (n : Nat), ∀ (f1467183 : Nat → va_E) (y1467184 : Int32) (b1467185 : (0 : Int) ≤ y1467184.toInt ∧ y1467184.toInt ≤ 40) (hm : (41 : Int) - y1467184.toInt ≤ n) (H : Heap) (locs : List Loc) (ls : Array Slot), WS G cI cJ cZ cD cR cT A kp L f1467183 s H locs → FM kp L ms_X0_tellWrits f0 f1467183 → lv_has ls 2 [(1, .int y1467184), (0, .ref h0)] → W p l e ({ frames := 3, cells := 0, slots := 0, locals := 87 }) s m ([.ref h0] : List Value).toArray below meth c H locs 0 0 (MQ below (QT (po_X0_tellWrits kp L f0 h0) G cI cJ cZ cD cR cT A kp L) ([.ref h0] : List Value).toArray s 0 0 A) (F0 m 2 ls []) := by
    intro n
    induction n with
    | zero =>
      intro f1467183 y1467184 b1467185 hm H locs ls hW hF hl
      have hz := i32_b y1467184
      exfalso; omega
    | succ n ih =>
      intro f1467183 y1467184 b1467185 hm H locs ls hW hF hl
      have ih2 := ih
      refine lv_iload_n hx hb dX0_tellWrits_2 rfl (lv_at hl 0 rfl) ?_
      refine lv_aload_n hx hb dX0_tellWrits_3 rfl (lv_at hl 1 rfl) ?_
      refine fg_RX0_21 E hW rh0 dX0_tellWrits_4 (fun a1467187 m1467188 r1467189 => ?_)
      refine fg_RX0_171 E hW r1467189 dX0_tellWrits_7 (fun y1467190 m1467191 b1467192 => ?_)
      refine q_icmp_ge (tgt := 85) hx hb dX0_tellWrits_10 (by decide) rfl rfl (fun c1467306 => ?_) (fun c1467306 => ?_)
      · exact e_V E hW rfl ⟨rfl, hF⟩ dX0_tellWrits_85
      · refine lv_aload_n hx hb dX0_tellWrits_13 rfl (lv_at hl 1 rfl) ?_
        refine fg_RX0_21 E hW rh0 dX0_tellWrits_14 (fun a1467307 m1467308 r1467309 => ?_)
        obtain rfl : a1467187 = a1467307 := (m1467188).symm.trans m1467308
        refine fg_RX0_124 E hW r1467189 dX0_tellWrits_17 (fun a1467310 m1467311 r1467312 => ?_)
        refine lv_iload_n hx hb dX0_tellWrits_20 rfl (lv_at hl 0 rfl) ?_
        refine gl_164 E hW r1467312 ⟨by omega, by omega⟩ dX0_tellWrits_21 (fun y1467313 m1467314 b1467315 => ?_)
        refine lv_iconst (v := (-1)) hx hb dX0_tellWrits_22 (by decide) ?_
        have J1467368 : ∀ (f1467364 : Nat → va_E) (m1467365 : oI (f1467364 a1467187) 0 = y1467190) (m1467366 : oR (f1467364 a1467187) 4 = a1467310) (m1467367 : oR (f1467364 h0) 1 = a1467187) (H : Heap) (locs : List Loc) (ls : Array Slot), WS G cI cJ cZ cD cR cT A kp L f1467364 s H locs → FM kp L ms_X0_tellWrits f0 f1467364 → lv_has ls 2 [(1, .int y1467184), (0, .ref h0)] → W p l e ({ frames := 3, cells := 0, slots := 0, locals := 87 }) s m ([.ref h0] : List Value).toArray below meth c H locs 0 0 (MQ below (QT (po_X0_tellWrits kp L f0 h0) G cI cJ cZ cD cR cT A kp L) ([.ref h0] : List Value).toArray s 0 0 A) (F0 m 79 ls []) := by
          intro f1467364 m1467365 m1467366 m1467367 H locs ls hW hF hl
          clear b1467315
          refine q_iinc hx hb dX0_tellWrits_79 hl (k := 0) rfl rfl rfl (by omega) (by decide) (fun i1467369 ls h1467370 hl => ?_)
          have hl : lv_has ls 2 [(1, .int i1467369), (0, .ref h0)] := hl
          refine lv_goto (tgt := 2) hx hb dX0_tellWrits_82 (by decide) ?_
          exact ih2 f1467364 i1467369 (by omega) (by omega) _ _ _ hW hF (lv_sub hl [0, 1] rfl)
        refine q_icmp_eq (Y := -1) (tgt := 79) hx hb dX0_tellWrits_23 (by decide) rfl rfl (fun c1467371 => ?_) (fun c1467371 => ?_)
        · exact J1467368 f1467183 m1467191 m1467311 m1467308 _ _ _ hW hF (lv_sub hl [0, 1] rfl)
        · refine lv_aload_n hx hb dX0_tellWrits_26 rfl (lv_at hl 1 rfl) ?_
          refine fg_RX0_21 E hW rh0 dX0_tellWrits_27 (fun a1467372 m1467373 r1467374 => ?_)
          obtain rfl : a1467187 = a1467372 := (m1467308).symm.trans m1467373
          refine fg_RX0_188 E hW r1467189 dX0_tellWrits_30 (fun a1467375 m1467376 r1467377 => ?_)
          refine lv_iload_n hx hb dX0_tellWrits_33 rfl (lv_at hl 0 rfl) ?_
          refine gl_165 E hW r1467377 ⟨by omega, by omega⟩ dX0_tellWrits_34 (fun y1467378 m1467379 => ?_)
          refine q_if_le (tgt := 79) hx hb dX0_tellWrits_35 (by decide) rfl (fun c1467381 => ?_) (fun c1467381 => ?_)
          · exact J1467368 f1467183 m1467191 m1467311 m1467373 _ _ _ hW hF (lv_sub hl [0, 1] rfl)
          · refine lv_aload_n hx hb dX0_tellWrits_38 rfl (lv_at hl 1 rfl) ?_
            refine fg_RX0_28 E hW rh0 dX0_tellWrits_39 (fun a1467382 m1467383 r1467384 => ?_)
            refine lv_iload_n hx hb dX0_tellWrits_42 rfl (lv_at hl 0 rfl) ?_
            refine t_callV (As := [.int y1467184]) (rest := []) E hW (c_X10_openOn l G cI cJ cZ cD cR cT kp L f1467183 hW.2.2.2 _ a1467382 y1467184 r1467384 (by omega)) r1467384 (by decide) rfl wk_X10_openOn tw_1143 rfl ⟨Nat.le_of_ble_eq_true rfl, Nat.le_of_ble_eq_true rfl⟩ ⟨rfl, rfl⟩ hl.1 rfl (Nat.le_of_ble_eq_true rfl) dX0_tellWrits_43 ⟨Nat.le_of_ble_eq_true rfl, Nat.le_of_ble_eq_true rfl⟩ (fun v1467385 f1467386 H locs q1467387 hW => ?_)
            obtain ⟨⟨x1467389, rfl, p1467390⟩, g1467388⟩ := q1467387
            have hF := FM.tr hF g1467388 rfl
            refine lv_iconst (v := (-1)) hx hb dX0_tellWrits_46 (by decide) ?_
            refine q_icmp_ne (Y := -1) (tgt := 79) hx hb dX0_tellWrits_47 (by decide) rfl rfl (fun c1467391 => ?_) (fun c1467391 => ?_)
            · exact J1467368 f1467386 ((fm_I g1467388 r1467189 rfl).trans m1467191) ((fm_R g1467388 r1467189 rfl).trans m1467311) ((fm_R g1467388 rh0 rfl).trans m1467373) _ _ _ hW hF (lv_sub hl [0, 1] rfl)
            · refine lv_aload_n hx hb dX0_tellWrits_50 rfl (lv_at hl 1 rfl) ?_
              refine fg_RX0_28 E hW rh0 dX0_tellWrits_51 (fun a1467392 m1467393 r1467394 => ?_)
              obtain rfl : a1467382 = a1467392 := (((fm_R g1467388 rh0 rfl).trans m1467383)).symm.trans m1467393
              refine lv_iload_n hx hb dX0_tellWrits_54 rfl (lv_at hl 0 rfl) ?_
              refine lv_aload_n hx hb dX0_tellWrits_55 rfl (lv_at hl 1 rfl) ?_
              refine fg_RX0_21 E hW rh0 dX0_tellWrits_56 (fun a1467395 m1467396 r1467397 => ?_)
              obtain rfl : a1467187 = a1467395 := (((fm_R g1467388 rh0 rfl).trans m1467373)).symm.trans m1467396
              refine fg_RX0_124 E hW r1467189 dX0_tellWrits_59 (fun a1467398 m1467399 r1467400 => ?_)
              obtain rfl : a1467310 = a1467398 := (((fm_R g1467388 r1467189 rfl).trans m1467311)).symm.trans m1467399
              refine lv_iload_n hx hb dX0_tellWrits_62 rfl (lv_at hl 0 rfl) ?_
              refine gl_164 E hW r1467312 ⟨by omega, by omega⟩ dX0_tellWrits_63 (fun y1467401 m1467402 b1467403 => ?_)
              obtain rfl : y1467313 = y1467401 := (((congrArg (fun z => aI z (y1467184 : Int32).toNatClampNeg) (fm_A g1467388 r1467312 (by decide) rfl)).trans m1467314)).symm.trans m1467402
              refine lv_aload_n hx hb dX0_tellWrits_64 rfl (lv_at hl 1 rfl) ?_
              refine fg_RX0_42 E hW rh0 dX0_tellWrits_65 (fun a1467404 m1467405 r1467406 => ?_)
              refine lv_iconst (v := 0) hx hb dX0_tellWrits_68 (by decide) ?_
              refine t_callV (As := [.int 0]) (rest := [.int y1467313, .int y1467184, .ref a1467382]) E hW (c_X2_weeksOf l G cI cJ cZ cD cR cT kp L f1467386 hW.2.2.2 _ a1467404 0 r1467406 (by decide)) r1467406 (by decide) rfl wk_X2_weeksOf tw_1144 rfl ⟨Nat.le_of_ble_eq_true rfl, Nat.le_of_ble_eq_true rfl⟩ ⟨rfl, rfl⟩ hl.1 rfl (Nat.le_of_ble_eq_true rfl) dX0_tellWrits_69 ⟨Nat.le_of_ble_eq_true rfl, Nat.le_of_ble_eq_true rfl⟩ (fun v1467407 f1467408 H locs q1467409 hW => ?_)
              obtain ⟨⟨x1467411, rfl, p1467412⟩, g1467410⟩ := q1467409
              clear p1467412
              have hF := FM.tr hF g1467410 rfl
              refine lv_aload_n hx hb dX0_tellWrits_72 rfl (lv_at hl 1 rfl) ?_
              refine fg_RX0_93 E hW rh0 dX0_tellWrits_73 (fun y1467413 m1467414 b1467415 => ?_)
              refine t_callV (As := [.int y1467184, .int y1467313, .int x1467411, .int y1467413]) (rest := []) E hW (c_X10_add l G cI cJ cZ cD cR cT kp L f1467408 hW.2.2.2 _ a1467382 y1467184 y1467313 x1467411 y1467413 r1467384 (by omega) (by omega) (by omega)) r1467384 (by decide) rfl wk_X10_add tw_1145 rfl ⟨Nat.le_of_ble_eq_true rfl, Nat.le_of_ble_eq_true rfl⟩ ⟨rfl, rfl⟩ hl.1 rfl (Nat.le_of_ble_eq_true rfl) dX0_tellWrits_76 ⟨Nat.le_of_ble_eq_true rfl, Nat.le_of_ble_eq_true rfl⟩ (fun v1467416 f1467417 H locs q1467418 hW => ?_)
              obtain ⟨rfl, g1467419⟩ := q1467418
              have hF := FM.tr hF g1467419 rfl
              exact J1467368 f1467417 ((fm_I g1467419 r1467189 rfl).trans ((fm_I g1467410 r1467189 rfl).trans ((fm_I g1467388 r1467189 rfl).trans m1467191))) ((fm_R g1467419 r1467189 rfl).trans ((fm_R g1467410 r1467189 rfl).trans m1467399)) ((fm_R g1467419 rh0 rfl).trans ((fm_R g1467410 rh0 rfl).trans m1467396)) _ _ _ hW hF (lv_sub hl [0, 1] rfl)
  have hk1467420 : (0 : Int32).toInt = 0 := rfl
  exact L1467186 41 f0 0 (by decide) (by omega) _ _ _ hW hF (lv_sub hl [0, 1] rfl)
def ms_X0_payDraws : List (Nat × Nat) := [(3, 0), (115, 0), (342, 0)]
def po_X0_payDraws (kp : Nat → Nat) (L : List Nat) (f0 : Nat → va_E) (h0 : Nat) : Option Value → (Nat → va_E) → Prop := fun v f => v = none ∧ FM kp L ms_X0_payDraws f0 f
set_option maxHeartbeats 4000000 in
set_option maxRecDepth 100000 in
theorem c_X0_payDraws (l : Launch) (G : va_G) (cI cJ cZ cD cR cT : ClassId) (kp : Nat → Nat) (L : List Nat) (f0 : Nat → va_E) (hTH : TH cI cJ cZ cD cR cT kp L f0) (sz : Nat) (h0 : Nat) (rh0 : RK kp L h0 0) : Met l yX0_payDraws (Cond.code yX0_payDraws cX0_payDraws 4 none :: wTab) ({ frames := 5, cells := 0, slots := 0, locals := 145 }) (va_Pc [.ref h0] (PreW G (tys6 cI cJ cZ cD cR cT) (va_pl L f0) sz)) (QT (po_X0_payDraws kp L f0 h0) G cI cJ cZ cD cR cT (va_A (va_pl L f0) sz) kp L) 0 0 (va_A (va_pl L f0) sz) := by
  refine metT (by decide) (Nat.le_of_ble_eq_true rfl) hTH ?_
  intro p e s m below meth c A ls E hW hl
  obtain ⟨hx, hb, -, hml, hown, hts, -, -, -⟩ := id E
  have hF : FM kp L ms_X0_payDraws f0 f0 := FM.rf
  have hl : lv_has ls 4 [(0, .ref h0)] := hl
  refine lv_iconst (v := 0) hx hb dX0_payDraws_0 (by decide) ?_
  refine lv_istore_n (lv' := [(1, .int 0), (0, .ref h0)]) hx hb dX0_payDraws_1 rfl hl (by decide) rfl (fun ls hl => ?_)
  have L1469913 : ∀ (n : Nat), ∀ (f1469910 : Nat → va_E) (y1469911 : Int32) (b1469912 : (0 : Int) ≤ y1469911.toInt ∧ y1469911.toInt ≤ 40) (hm : (41 : Int) - y1469911.toInt ≤ n) (H : Heap) (locs : List Loc) (ls : Array Slot), WS G cI cJ cZ cD cR cT A kp L f1469910 s H locs → FM kp L ms_X0_payDraws f0 f1469910 → lv_has ls 4 [(1, .int y1469911), (0, .ref h0)] → W p l e ({ frames := 5, cells := 0, slots := 0, locals := 145 }) s m ([.ref h0] : List Value).toArray below meth c H locs 0 0 (MQ below (QT (po_X0_payDraws kp L f0 h0) G cI cJ cZ cD cR cT A kp L) ([.ref h0] : List Value).toArray s 0 0 A) (F0 m 2 ls []) := by
    intro n
    induction n with
    | zero =>
      intro f1469910 y1469911 b1469912 hm H locs ls hW hF hl
      have hz := i32_b y1469911
      exfalso; omega
    | succ n ih =>
      intro f1469910 y1469911 b1469912 hm H locs ls hW hF hl
      have ih2 := ih
      refine lv_iload_n hx hb dX0_payDraws_2 rfl (lv_at hl 0 rfl) ?_
      refine lv_aload_n hx hb dX0_payDraws_3 rfl (lv_at hl 1 rfl) ?_
      refine fg_RX0_12 E hW rh0 dX0_payDraws_4 (fun a1469914 m1469915 r1469916 => ?_)
      refine fg_RX0_263 E hW r1469916 dX0_payDraws_7 (fun y1469917 m1469918 b1469919 => ?_)
      refine q_icmp_ge (tgt := 97) hx hb dX0_payDraws_10 (by decide) rfl rfl (fun c1470041 => ?_) (fun c1470041 => ?_)
      · exact e_V E hW rfl ⟨rfl, hF⟩ dX0_payDraws_97
      · refine lv_aload_n hx hb dX0_payDraws_13 rfl (lv_at hl 1 rfl) ?_
        refine fg_RX0_12 E hW rh0 dX0_payDraws_14 (fun a1470042 m1470043 r1470044 => ?_)
        obtain rfl : a1469914 = a1470042 := (m1469915).symm.trans m1470043
        refine fg_RX0_182 E hW r1469916 dX0_payDraws_17 (fun a1470045 m1470046 r1470047 => ?_)
        refine lv_iload_n hx hb dX0_payDraws_20 rfl (lv_at hl 0 rfl) ?_
        refine gl_346 E hW r1470047 ⟨by omega, by omega⟩ dX0_payDraws_21 (fun y1470048 m1470049 => ?_)
        refine lv_iconst (v := 1) hx hb dX0_payDraws_22 (by decide) ?_
        have J1470107 : ∀ (f1470103 : Nat → va_E) (m1470104 : oI (f1470103 a1469914) 0 = y1469917) (m1470105 : oR (f1470103 a1469914) 6 = a1470045) (m1470106 : oR (f1470103 h0) 0 = a1469914) (H : Heap) (locs : List Loc) (ls : Array Slot), WS G cI cJ cZ cD cR cT A kp L f1470103 s H locs → FM kp L ms_X0_payDraws f0 f1470103 → lv_has ls 4 [(1, .int y1469911), (0, .ref h0)] → W p l e ({ frames := 5, cells := 0, slots := 0, locals := 145 }) s m ([.ref h0] : List Value).toArray below meth c H locs 0 0 (MQ below (QT (po_X0_payDraws kp L f0 h0) G cI cJ cZ cD cR cT A kp L) ([.ref h0] : List Value).toArray s 0 0 A) (F0 m 91 ls []) := by
          intro f1470103 m1470104 m1470105 m1470106 H locs ls hW hF hl
          refine q_iinc hx hb dX0_payDraws_91 hl (k := 0) rfl rfl rfl (by omega) (by decide) (fun i1470108 ls h1470109 hl => ?_)
          have hl : lv_has ls 4 [(1, .int i1470108), (0, .ref h0)] := hl
          refine lv_goto (tgt := 2) hx hb dX0_payDraws_94 (by decide) ?_
          exact ih2 f1470103 i1470108 (by omega) (by omega) _ _ _ hW hF (lv_sub hl [0, 1] rfl)
        refine q_icmp_ne (Y := 1) (tgt := 91) hx hb dX0_payDraws_23 (by decide) rfl rfl (fun c1470110 => ?_) (fun c1470110 => ?_)
        · exact J1470107 f1469910 m1469918 m1470046 m1470043 _ _ _ hW hF (lv_sub hl [0, 1] rfl)
        · refine lv_aload_n hx hb dX0_payDraws_26 rfl (lv_at hl 1 rfl) ?_
          refine fg_RX0_12 E hW rh0 dX0_payDraws_27 (fun a1470111 m1470112 r1470113 => ?_)
          obtain rfl : a1469914 = a1470111 := (m1470043).symm.trans m1470112
          refine fg_RX0_130 E hW r1469916 dX0_payDraws_30 (fun a1470114 m1470115 r1470116 => ?_)
          refine lv_iload_n hx hb dX0_payDraws_33 rfl (lv_at hl 0 rfl) ?_
          refine gl_347 E hW r1470116 ⟨by omega, by omega⟩ dX0_payDraws_34 (fun y1470117 m1470118 => ?_)
          refine lv_iconst (v := (-1)) hx hb dX0_payDraws_35 (by decide) ?_
          refine q_icmp_ne (Y := -1) (tgt := 42) hx hb dX0_payDraws_36 (by decide) rfl rfl (fun c1470120 => ?_) (fun c1470120 => ?_)
          · refine lv_aload_n hx hb dX0_payDraws_42 rfl (lv_at hl 1 rfl) ?_
            refine lv_iload_n hx hb dX0_payDraws_43 rfl (lv_at hl 0 rfl) ?_
            refine t_callV (As := [.int y1469911]) (rest := []) E hW (c_X0_drawOf l G cI cJ cZ cD cR cT kp L f1469910 hW.2.2.2 _ h0 y1469911 rh0 (by omega)) rh0 (by decide) rfl wk_X0_drawOf tw_1162 rfl ⟨Nat.le_of_ble_eq_true rfl, Nat.le_of_ble_eq_true rfl⟩ ⟨rfl, rfl⟩ hl.1 rfl (Nat.le_of_ble_eq_true rfl) dX0_payDraws_44 ⟨Nat.le_of_ble_eq_true rfl, Nat.le_of_ble_eq_true rfl⟩ (fun v1470121 f1470122 H locs q1470123 hW => ?_)
            obtain ⟨⟨x1470125, rfl, p1470126⟩, g1470124⟩ := q1470123
            clear p1470126
            have hF := FM.tr hF g1470124 rfl
            refine lv_lstore_n (lv' := [(2, .long x1470125), (1, .int y1469911), (0, .ref h0)]) hx hb dX0_payDraws_47 rfl hl (by decide) rfl (fun ls hl => ?_)
            refine lv_lload_n hx hb dX0_payDraws_48 rfl (lv_at hl 0 rfl) ?_
            refine lv_lconst (v := 0) hx hb dX0_payDraws_49 (by decide) ?_
            refine q_lcmp_le (Y := 0) (tgt := 91) hx hb dX0_payDraws_50 dX0_payDraws_51 (by decide) rfl rfl (fun c1470127 => ?_) (fun c1470127 => ?_)
            · exact J1470107 f1470122 ((fm_I g1470124 r1469916 rfl).trans m1469918) ((fm_R g1470124 r1469916 rfl).trans m1470046) ((fm_R g1470124 rh0 rfl).trans m1470112) _ _ _ hW hF (lv_sub hl [1, 2] rfl)
            · refine lv_lload_n hx hb dX0_payDraws_54 rfl (lv_at hl 0 rfl) ?_
              refine lv_aload_n hx hb dX0_payDraws_55 rfl (lv_at hl 2 rfl) ?_
              refine fg_RX0_49 E hW rh0 dX0_payDraws_56 (fun a1470128 m1470129 r1470130 => ?_)
              refine fg_RX0_268 E hW r1470130 dX0_payDraws_59 (fun y1470131 m1470132 => ?_)
              refine q_i2l hx hb dX0_payDraws_62 rfl (fun x1470134 h1470135 => ?_)
              have hb1470136 : -2147483648 ≤ x1470134.toInt ∧ x1470134.toInt ≤ 2147483647 := by have := i32_b y1470131; omega
              refine q_lcmp_gt (tgt := 91) hx hb dX0_payDraws_63 dX0_payDraws_64 (by decide) rfl rfl (fun c1470137 => ?_) (fun c1470137 => ?_)
              · exact J1470107 f1470122 ((fm_I g1470124 r1469916 rfl).trans m1469918) ((fm_R g1470124 r1469916 rfl).trans m1470046) ((fm_R g1470124 rh0 rfl).trans m1470112) _ _ _ hW hF (lv_sub hl [1, 2] rfl)
              · refine lv_aload_n hx hb dX0_payDraws_67 rfl (lv_at hl 2 rfl) ?_
                refine fg_RX0_49 E hW rh0 dX0_payDraws_68 (fun a1470138 m1470139 r1470140 => ?_)
                obtain rfl : a1470128 = a1470138 := (m1470129).symm.trans m1470139
                refine lv_dup hx hb dX0_payDraws_71 rfl ?_
                refine fg_RX0_268 E hW r1470130 dX0_payDraws_72 (fun y1470141 m1470142 => ?_)
                obtain rfl : y1470131 = y1470141 := (m1470132).symm.trans m1470142
                refine lv_lload_n hx hb dX0_payDraws_75 rfl (lv_at hl 0 rfl) ?_
                refine q_l2i hx hb dX0_payDraws_76 rfl (by omega) (fun x1470144 h1470145 => ?_)
                have hb1470148 : -2147483648 ≤ y1470131.toInt ∧ y1470131.toInt ≤ 2147483647 := i32_b y1470131
                have hb1470149 : -2147483648 ≤ x1470144.toInt ∧ x1470144.toInt ≤ 2147483647 := i32_b x1470144
                refine q_isub hx hb dX0_payDraws_77 rfl rfl (by omega) (fun x1470146 h1470147 => ?_)
                refine fp_RX0_268 E hW r1470130 dX0_payDraws_78 (fun f1470150 H locs e1470151 n1470152 g1470153 hW => ?_)
                have hF := FM.tr hF g1470153 rfl
                refine lv_aload_n hx hb dX0_payDraws_81 rfl (lv_at hl 2 rfl) ?_
                refine fg_RX0_12 E hW rh0 dX0_payDraws_82 (fun a1470154 m1470155 r1470156 => ?_)
                obtain rfl : a1469914 = a1470154 := (((fm_R g1470153 rh0 rfl).trans ((fm_R g1470124 rh0 rfl).trans m1470112))).symm.trans m1470155
                refine lv_iload_n hx hb dX0_payDraws_85 rfl (lv_at hl 1 rfl) ?_
                refine lv_lload_n hx hb dX0_payDraws_86 rfl (lv_at hl 0 rfl) ?_
                refine q_l2i hx hb dX0_payDraws_87 rfl (by omega) (fun x1470157 h1470158 => ?_)
                refine t_callV (As := [.int y1469911, .int x1470157]) (rest := []) E hW (c_X4_gain l G cI cJ cZ cD cR cT kp L f1470150 hW.2.2.2 _ a1469914 y1469911 x1470157 r1469916 (by omega) (by omega)) r1469916 (by decide) rfl wk_X4_gain tw_1166 rfl ⟨Nat.le_of_ble_eq_true rfl, Nat.le_of_ble_eq_true rfl⟩ ⟨rfl, rfl⟩ hl.1 rfl (Nat.le_of_ble_eq_true rfl) dX0_payDraws_88 ⟨Nat.le_of_ble_eq_true rfl, Nat.le_of_ble_eq_true rfl⟩ (fun v1470159 f1470160 H locs q1470161 hW => ?_)
                obtain ⟨rfl, g1470162⟩ := q1470161
                have hF := FM.tr hF g1470162 rfl
                exact J1470107 f1470160 ((fm_I g1470162 r1469916 rfl).trans ((fm_I g1470153 r1469916 rfl).trans ((fm_I g1470124 r1469916 rfl).trans m1469918))) ((fm_R g1470162 r1469916 rfl).trans ((fm_R g1470153 r1469916 rfl).trans ((fm_R g1470124 r1469916 rfl).trans m1470046))) ((fm_R g1470162 rh0 rfl).trans m1470155) _ _ _ hW hF (lv_sub hl [1, 2] rfl)
          · refine lv_goto (tgt := 91) hx hb dX0_payDraws_39 (by decide) ?_
            exact J1470107 f1469910 m1469918 m1470046 m1470112 _ _ _ hW hF (lv_sub hl [0, 1] rfl)
  have hk1470163 : (0 : Int32).toInt = 0 := rfl
  exact L1469913 41 f0 0 (by decide) (by omega) _ _ _ hW hF (lv_sub hl [0, 1] rfl)
def ms_X0_renewBans : List (Nat × Nat) := [(115, 0), (348, 0), (349, 0)]
def po_X0_renewBans (kp : Nat → Nat) (L : List Nat) (f0 : Nat → va_E) (h0 : Nat) : Option Value → (Nat → va_E) → Prop := fun v f => v = none ∧ FM kp L ms_X0_renewBans f0 f
set_option maxHeartbeats 4000000 in
set_option maxRecDepth 100000 in
theorem c_X0_renewBans (l : Launch) (G : va_G) (cI cJ cZ cD cR cT : ClassId) (kp : Nat → Nat) (L : List Nat) (f0 : Nat → va_E) (hTH : TH cI cJ cZ cD cR cT kp L f0) (sz : Nat) (h0 : Nat) (rh0 : RK kp L h0 0) : Met l yX0_renewBans (Cond.code yX0_renewBans cX0_renewBans 2 none :: wTab) ({ frames := 5, cells := 0, slots := 0, locals := 143 }) (va_Pc [.ref h0] (PreW G (tys6 cI cJ cZ cD cR cT) (va_pl L f0) sz)) (QT (po_X0_renewBans kp L f0 h0) G cI cJ cZ cD cR cT (va_A (va_pl L f0) sz) kp L) 0 0 (va_A (va_pl L f0) sz) := by
  refine metT (by decide) (Nat.le_of_ble_eq_true rfl) hTH ?_
  intro p e s m below meth c A ls E hW hl
  obtain ⟨hx, hb, -, hml, hown, hts, -, -, -⟩ := id E
  have hF : FM kp L ms_X0_renewBans f0 f0 := FM.rf
  have hl : lv_has ls 2 [(0, .ref h0)] := hl
  refine lv_iconst (v := 0) hx hb dX0_renewBans_0 (by decide) ?_
  refine lv_istore_n (lv' := [(1, .int 0), (0, .ref h0)]) hx hb dX0_renewBans_1 rfl hl (by decide) rfl (fun ls hl => ?_)
  have L1470775 : ∀ (n : Nat), ∀ (f1470772 : Nat → va_E) (y1470773 : Int32) (b1470774 : (0 : Int) ≤ y1470773.toInt ∧ y1470773.toInt ≤ 40) (hm : (41 : Int) - y1470773.toInt ≤ n) (H : Heap) (locs : List Loc) (ls : Array Slot), WS G cI cJ cZ cD cR cT A kp L f1470772 s H locs → FM kp L ms_X0_renewBans f0 f1470772 → lv_has ls 2 [(1, .int y1470773), (0, .ref h0)] → W p l e ({ frames := 5, cells := 0, slots := 0, locals := 143 }) s m ([.ref h0] : List Value).toArray below meth c H locs 0 0 (MQ below (QT (po_X0_renewBans kp L f0 h0) G cI cJ cZ cD cR cT A kp L) ([.ref h0] : List Value).toArray s 0 0 A) (F0 m 2 ls []) := by
    intro n
    induction n with
    | zero =>
      intro f1470772 y1470773 b1470774 hm H locs ls hW hF hl
      have hz := i32_b y1470773
      exfalso; omega
    | succ n ih =>
      intro f1470772 y1470773 b1470774 hm H locs ls hW hF hl
      have ih2 := ih
      refine lv_iload_n hx hb dX0_renewBans_2 rfl (lv_at hl 0 rfl) ?_
      refine lv_aload_n hx hb dX0_renewBans_3 rfl (lv_at hl 1 rfl) ?_
      refine fg_RX0_12 E hW rh0 dX0_renewBans_4 (fun a1470776 m1470777 r1470778 => ?_)
      refine fg_RX0_263 E hW r1470778 dX0_renewBans_7 (fun y1470779 m1470780 b1470781 => ?_)
      refine q_icmp_ge (tgt := 45) hx hb dX0_renewBans_10 (by decide) rfl rfl (fun c1470804 => ?_) (fun c1470804 => ?_)
      · refine lv_aload_n hx hb dX0_renewBans_45 rfl (lv_at hl 1 rfl) ?_
        refine fg_RX0_12 E hW rh0 dX0_renewBans_46 (fun a1470805 m1470806 r1470807 => ?_)
        obtain rfl : a1470776 = a1470805 := (m1470777).symm.trans m1470806
        refine fg_RX0_274 E hW r1470778 dX0_renewBans_49 (fun a1470808 m1470809 r1470810 => ?_)
        refine lv_iconst (v := 0) hx hb dX0_renewBans_52 (by decide) ?_
        refine lv_aload_n hx hb dX0_renewBans_53 rfl (lv_at hl 1 rfl) ?_
        refine fg_RX0_12 E hW rh0 dX0_renewBans_54 (fun a1470811 m1470812 r1470813 => ?_)
        obtain rfl : a1470776 = a1470811 := (m1470806).symm.trans m1470812
        refine fg_RX0_277 E hW r1470778 dX0_renewBans_57 (fun a1470814 m1470815 r1470816 => ?_)
        refine lv_iconst (v := 0) hx hb dX0_renewBans_60 (by decide) ?_
        refine lv_aload_n hx hb dX0_renewBans_61 rfl (lv_at hl 1 rfl) ?_
        refine fg_RX0_12 E hW rh0 dX0_renewBans_62 (fun a1470817 m1470818 r1470819 => ?_)
        obtain rfl : a1470776 = a1470817 := (m1470812).symm.trans m1470818
        refine fg_RX0_263 E hW r1470778 dX0_renewBans_65 (fun y1470820 m1470821 b1470822 => ?_)
        obtain rfl : y1470779 = y1470820 := (m1470780).symm.trans m1470821
        refine t_copy (n0 := 40) (n1 := 40) E hW tw_1175 ⟨tw_1004, tw_1003, tw_122⟩ hl.1 rfl r1470810 (by decide) rfl r1470816 (by decide) rfl rfl (by decide) rfl (by decide) (by decide) ⟨by omega, by omega⟩ (fun _ _ => trivial) ⟨Nat.le_of_ble_eq_true rfl, Nat.le_of_ble_eq_true rfl⟩ dX0_renewBans_68 (fun f1470823 H locs n1470825 g1470826 hW => ?_)
        have hF := FM.tr hF g1470826 rfl
        exact e_V E hW rfl ⟨rfl, hF⟩ dX0_renewBans_71
      · refine lv_aload_n hx hb dX0_renewBans_13 rfl (lv_at hl 1 rfl) ?_
        refine fg_RX0_12 E hW rh0 dX0_renewBans_14 (fun a1470827 m1470828 r1470829 => ?_)
        obtain rfl : a1470776 = a1470827 := (m1470777).symm.trans m1470828
        refine fg_RX0_274 E hW r1470778 dX0_renewBans_17 (fun a1470830 m1470831 r1470832 => ?_)
        refine lv_iload_n hx hb dX0_renewBans_20 rfl (lv_at hl 0 rfl) ?_
        refine lv_aload_n hx hb dX0_renewBans_21 rfl (lv_at hl 1 rfl) ?_
        refine lv_sipush (v := 263) hx hb dX0_renewBans_22 (by decide) ?_
        refine lv_iload_n hx hb dX0_renewBans_25 rfl (lv_at hl 0 rfl) ?_
        refine lv_iconst (v := (-1)) hx hb dX0_renewBans_26 (by decide) ?_
        refine t_callV (As := [.int 263, .int y1470773, .int (-1)]) (rest := [.int y1470773, .ref a1470830]) E hW (c_X0_anyHolds l G cI cJ cZ cD cR cT kp L f1470772 hW.2.2.2 _ h0 263 y1470773 (-1) rh0 (by decide) (by omega) (by decide)) rh0 (by decide) rfl wk_X0_anyHolds tw_752 rfl ⟨Nat.le_of_ble_eq_true rfl, Nat.le_of_ble_eq_true rfl⟩ ⟨rfl, rfl⟩ hl.1 rfl (Nat.le_of_ble_eq_true rfl) dX0_renewBans_27 ⟨Nat.le_of_ble_eq_true rfl, Nat.le_of_ble_eq_true rfl⟩ (fun v1470833 f1470834 H locs q1470835 hW => ?_)
        obtain ⟨⟨x1470837, rfl, p1470838⟩, g1470836⟩ := q1470835
        have p1470838 : (0 : Int) ≤ x1470837.toInt ∧ x1470837.toInt ≤ 1 := p1470838
        have hF := FM.tr hF g1470836 rfl
        have J1470841 : ∀ (y1470839 : Int32) (b1470840 : (0 : Int) ≤ y1470839.toInt ∧ y1470839.toInt ≤ 1) (H : Heap) (locs : List Loc) (ls : Array Slot), WS G cI cJ cZ cD cR cT A kp L f1470834 s H locs → FM kp L ms_X0_renewBans f0 f1470834 → lv_has ls 2 [(1, .int y1470773), (0, .ref h0)] → W p l e ({ frames := 5, cells := 0, slots := 0, locals := 143 }) s m ([.ref h0] : List Value).toArray below meth c H locs 0 0 (MQ below (QT (po_X0_renewBans kp L f0 h0) G cI cJ cZ cD cR cT A kp L) ([.ref h0] : List Value).toArray s 0 0 A) (F0 m 38 ls [.int y1470839, .int y1470773, .ref a1470830]) := by
          intro y1470839 b1470840 H locs ls hW hF hl
          clear p1470838
          refine gs_349 E hW r1470832 ⟨by omega, by omega⟩ dX0_renewBans_38 (fun f1470842 H locs e1470843 n1470844 g1470845 hW => ?_)
          have hF := FM.tr hF g1470845 rfl
          refine q_iinc hx hb dX0_renewBans_39 hl (k := 0) rfl rfl rfl (by omega) (by decide) (fun i1470846 ls h1470847 hl => ?_)
          have hl : lv_has ls 2 [(1, .int i1470846), (0, .ref h0)] := hl
          refine lv_goto (tgt := 2) hx hb dX0_renewBans_42 (by decide) ?_
          exact ih2 f1470842 i1470846 (by omega) (by omega) _ _ _ hW hF (lv_sub hl [0, 1] rfl)
        refine q_if_eq (tgt := 37) hx hb dX0_renewBans_30 (by decide) rfl (fun c1470848 => ?_) (fun c1470848 => ?_)
        · refine lv_iconst (v := 0) hx hb dX0_renewBans_37 (by decide) ?_
          exact J1470841 0 (by decide) _ _ _ hW hF (lv_sub hl [0, 1] rfl)
        · refine lv_iconst (v := 1) hx hb dX0_renewBans_33 (by decide) ?_
          refine lv_goto (tgt := 38) hx hb dX0_renewBans_34 (by decide) ?_
          exact J1470841 1 (by decide) _ _ _ hW hF (lv_sub hl [0, 1] rfl)
  have hk1470849 : (0 : Int32).toInt = 0 := rfl
  exact L1470775 41 f0 0 (by decide) (by omega) _ _ _ hW hF (lv_sub hl [0, 1] rfl)
def ms_X0_passWeek : List (Nat × Nat) := [(0, 6), (0, 12), (0, 13), (0, 14), (3, 0), (10, 0), (115, 0), (164, 0), (165, 0), (166, 0), (167, 0), (169, 0), (171, 0), (222, 0), (223, 0), (342, 0), (345, 0), (346, 0), (347, 0), (348, 0), (349, 0), (701, 0), (702, 0), (703, 0), (704, 0), (705, 0), (706, 0)]
def po_X0_passWeek (kp : Nat → Nat) (L : List Nat) (f0 : Nat → va_E) (h0 : Nat) : Option Value → (Nat → va_E) → Prop := fun v f => v = none ∧ FM kp L ms_X0_passWeek f0 f
set_option maxHeartbeats 4000000 in
set_option maxRecDepth 100000 in
theorem c_X0_passWeek (l : Launch) (G : va_G) (cI cJ cZ cD cR cT : ClassId) (kp : Nat → Nat) (L : List Nat) (f0 : Nat → va_E) (hTH : TH cI cJ cZ cD cR cT kp L f0) (sz : Nat) (h0 : Nat) (rh0 : RK kp L h0 0) : Met l yX0_passWeek (Cond.code yX0_passWeek cX0_passWeek 2 none :: wTab) ({ frames := 6, cells := 0, slots := 0, locals := 170 }) (va_Pc [.ref h0] (PreW G (tys6 cI cJ cZ cD cR cT) (va_pl L f0) sz)) (QT (po_X0_passWeek kp L f0 h0) G cI cJ cZ cD cR cT (va_A (va_pl L f0) sz) kp L) 0 0 (va_A (va_pl L f0) sz) := by
  refine metT (by decide) (Nat.le_of_ble_eq_true rfl) hTH ?_
  intro p e s m below meth c A ls E hW hl
  obtain ⟨hx, hb, -, hml, hown, hts, -, -, -⟩ := id E
  have hF : FM kp L ms_X0_passWeek f0 f0 := FM.rf
  have hl : lv_has ls 2 [(0, .ref h0)] := hl
  refine lv_aload_n hx hb dX0_passWeek_0 rfl (lv_at hl 0 rfl) ?_
  refine fg_RX0_93 E hW rh0 dX0_passWeek_1 (fun y1470850 m1470851 b1470852 => ?_)
  refine lv_sipush (v := 399) hx hb dX0_passWeek_4 (by decide) ?_
  refine q_icmp_lt (Y := 399) (tgt := 11) hx hb dX0_passWeek_7 (by decide) rfl rfl (fun c1470853 => ?_) (fun c1470853 => ?_)
  · refine lv_aload_n hx hb dX0_passWeek_11 rfl (lv_at hl 0 rfl) ?_
    refine t_callV (As := []) (rest := []) E hW (c_X0_lookAtNow l G cI cJ cZ cD cR cT kp L f0 hW.2.2.2 _ h0 rh0) rh0 (by decide) rfl wk_X0_lookAtNow tw_1118 rfl ⟨Nat.le_of_ble_eq_true rfl, Nat.le_of_ble_eq_true rfl⟩ ⟨rfl, rfl⟩ hl.1 rfl (Nat.le_of_ble_eq_true rfl) dX0_passWeek_12 ⟨Nat.le_of_ble_eq_true rfl, Nat.le_of_ble_eq_true rfl⟩ (fun v1470854 f1470855 H locs q1470856 hW => ?_)
    obtain ⟨rfl, g1470857⟩ := q1470856
    have hF := FM.tr hF g1470857 rfl
    refine lv_aload_n hx hb dX0_passWeek_15 rfl (lv_at hl 0 rfl) ?_
    refine t_callV (As := []) (rest := []) E hW (c_X0_reap l G cI cJ cZ cD cR cT kp L f1470855 hW.2.2.2 _ h0 rh0) rh0 (by decide) rfl wk_X0_reap tw_1119 rfl ⟨Nat.le_of_ble_eq_true rfl, Nat.le_of_ble_eq_true rfl⟩ ⟨rfl, rfl⟩ hl.1 rfl (Nat.le_of_ble_eq_true rfl) dX0_passWeek_16 ⟨Nat.le_of_ble_eq_true rfl, Nat.le_of_ble_eq_true rfl⟩ (fun v1470858 f1470859 H locs q1470860 hW => ?_)
    obtain ⟨rfl, g1470861⟩ := q1470860
    have hF := FM.tr hF g1470861 rfl
    refine lv_aload_n hx hb dX0_passWeek_19 rfl (lv_at hl 0 rfl) ?_
    refine fg_RX0_93 E hW rh0 dX0_passWeek_20 (fun y1470862 m1470863 b1470864 => ?_)
    obtain rfl : y1470850 = y1470862 := (((fm_I g1470861 rh0 rfl).trans ((fm_I g1470857 rh0 rfl).trans m1470851))).symm.trans m1470863
    have J1470889 : ∀ (f1470887 : Nat → va_E) (m1470888 : oI (f1470887 h0) 6 = y1470850) (H : Heap) (locs : List Loc) (ls : Array Slot), WS G cI cJ cZ cD cR cT A kp L f1470887 s H locs → FM kp L ms_X0_passWeek f0 f1470887 → lv_has ls 2 [(0, .ref h0)] → W p l e ({ frames := 6, cells := 0, slots := 0, locals := 170 }) s m ([.ref h0] : List Value).toArray below meth c H locs 0 0 (MQ below (QT (po_X0_passWeek kp L f0 h0) G cI cJ cZ cD cR cT A kp L) ([.ref h0] : List Value).toArray s 0 0 A) (F0 m 55 ls []) := by
      intro f1470887 m1470888 H locs ls hW hF hl
      refine lv_iconst (v := 0) hx hb dX0_passWeek_55 (by decide) ?_
      refine lv_istore_n (lv' := [(1, .int 0), (0, .ref h0)]) hx hb dX0_passWeek_56 rfl hl (by decide) rfl (fun ls hl => ?_)
      have L1471819 : ∀ (n : Nat), ∀ (f1471815 : Nat → va_E) (y1471817 : Int32) (m1471816 : oI (f1471815 h0) 6 = y1470850) (b1471818 : (0 : Int) ≤ y1471817.toInt ∧ y1471817.toInt ≤ 60) (hm : (61 : Int) - y1471817.toInt ≤ n) (H : Heap) (locs : List Loc) (ls : Array Slot), WS G cI cJ cZ cD cR cT A kp L f1471815 s H locs → FM kp L ms_X0_passWeek f0 f1471815 → lv_has ls 2 [(1, .int y1471817), (0, .ref h0)] → W p l e ({ frames := 6, cells := 0, slots := 0, locals := 170 }) s m ([.ref h0] : List Value).toArray below meth c H locs 0 0 (MQ below (QT (po_X0_passWeek kp L f0 h0) G cI cJ cZ cD cR cT A kp L) ([.ref h0] : List Value).toArray s 0 0 A) (F0 m 57 ls []) := by
        intro n
        induction n with
        | zero =>
          intro f1471815 y1471817 m1471816 b1471818 hm H locs ls hW hF hl
          have hz := i32_b y1471817
          exfalso; omega
        | succ n ih =>
          intro f1471815 y1471817 m1471816 b1471818 hm H locs ls hW hF hl
          have ih57 := ih
          refine lv_iload_n hx hb dX0_passWeek_57 rfl (lv_at hl 0 rfl) ?_
          refine lv_aload_n hx hb dX0_passWeek_58 rfl (lv_at hl 1 rfl) ?_
          refine fg_RX0_28 E hW rh0 dX0_passWeek_59 (fun a1471820 m1471821 r1471822 => ?_)
          refine fg_RX0_148 E hW r1471822 dX0_passWeek_62 (fun y1471823 m1471824 b1471825 => ?_)
          refine q_icmp_ge (tgt := 92) hx hb dX0_passWeek_65 (by decide) rfl rfl (fun c1471852 => ?_) (fun c1471852 => ?_)
          · refine lv_aload_n hx hb dX0_passWeek_92 rfl (lv_at hl 1 rfl) ?_
            refine t_callV (As := []) (rest := []) E hW (c_X0_payDraws l G cI cJ cZ cD cR cT kp L f1471815 hW.2.2.2 _ h0 rh0) rh0 (by decide) rfl wk_X0_payDraws tw_1158 rfl ⟨Nat.le_of_ble_eq_true rfl, Nat.le_of_ble_eq_true rfl⟩ ⟨rfl, rfl⟩ hl.1 rfl (Nat.le_of_ble_eq_true rfl) dX0_passWeek_93 ⟨Nat.le_of_ble_eq_true rfl, Nat.le_of_ble_eq_true rfl⟩ (fun v1471853 f1471854 H locs q1471855 hW => ?_)
            obtain ⟨rfl, g1471856⟩ := q1471855
            have hF := FM.tr hF g1471856 rfl
            refine lv_aload_n hx hb dX0_passWeek_96 rfl (lv_at hl 1 rfl) ?_
            refine fg_RX0_64 E hW rh0 dX0_passWeek_97 (fun y1471857 m1471858 b1471859 => ?_)
            have J1471883 : ∀ (f1471878 : Nat → va_E) (m1471879 : oI (f1471878 a1471820) 0 = y1471823) (m1471880 : oR (f1471878 h0) 2 = a1471820) (m1471881 : oI (f1471878 h0) 6 = y1470850) (m1471882 : oI (f1471878 h0) 7 = y1471857) (H : Heap) (locs : List Loc) (ls : Array Slot), WS G cI cJ cZ cD cR cT A kp L f1471878 s H locs → FM kp L ms_X0_passWeek f0 f1471878 → lv_has ls 2 [(1, .int y1471817), (0, .ref h0)] → W p l e ({ frames := 6, cells := 0, slots := 0, locals := 170 }) s m ([.ref h0] : List Value).toArray below meth c H locs 0 0 (MQ below (QT (po_X0_passWeek kp L f0 h0) G cI cJ cZ cD cR cT A kp L) ([.ref h0] : List Value).toArray s 0 0 A) (F0 m 117 ls []) := by
              intro f1471878 m1471879 m1471880 m1471881 m1471882 H locs ls hW hF hl
              refine lv_aload_n hx hb dX0_passWeek_117 rfl (lv_at hl 1 rfl) ?_
              refine lv_dup hx hb dX0_passWeek_118 rfl ?_
              refine fg_RX0_93 E hW rh0 dX0_passWeek_119 (fun y1471884 m1471885 b1471886 => ?_)
              obtain rfl : y1470850 = y1471884 := (m1471881).symm.trans m1471885
              refine lv_iconst (v := 1) hx hb dX0_passWeek_122 (by decide) ?_
              refine q_iadd (Y := 1) hx hb dX0_passWeek_123 rfl rfl (by omega) (fun x1471887 h1471888 => ?_)
              refine fp_RX0_93 E hW rh0 (by omega) dX0_passWeek_124 (fun f1471889 H locs e1471890 n1471891 g1471892 hW => ?_)
              have hF := FM.tr hF g1471892 rfl
              exact e_V E hW rfl ⟨rfl, hF⟩ dX0_passWeek_127
            refine q_if_eq (tgt := 113) hx hb dX0_passWeek_100 (by decide) rfl (fun c1471893 => ?_) (fun c1471893 => ?_)
            · refine lv_aload_n hx hb dX0_passWeek_113 rfl (lv_at hl 1 rfl) ?_
              refine t_callV (As := []) (rest := []) E hW (c_X0_renewBans l G cI cJ cZ cD cR cT kp L f1471854 hW.2.2.2 _ h0 rh0) rh0 (by decide) rfl wk_X0_renewBans tw_1171 rfl ⟨Nat.le_of_ble_eq_true rfl, Nat.le_of_ble_eq_true rfl⟩ ⟨rfl, rfl⟩ hl.1 rfl (Nat.le_of_ble_eq_true rfl) dX0_passWeek_114 ⟨Nat.le_of_ble_eq_true rfl, Nat.le_of_ble_eq_true rfl⟩ (fun v1471894 f1471895 H locs q1471896 hW => ?_)
              obtain ⟨rfl, g1471897⟩ := q1471896
              have hF := FM.tr hF g1471897 rfl
              exact J1471883 f1471895 ((fm_I g1471897 r1471822 rfl).trans ((fm_I g1471856 r1471822 rfl).trans m1471824)) ((fm_R g1471897 rh0 rfl).trans ((fm_R g1471856 rh0 rfl).trans m1471821)) ((fm_I g1471897 rh0 rfl).trans ((fm_I g1471856 rh0 rfl).trans m1471816)) ((fm_I g1471897 rh0 rfl).trans m1471858) _ _ _ hW hF (lv_sub hl [0, 1] rfl)
            · refine lv_aload_n hx hb dX0_passWeek_103 rfl (lv_at hl 1 rfl) ?_
              refine fg_RX0_42 E hW rh0 dX0_passWeek_104 (fun a1471898 m1471899 r1471900 => ?_)
              refine t_callV (As := []) (rest := []) E hW (c_X2_asksBanned l G cI cJ cZ cD cR cT kp L f1471854 hW.2.2.2 _ a1471898 r1471900) r1471900 (by decide) rfl wk_X2_asksBanned tw_1167 rfl ⟨Nat.le_of_ble_eq_true rfl, Nat.le_of_ble_eq_true rfl⟩ ⟨rfl, rfl⟩ hl.1 rfl (Nat.le_of_ble_eq_true rfl) dX0_passWeek_107 ⟨Nat.le_of_ble_eq_true rfl, Nat.le_of_ble_eq_true rfl⟩ (fun v1471901 f1471902 H locs q1471903 hW => ?_)
              obtain ⟨⟨x1471905, rfl, p1471906⟩, g1471904⟩ := q1471903
              have hF := FM.tr hF g1471904 rfl
              refine q_if_eq (tgt := 117) hx hb dX0_passWeek_110 (by decide) rfl (fun c1471907 => ?_) (fun c1471907 => ?_)
              · exact J1471883 f1471902 ((fm_I g1471904 r1471822 rfl).trans ((fm_I g1471856 r1471822 rfl).trans m1471824)) ((fm_R g1471904 rh0 rfl).trans ((fm_R g1471856 rh0 rfl).trans m1471821)) ((fm_I g1471904 rh0 rfl).trans ((fm_I g1471856 rh0 rfl).trans m1471816)) ((fm_I g1471904 rh0 rfl).trans m1471858) _ _ _ hW hF (lv_sub hl [0, 1] rfl)
              · refine lv_aload_n hx hb dX0_passWeek_113 rfl (lv_at hl 1 rfl) ?_
                refine t_callV (As := []) (rest := []) E hW (c_X0_renewBans l G cI cJ cZ cD cR cT kp L f1471902 hW.2.2.2 _ h0 rh0) rh0 (by decide) rfl wk_X0_renewBans tw_1171 rfl ⟨Nat.le_of_ble_eq_true rfl, Nat.le_of_ble_eq_true rfl⟩ ⟨rfl, rfl⟩ hl.1 rfl (Nat.le_of_ble_eq_true rfl) dX0_passWeek_114 ⟨Nat.le_of_ble_eq_true rfl, Nat.le_of_ble_eq_true rfl⟩ (fun v1471908 f1471909 H locs q1471910 hW => ?_)
                obtain ⟨rfl, g1471911⟩ := q1471910
                have hF := FM.tr hF g1471911 rfl
                exact J1471883 f1471909 ((fm_I g1471911 r1471822 rfl).trans ((fm_I g1471904 r1471822 rfl).trans ((fm_I g1471856 r1471822 rfl).trans m1471824))) ((fm_R g1471911 rh0 rfl).trans ((fm_R g1471904 rh0 rfl).trans ((fm_R g1471856 rh0 rfl).trans m1471821))) ((fm_I g1471911 rh0 rfl).trans ((fm_I g1471904 rh0 rfl).trans ((fm_I g1471856 rh0 rfl).trans m1471816))) ((fm_I g1471911 rh0 rfl).trans ((fm_I g1471904 rh0 rfl).trans m1471858)) _ _ _ hW hF (lv_sub hl [0, 1] rfl)
          · refine lv_aload_n hx hb dX0_passWeek_68 rfl (lv_at hl 1 rfl) ?_
            refine fg_RX0_28 E hW rh0 dX0_passWeek_69 (fun a1471912 m1471913 r1471914 => ?_)
            obtain rfl : a1471820 = a1471912 := (m1471821).symm.trans m1471913
            refine fg_RX0_151 E hW r1471822 dX0_passWeek_72 (fun a1471915 m1471916 r1471917 => ?_)
            refine lv_iload_n hx hb dX0_passWeek_75 rfl (lv_at hl 0 rfl) ?_
            refine gl_706 E hW r1471917 ⟨by omega, by omega⟩ dX0_passWeek_76 (fun y1471918 m1471919 => ?_)
            refine lv_iconst (v := 1) hx hb dX0_passWeek_77 (by decide) ?_
            have J1471930 : ∀ (f1471925 : Nat → va_E) (m1471926 : oI (f1471925 a1471820) 0 = y1471823) (m1471927 : oR (f1471925 a1471820) 6 = a1471915) (m1471928 : oR (f1471925 h0) 2 = a1471820) (m1471929 : oI (f1471925 h0) 6 = y1470850) (H : Heap) (locs : List Loc) (ls : Array Slot), WS G cI cJ cZ cD cR cT A kp L f1471925 s H locs → FM kp L ms_X0_passWeek f0 f1471925 → lv_has ls 2 [(1, .int y1471817), (0, .ref h0)] → W p l e ({ frames := 6, cells := 0, slots := 0, locals := 170 }) s m ([.ref h0] : List Value).toArray below meth c H locs 0 0 (MQ below (QT (po_X0_passWeek kp L f0 h0) G cI cJ cZ cD cR cT A kp L) ([.ref h0] : List Value).toArray s 0 0 A) (F0 m 86 ls []) := by
              intro f1471925 m1471926 m1471927 m1471928 m1471929 H locs ls hW hF hl
              refine q_iinc hx hb dX0_passWeek_86 hl (k := 0) rfl rfl rfl (by omega) (by decide) (fun i1471931 ls h1471932 hl => ?_)
              have hl : lv_has ls 2 [(1, .int i1471931), (0, .ref h0)] := hl
              refine lv_goto (tgt := 57) hx hb dX0_passWeek_89 (by decide) ?_
              exact ih57 f1471925 i1471931 m1471929 (by omega) (by omega) _ _ _ hW hF (lv_sub hl [0, 1] rfl)
            refine q_icmp_ne (Y := 1) (tgt := 86) hx hb dX0_passWeek_78 (by decide) rfl rfl (fun c1471933 => ?_) (fun c1471933 => ?_)
            · exact J1471930 f1471815 m1471824 m1471916 m1471913 m1471816 _ _ _ hW hF (lv_sub hl [0, 1] rfl)
            · refine lv_aload_n hx hb dX0_passWeek_81 rfl (lv_at hl 1 rfl) ?_
              refine lv_iload_n hx hb dX0_passWeek_82 rfl (lv_at hl 0 rfl) ?_
              refine t_callV (As := [.int y1471817]) (rest := []) E hW (c_X0_advanceWrit l G cI cJ cZ cD cR cT kp L f1471815 hW.2.2.2 _ h0 y1471817 rh0 (by omega)) rh0 (by decide) rfl wk_X0_advanceWrit tw_1146 rfl ⟨Nat.le_of_ble_eq_true rfl, Nat.le_of_ble_eq_true rfl⟩ ⟨rfl, rfl⟩ hl.1 rfl (Nat.le_of_ble_eq_true rfl) dX0_passWeek_83 ⟨Nat.le_of_ble_eq_true rfl, Nat.le_of_ble_eq_true rfl⟩ (fun v1471934 f1471935 H locs q1471936 hW => ?_)
              obtain ⟨rfl, g1471937⟩ := q1471936
              have hF := FM.tr hF g1471937 rfl
              exact J1471930 f1471935 ((fm_I g1471937 r1471822 rfl).trans m1471824) ((fm_R g1471937 r1471822 rfl).trans m1471916) ((fm_R g1471937 rh0 rfl).trans m1471913) ((fm_I g1471937 rh0 rfl).trans m1471816) _ _ _ hW hF (lv_sub hl [0, 1] rfl)
      have hk1471938 : (0 : Int32).toInt = 0 := rfl
      exact L1471819 61 f1470887 0 m1470888 (by decide) (by omega) _ _ _ hW hF (lv_sub hl [0, 1] rfl)
    refine q_if_eq (tgt := 55) hx hb dX0_passWeek_23 (by decide) rfl (fun c1471939 => ?_) (fun c1471939 => ?_)
    · exact J1470889 f1470859 m1470863 _ _ _ hW hF (lv_sub hl [0] rfl)
    · refine lv_aload_n hx hb dX0_passWeek_26 rfl (lv_at hl 0 rfl) ?_
      refine fg_RX0_93 E hW rh0 dX0_passWeek_27 (fun y1471940 m1471941 b1471942 => ?_)
      obtain rfl : y1470850 = y1471940 := (m1470863).symm.trans m1471941
      refine lv_bipush (v := 13) hx hb dX0_passWeek_30 (by decide) ?_
      refine q_irem (Y := 13) hx hb dX0_passWeek_32 rfl rfl (by omega) (by omega) (fun x1471943 h1471944 => ?_)
      refine q_if_ne (tgt := 55) hx hb dX0_passWeek_33 (by decide) rfl (fun c1471945 => ?_) (fun c1471945 => ?_)
      · exact J1470889 f1470859 m1471941 _ _ _ hW hF (lv_sub hl [0] rfl)
      · refine lv_aload_n hx hb dX0_passWeek_36 rfl (lv_at hl 0 rfl) ?_
        refine t_callV (As := []) (rest := []) E hW (c_X0_collectRents l G cI cJ cZ cD cR cT kp L f1470859 hW.2.2.2 _ h0 rh0) rh0 (by decide) rfl wk_X0_collectRents tw_1124 rfl ⟨Nat.le_of_ble_eq_true rfl, Nat.le_of_ble_eq_true rfl⟩ ⟨rfl, rfl⟩ hl.1 rfl (Nat.le_of_ble_eq_true rfl) dX0_passWeek_37 ⟨Nat.le_of_ble_eq_true rfl, Nat.le_of_ble_eq_true rfl⟩ (fun v1471946 f1471947 H locs q1471948 hW => ?_)
        obtain ⟨rfl, g1471949⟩ := q1471948
        have hF := FM.tr hF g1471949 rfl
        refine lv_aload_n hx hb dX0_passWeek_40 rfl (lv_at hl 0 rfl) ?_
        refine t_callV (As := []) (rest := []) E hW (c_X0_payMortgages l G cI cJ cZ cD cR cT kp L f1471947 hW.2.2.2 _ h0 rh0) rh0 (by decide) rfl wk_X0_payMortgages tw_1135 rfl ⟨Nat.le_of_ble_eq_true rfl, Nat.le_of_ble_eq_true rfl⟩ ⟨rfl, rfl⟩ hl.1 rfl (Nat.le_of_ble_eq_true rfl) dX0_passWeek_41 ⟨Nat.le_of_ble_eq_true rfl, Nat.le_of_ble_eq_true rfl⟩ (fun v1471950 f1471951 H locs q1471952 hW => ?_)
        obtain ⟨rfl, g1471953⟩ := q1471952
        have hF := FM.tr hF g1471953 rfl
        refine lv_aload_n hx hb dX0_passWeek_44 rfl (lv_at hl 0 rfl) ?_
        refine fg_RX0_97 E hW rh0 dX0_passWeek_45 (fun y1471954 m1471955 b1471956 => ?_)
        refine q_if_eq (tgt := 55) hx hb dX0_passWeek_48 (by decide) rfl (fun c1471957 => ?_) (fun c1471957 => ?_)
        · exact J1470889 f1471951 ((fm_I g1471953 rh0 rfl).trans ((fm_I g1471949 rh0 rfl).trans m1471941)) _ _ _ hW hF (lv_sub hl [0] rfl)
        · refine lv_aload_n hx hb dX0_passWeek_51 rfl (lv_at hl 0 rfl) ?_
          refine t_callV (As := []) (rest := []) E hW (c_X0_tellWrits l G cI cJ cZ cD cR cT kp L f1471951 hW.2.2.2 _ h0 rh0) rh0 (by decide) rfl wk_X0_tellWrits tw_1139 rfl ⟨Nat.le_of_ble_eq_true rfl, Nat.le_of_ble_eq_true rfl⟩ ⟨rfl, rfl⟩ hl.1 rfl (Nat.le_of_ble_eq_true rfl) dX0_passWeek_52 ⟨Nat.le_of_ble_eq_true rfl, Nat.le_of_ble_eq_true rfl⟩ (fun v1471958 f1471959 H locs q1471960 hW => ?_)
          obtain ⟨rfl, g1471961⟩ := q1471960
          have hF := FM.tr hF g1471961 rfl
          exact J1470889 f1471959 ((fm_I g1471961 rh0 rfl).trans ((fm_I g1471953 rh0 rfl).trans ((fm_I g1471949 rh0 rfl).trans m1471941))) _ _ _ hW hF (lv_sub hl [0] rfl)
  · exact e_V E hW rfl ⟨rfl, hF⟩ dX0_passWeek_10
def ms_X0_settle : List (Nat × Nat) := [(164, 0), (166, 0), (347, 0)]
def po_X0_settle (kp : Nat → Nat) (L : List Nat) (f0 : Nat → va_E) (h0 : Nat) (u1 : Int32) (u2 : Int32) (u3 : Int32) : Option Value → (Nat → va_E) → Prop := fun v f => v = none ∧ FM kp L ms_X0_settle f0 f
set_option maxHeartbeats 4000000 in
set_option maxRecDepth 100000 in
theorem c_X0_settle (l : Launch) (G : va_G) (cI cJ cZ cD cR cT : ClassId) (kp : Nat → Nat) (L : List Nat) (f0 : Nat → va_E) (hTH : TH cI cJ cZ cD cR cT kp L f0) (sz : Nat) (h0 : Nat) (u1 : Int32) (u2 : Int32) (u3 : Int32) (rh0 : RK kp L h0 0) (pu1 : (0 : Int) ≤ u1.toInt ∧ u1.toInt ≤ 39) (pu2 : (0 : Int) ≤ u2.toInt ∧ u2.toInt ≤ 39) (pu3 : (0 : Int) ≤ u3.toInt ∧ u3.toInt ≤ 1) : Met l yX0_settle (Cond.code yX0_settle cX0_settle 4 none :: wTab) ({ frames := 1, cells := 0, slots := 0, locals := 40 }) (va_Pc [.ref h0, .int u1, .int u2, .int u3] (PreW G (tys6 cI cJ cZ cD cR cT) (va_pl L f0) sz)) (QT (po_X0_settle kp L f0 h0 u1 u2 u3) G cI cJ cZ cD cR cT (va_A (va_pl L f0) sz) kp L) 0 0 (va_A (va_pl L f0) sz) := by
  refine metT (by decide) (Nat.le_of_ble_eq_true rfl) hTH ?_
  intro p e s m below meth c A ls E hW hl
  obtain ⟨hx, hb, -, hml, hown, hts, -, -, -⟩ := id E
  have hF : FM kp L ms_X0_settle f0 f0 := FM.rf
  have hl : lv_has ls 4 [(0, .ref h0), (1, .int u1), (2, .int u2), (3, .int u3)] := hl
  refine lv_aload_n hx hb dX0_settle_0 rfl (lv_at hl 0 rfl) ?_
  refine fg_RX0_21 E hW rh0 dX0_settle_1 (fun a1471962 m1471963 r1471964 => ?_)
  refine fg_RX0_124 E hW r1471964 dX0_settle_4 (fun a1471965 m1471966 r1471967 => ?_)
  refine lv_iload_n hx hb dX0_settle_7 rfl (lv_at hl 2 rfl) ?_
  refine lv_iload_n hx hb dX0_settle_8 rfl (lv_at hl 1 rfl) ?_
  refine gs_164 E hW r1471967 ⟨by omega, by omega⟩ (by omega) dX0_settle_9 (fun f1471968 H locs e1471969 n1471970 g1471971 hW => ?_)
  have hF := FM.tr hF g1471971 rfl
  refine lv_aload_n hx hb dX0_settle_10 rfl (lv_at hl 0 rfl) ?_
  refine fg_RX0_21 E hW rh0 dX0_settle_11 (fun a1471972 m1471973 r1471974 => ?_)
  obtain rfl : a1471962 = a1471972 := (((fm_R g1471971 rh0 rfl).trans m1471963)).symm.trans m1471973
  refine fg_RX0_127 E hW r1471964 dX0_settle_14 (fun a1471975 m1471976 r1471977 => ?_)
  refine lv_iload_n hx hb dX0_settle_17 rfl (lv_at hl 2 rfl) ?_
  refine lv_iload_n hx hb dX0_settle_18 rfl (lv_at hl 3 rfl) ?_
  refine gs_166 E hW r1471977 ⟨by omega, by omega⟩ dX0_settle_19 (fun f1471978 H locs e1471979 n1471980 g1471981 hW => ?_)
  have hF := FM.tr hF g1471981 rfl
  refine lv_aload_n hx hb dX0_settle_20 rfl (lv_at hl 0 rfl) ?_
  refine fg_RX0_12 E hW rh0 dX0_settle_21 (fun a1471982 m1471983 r1471984 => ?_)
  refine fg_RX0_130 E hW r1471984 dX0_settle_24 (fun a1471985 m1471986 r1471987 => ?_)
  refine lv_iload_n hx hb dX0_settle_27 rfl (lv_at hl 1 rfl) ?_
  refine lv_iconst (v := (-1)) hx hb dX0_settle_28 (by decide) ?_
  refine gs_347 E hW r1471987 ⟨by omega, by omega⟩ dX0_settle_29 (fun f1471988 H locs e1471989 n1471990 g1471991 hW => ?_)
  have hF := FM.tr hF g1471991 rfl
  exact e_V E hW rfl ⟨rfl, hF⟩ dX0_settle_30
def ms_X0_tellCrops : List (Nat × Nat) := [(0, 9), (0, 10), (0, 11)]
def po_X0_tellCrops (kp : Nat → Nat) (L : List Nat) (f0 : Nat → va_E) (h0 : Nat) (u1 : Int32) (u2 : Int32) : Option Value → (Nat → va_E) → Prop := fun v f => v = none ∧ FM kp L ms_X0_tellCrops f0 f
set_option maxHeartbeats 4000000 in
set_option maxRecDepth 100000 in
theorem c_X0_tellCrops (l : Launch) (G : va_G) (cI cJ cZ cD cR cT : ClassId) (kp : Nat → Nat) (L : List Nat) (f0 : Nat → va_E) (hTH : TH cI cJ cZ cD cR cT kp L f0) (sz : Nat) (h0 : Nat) (u1 : Int32) (u2 : Int32) (rh0 : RK kp L h0 0) : Met l yX0_tellCrops (Cond.code yX0_tellCrops cX0_tellCrops 3 none :: wTab) ({ frames := 1, cells := 0, slots := 0, locals := 40 }) (va_Pc [.ref h0, .int u1, .int u2] (PreW G (tys6 cI cJ cZ cD cR cT) (va_pl L f0) sz)) (QT (po_X0_tellCrops kp L f0 h0 u1 u2) G cI cJ cZ cD cR cT (va_A (va_pl L f0) sz) kp L) 0 0 (va_A (va_pl L f0) sz) := by
  refine metT (by decide) (Nat.le_of_ble_eq_true rfl) hTH ?_
  intro p e s m below meth c A ls E hW hl
  obtain ⟨hx, hb, -, hml, hown, hts, -, -, -⟩ := id E
  have hF : FM kp L ms_X0_tellCrops f0 f0 := FM.rf
  have hl : lv_has ls 3 [(0, .ref h0), (1, .int u1), (2, .int u2)] := hl
  refine lv_aload_n hx hb dX0_tellCrops_0 rfl (lv_at hl 0 rfl) ?_
  refine lv_iconst (v := 1) hx hb dX0_tellCrops_1 (by decide) ?_
  refine fp_RX0_97 E hW rh0 (by decide) dX0_tellCrops_2 (fun f1471992 H locs e1471993 n1471994 g1471995 hW => ?_)
  have hF := FM.tr hF g1471995 rfl
  refine lv_aload_n hx hb dX0_tellCrops_5 rfl (lv_at hl 0 rfl) ?_
  refine lv_iload_n hx hb dX0_tellCrops_6 rfl (lv_at hl 1 rfl) ?_
  refine fp_RX0_107 E hW rh0 dX0_tellCrops_7 (fun f1471996 H locs e1471997 n1471998 g1471999 hW => ?_)
  have hF := FM.tr hF g1471999 rfl
  refine lv_aload_n hx hb dX0_tellCrops_10 rfl (lv_at hl 0 rfl) ?_
  refine lv_iload_n hx hb dX0_tellCrops_11 rfl (lv_at hl 2 rfl) ?_
  refine fp_RX0_110 E hW rh0 dX0_tellCrops_12 (fun f1472000 H locs e1472001 n1472002 g1472003 hW => ?_)
  have hF := FM.tr hF g1472003 rfl
  exact e_V E hW rfl ⟨rfl, hF⟩ dX0_tellCrops_15
