
def ms_X0_putOut : List (Nat × Nat) := [(0, 12), (164, 0), (166, 0), (167, 0), (346, 0), (347, 0)]
def po_X0_putOut (kp : Nat → Nat) (L : List Nat) (f0 : Nat → va_E) (h0 : Nat) (u1 : Int32) (u2 : Int32) : Option Value → (Nat → va_E) → Prop := fun v f => v = none ∧ FM kp L ms_X0_putOut f0 f
set_option maxHeartbeats 4000000 in
set_option maxRecDepth 100000 in
theorem c_X0_putOut (l : Launch) (G : va_G) (cI cJ cZ cD cR cT : ClassId) (kp : Nat → Nat) (L : List Nat) (f0 : Nat → va_E) (hTH : TH cI cJ cZ cD cR cT kp L f0) (sz : Nat) (h0 : Nat) (u1 : Int32) (u2 : Int32) (rh0 : RK kp L h0 0) (pu1 : (0 : Int) ≤ u1.toInt ∧ u1.toInt ≤ 39) (pu2 : (0 : Int) ≤ u2.toInt ∧ u2.toInt ≤ 39) : Met l yX0_putOut (Cond.code yX0_putOut cX0_putOut 3 none :: wTab) ({ frames := 2, cells := 0, slots := 0, locals := 62 }) (va_Pc [.ref h0, .int u1, .int u2] (PreW G (tys6 cI cJ cZ cD cR cT) (va_pl L f0) sz)) (QT (po_X0_putOut kp L f0 h0 u1 u2) G cI cJ cZ cD cR cT (va_A (va_pl L f0) sz) kp L) 0 0 (va_A (va_pl L f0) sz) := by
  refine metT (by decide) (Nat.le_of_ble_eq_true rfl) hTH ?_
  intro p e s m below meth c A ls E hW hl
  obtain ⟨hx, hb, -, hml, hown, hts, -, -, -⟩ := id E
  have hF : FM kp L ms_X0_putOut f0 f0 := FM.rf
  have hl : lv_has ls 3 [(0, .ref h0), (1, .int u1), (2, .int u2)] := hl
  refine lv_aload_n hx hb dX0_putOut_0 rfl (lv_at hl 0 rfl) ?_
  refine lv_dup hx hb dX0_putOut_1 rfl ?_
  refine fg_RX0_100 E hW rh0 dX0_putOut_2 (fun y1410303 m1410304 => ?_)
  refine lv_iconst (v := 1) hx hb dX0_putOut_5 (by decide) ?_
  refine u_iadd hx hb dX0_putOut_6 (fun x1410306 => ?_)
  refine fp_RX0_100 E hW rh0 dX0_putOut_7 (fun f1410307 H locs e1410308 n1410309 g1410310 hW => ?_)
  have hF := FM.tr hF g1410310 rfl
  refine lv_aload_n hx hb dX0_putOut_10 rfl (lv_at hl 0 rfl) ?_
  refine fg_RX0_21 E hW rh0 dX0_putOut_11 (fun a1410311 m1410312 r1410313 => ?_)
  refine fg_RX0_124 E hW r1410313 dX0_putOut_14 (fun a1410314 m1410315 r1410316 => ?_)
  refine lv_iload_n hx hb dX0_putOut_17 rfl (lv_at hl 1 rfl) ?_
  refine lv_iconst (v := (-1)) hx hb dX0_putOut_18 (by decide) ?_
  refine gs_164 E hW r1410316 ⟨by omega, by omega⟩ (by decide) dX0_putOut_19 (fun f1410317 H locs e1410318 n1410319 g1410320 hW => ?_)
  have hF := FM.tr hF g1410320 rfl
  refine lv_aload_n hx hb dX0_putOut_20 rfl (lv_at hl 0 rfl) ?_
  refine fg_RX0_21 E hW rh0 dX0_putOut_21 (fun a1410321 m1410322 r1410323 => ?_)
  obtain rfl : a1410311 = a1410321 := (((fm_R g1410320 rh0 rfl).trans m1410312)).symm.trans m1410322
  refine fg_RX0_127 E hW r1410313 dX0_putOut_24 (fun a1410324 m1410325 r1410326 => ?_)
  refine lv_iload_n hx hb dX0_putOut_27 rfl (lv_at hl 1 rfl) ?_
  refine lv_iconst (v := 0) hx hb dX0_putOut_28 (by decide) ?_
  refine gs_166 E hW r1410326 ⟨by omega, by omega⟩ dX0_putOut_29 (fun f1410327 H locs e1410328 n1410329 g1410330 hW => ?_)
  have hF := FM.tr hF g1410330 rfl
  refine lv_aload_n hx hb dX0_putOut_30 rfl (lv_at hl 0 rfl) ?_
  refine fg_RX0_21 E hW rh0 dX0_putOut_31 (fun a1410331 m1410332 r1410333 => ?_)
  obtain rfl : a1410311 = a1410331 := (((fm_R g1410330 rh0 rfl).trans m1410322)).symm.trans m1410332
  refine fg_RX0_256 E hW r1410313 dX0_putOut_34 (fun a1410334 m1410335 r1410336 => ?_)
  refine lv_iload_n hx hb dX0_putOut_37 rfl (lv_at hl 1 rfl) ?_
  refine lv_iconst (v := 1) hx hb dX0_putOut_38 (by decide) ?_
  refine gs_167 E hW r1410336 ⟨by omega, by omega⟩ dX0_putOut_39 (fun f1410337 H locs e1410338 n1410339 g1410340 hW => ?_)
  have hF := FM.tr hF g1410340 rfl
  refine lv_aload_n hx hb dX0_putOut_40 rfl (lv_at hl 0 rfl) ?_
  refine fg_RX0_12 E hW rh0 dX0_putOut_41 (fun a1410341 m1410342 r1410343 => ?_)
  refine fg_RX0_182 E hW r1410343 dX0_putOut_44 (fun a1410344 m1410345 r1410346 => ?_)
  refine lv_iload_n hx hb dX0_putOut_47 rfl (lv_at hl 2 rfl) ?_
  refine gl_346 E hW r1410346 ⟨by omega, by omega⟩ dX0_putOut_48 (fun y1410347 m1410348 => ?_)
  have J1410391 : ∀ (f1410383 : Nat → va_E) (m1410384 : oR (f1410383 a1410311) 4 = a1410314) (m1410385 : oR (f1410383 a1410311) 6 = a1410324) (m1410386 : oR (f1410383 a1410311) 7 = a1410334) (m1410387 : oR (f1410383 a1410341) 6 = a1410344) (m1410388 : oR (f1410383 h0) 0 = a1410341) (m1410389 : oR (f1410383 h0) 1 = a1410311) (m1410390 : oI (f1410383 h0) 12 = x1410306) (H : Heap) (locs : List Loc) (ls : Array Slot), WS G cI cJ cZ cD cR cT A kp L f1410383 s H locs → FM kp L ms_X0_putOut f0 f1410383 → lv_has ls 3 [(0, .ref h0), (1, .int u1), (2, .int u2)] → W p l e ({ frames := 2, cells := 0, slots := 0, locals := 62 }) s m ([.ref h0, .int u1, .int u2] : List Value).toArray below meth c H locs 0 0 (MQ below (QT (po_X0_putOut kp L f0 h0 u1 u2) G cI cJ cZ cD cR cT A kp L) ([.ref h0, .int u1, .int u2] : List Value).toArray s 0 0 A) (F0 m 86 ls []) := by
    intro f1410383 m1410384 m1410385 m1410386 m1410387 m1410388 m1410389 m1410390 H locs ls hW hF hl
    exact e_V E hW rfl ⟨rfl, hF⟩ dX0_putOut_86
  refine q_if_ne (tgt := 86) hx hb dX0_putOut_49 (by decide) rfl (fun c1410392 => ?_) (fun c1410392 => ?_)
  · exact J1410391 f1410337 ((fm_R g1410340 r1410313 rfl).trans ((fm_R g1410330 r1410313 rfl).trans ((fm_R g1410320 r1410313 rfl).trans m1410315))) ((fm_R g1410340 r1410313 rfl).trans ((fm_R g1410330 r1410313 rfl).trans m1410325)) ((fm_R g1410340 r1410313 rfl).trans m1410335) m1410345 m1410342 ((fm_R g1410340 rh0 rfl).trans m1410332) ((fm_I g1410340 rh0 rfl).trans ((fm_I g1410330 rh0 rfl).trans ((fm_I g1410320 rh0 rfl).trans e1410308))) _ _ _ hW hF (lv_sub hl [0, 1, 2] rfl)
  · refine lv_aload_n hx hb dX0_putOut_52 rfl (lv_at hl 0 rfl) ?_
    refine fg_RX0_21 E hW rh0 dX0_putOut_53 (fun a1410393 m1410394 r1410395 => ?_)
    obtain rfl : a1410311 = a1410393 := (((fm_R g1410340 rh0 rfl).trans m1410332)).symm.trans m1410394
    refine lv_iload_n hx hb dX0_putOut_56 rfl (lv_at hl 2 rfl) ?_
    refine t_callV (As := [.int u2]) (rest := []) E hW (c_X1_isHeldBy l G cI cJ cZ cD cR cT kp L f1410337 hW.2.2.2 _ a1410311 u2 r1410313 (by omega)) r1410313 (by decide) rfl wk_X1_isHeldBy tw_728 rfl ⟨Nat.le_of_ble_eq_true rfl, Nat.le_of_ble_eq_true rfl⟩ ⟨rfl, rfl⟩ hl.1 rfl (Nat.le_of_ble_eq_true rfl) dX0_putOut_57 ⟨Nat.le_of_ble_eq_true rfl, Nat.le_of_ble_eq_true rfl⟩ (fun v1410396 f1410397 H locs q1410398 hW => ?_)
    obtain ⟨⟨x1410400, rfl, p1410401⟩, g1410399⟩ := q1410398
    have hF := FM.tr hF g1410399 rfl
    refine q_if_ne (tgt := 86) hx hb dX0_putOut_60 (by decide) rfl (fun c1410402 => ?_) (fun c1410402 => ?_)
    · exact J1410391 f1410397 ((fm_R g1410399 r1410313 rfl).trans ((fm_R g1410340 r1410313 rfl).trans ((fm_R g1410330 r1410313 rfl).trans ((fm_R g1410320 r1410313 rfl).trans m1410315)))) ((fm_R g1410399 r1410313 rfl).trans ((fm_R g1410340 r1410313 rfl).trans ((fm_R g1410330 r1410313 rfl).trans m1410325))) ((fm_R g1410399 r1410313 rfl).trans ((fm_R g1410340 r1410313 rfl).trans m1410335)) ((fm_R g1410399 r1410343 rfl).trans m1410345) ((fm_R g1410399 rh0 rfl).trans m1410342) ((fm_R g1410399 rh0 rfl).trans m1410394) ((fm_I g1410399 rh0 rfl).trans ((fm_I g1410340 rh0 rfl).trans ((fm_I g1410330 rh0 rfl).trans ((fm_I g1410320 rh0 rfl).trans e1410308)))) _ _ _ hW hF (lv_sub hl [0, 1, 2] rfl)
    · refine lv_aload_n hx hb dX0_putOut_63 rfl (lv_at hl 0 rfl) ?_
      refine fg_RX0_12 E hW rh0 dX0_putOut_64 (fun a1410403 m1410404 r1410405 => ?_)
      obtain rfl : a1410341 = a1410403 := (((fm_R g1410399 rh0 rfl).trans m1410342)).symm.trans m1410404
      refine fg_RX0_182 E hW r1410343 dX0_putOut_67 (fun a1410406 m1410407 r1410408 => ?_)
      obtain rfl : a1410344 = a1410406 := (((fm_R g1410399 r1410343 rfl).trans m1410345)).symm.trans m1410407
      refine lv_iload_n hx hb dX0_putOut_70 rfl (lv_at hl 2 rfl) ?_
      refine lv_iconst (v := 1) hx hb dX0_putOut_71 (by decide) ?_
      refine gs_346 E hW r1410346 ⟨by omega, by omega⟩ dX0_putOut_72 (fun f1410409 H locs e1410410 n1410411 g1410412 hW => ?_)
      have hF := FM.tr hF g1410412 rfl
      refine lv_aload_n hx hb dX0_putOut_73 rfl (lv_at hl 0 rfl) ?_
      refine fg_RX0_12 E hW rh0 dX0_putOut_74 (fun a1410413 m1410414 r1410415 => ?_)
      obtain rfl : a1410341 = a1410413 := (((fm_R g1410412 rh0 rfl).trans m1410404)).symm.trans m1410414
      refine fg_RX0_130 E hW r1410343 dX0_putOut_77 (fun a1410416 m1410417 r1410418 => ?_)
      refine lv_iload_n hx hb dX0_putOut_80 rfl (lv_at hl 2 rfl) ?_
      refine lv_aload_n hx hb dX0_putOut_81 rfl (lv_at hl 0 rfl) ?_
      refine fg_RX0_93 E hW rh0 dX0_putOut_82 (fun y1410419 m1410420 b1410421 => ?_)
      refine gs_347 E hW r1410418 ⟨by omega, by omega⟩ dX0_putOut_85 (fun f1410422 H locs e1410423 n1410424 g1410425 hW => ?_)
      have hF := FM.tr hF g1410425 rfl
      exact J1410391 f1410422 ((fm_R g1410425 r1410313 rfl).trans ((fm_R g1410412 r1410313 rfl).trans ((fm_R g1410399 r1410313 rfl).trans ((fm_R g1410340 r1410313 rfl).trans ((fm_R g1410330 r1410313 rfl).trans ((fm_R g1410320 r1410313 rfl).trans m1410315)))))) ((fm_R g1410425 r1410313 rfl).trans ((fm_R g1410412 r1410313 rfl).trans ((fm_R g1410399 r1410313 rfl).trans ((fm_R g1410340 r1410313 rfl).trans ((fm_R g1410330 r1410313 rfl).trans m1410325))))) ((fm_R g1410425 r1410313 rfl).trans ((fm_R g1410412 r1410313 rfl).trans ((fm_R g1410399 r1410313 rfl).trans ((fm_R g1410340 r1410313 rfl).trans m1410335)))) ((fm_R g1410425 r1410343 rfl).trans ((fm_R g1410412 r1410343 rfl).trans m1410407)) ((fm_R g1410425 rh0 rfl).trans m1410414) ((fm_R g1410425 rh0 rfl).trans ((fm_R g1410412 rh0 rfl).trans ((fm_R g1410399 rh0 rfl).trans m1410394))) ((fm_I g1410425 rh0 rfl).trans ((fm_I g1410412 rh0 rfl).trans ((fm_I g1410399 rh0 rfl).trans ((fm_I g1410340 rh0 rfl).trans ((fm_I g1410330 rh0 rfl).trans ((fm_I g1410320 rh0 rfl).trans e1410308)))))) _ _ _ hW hF (lv_sub hl [0, 1, 2] rfl)
def ms_X0_advanceWrit : List (Nat × Nat) := [(0, 12), (164, 0), (166, 0), (167, 0), (346, 0), (347, 0), (703, 0), (704, 0), (706, 0)]
def po_X0_advanceWrit (kp : Nat → Nat) (L : List Nat) (f0 : Nat → va_E) (h0 : Nat) (u1 : Int32) : Option Value → (Nat → va_E) → Prop := fun v f => v = none ∧ FM kp L ms_X0_advanceWrit f0 f
set_option maxHeartbeats 4000000 in
set_option maxRecDepth 100000 in
theorem c_X0_advanceWrit (l : Launch) (G : va_G) (cI cJ cZ cD cR cT : ClassId) (kp : Nat → Nat) (L : List Nat) (f0 : Nat → va_E) (hTH : TH cI cJ cZ cD cR cT kp L f0) (sz : Nat) (h0 : Nat) (u1 : Int32) (rh0 : RK kp L h0 0) (pu1 : (0 : Int) ≤ u1.toInt ∧ u1.toInt ≤ 59) : Met l yX0_advanceWrit (Cond.code yX0_advanceWrit cX0_advanceWrit 3 none :: wTab) ({ frames := 3, cells := 0, slots := 0, locals := 87 }) (va_Pc [.ref h0, .int u1] (PreW G (tys6 cI cJ cZ cD cR cT) (va_pl L f0) sz)) (QT (po_X0_advanceWrit kp L f0 h0 u1) G cI cJ cZ cD cR cT (va_A (va_pl L f0) sz) kp L) 0 0 (va_A (va_pl L f0) sz) := by
  refine metT (by decide) (Nat.le_of_ble_eq_true rfl) hTH ?_
  intro p e s m below meth c A ls E hW hl
  obtain ⟨hx, hb, -, hml, hown, hts, -, -, -⟩ := id E
  have hF : FM kp L ms_X0_advanceWrit f0 f0 := FM.rf
  have hl : lv_has ls 3 [(0, .ref h0), (1, .int u1)] := hl
  refine lv_aload_n hx hb dX0_advanceWrit_0 rfl (lv_at hl 0 rfl) ?_
  refine fg_RX0_28 E hW rh0 dX0_advanceWrit_1 (fun a1410426 m1410427 r1410428 => ?_)
  refine fg_RX0_235 E hW r1410428 dX0_advanceWrit_4 (fun a1410429 m1410430 r1410431 => ?_)
  refine lv_iload_n hx hb dX0_advanceWrit_7 rfl (lv_at hl 1 rfl) ?_
  refine gl_701 E hW r1410431 ⟨by omega, by omega⟩ dX0_advanceWrit_8 (fun y1410432 m1410433 b1410434 => ?_)
  refine lv_istore_n (lv' := [(2, .int y1410432), (0, .ref h0), (1, .int u1)]) hx hb dX0_advanceWrit_9 rfl hl (by decide) rfl (fun ls hl => ?_)
  refine lv_aload_n hx hb dX0_advanceWrit_10 rfl (lv_at hl 1 rfl) ?_
  refine fg_RX0_21 E hW rh0 dX0_advanceWrit_11 (fun a1410435 m1410436 r1410437 => ?_)
  refine fg_RX0_188 E hW r1410437 dX0_advanceWrit_14 (fun a1410438 m1410439 r1410440 => ?_)
  refine lv_iload_n hx hb dX0_advanceWrit_17 rfl (lv_at hl 0 rfl) ?_
  refine gl_165 E hW r1410440 ⟨by omega, by omega⟩ dX0_advanceWrit_18 (fun y1410441 m1410442 => ?_)
  refine q_if_eq (tgt := 43) hx hb dX0_advanceWrit_19 (by decide) rfl (fun c1410444 => ?_) (fun c1410444 => ?_)
  · refine lv_aload_n hx hb dX0_advanceWrit_43 rfl (lv_at hl 1 rfl) ?_
    refine fg_RX0_28 E hW rh0 dX0_advanceWrit_44 (fun a1410445 m1410446 r1410447 => ?_)
    obtain rfl : a1410426 = a1410445 := (m1410427).symm.trans m1410446
    refine fg_RX0_151 E hW r1410428 dX0_advanceWrit_47 (fun a1410448 m1410449 r1410450 => ?_)
    refine lv_iload_n hx hb dX0_advanceWrit_50 rfl (lv_at hl 2 rfl) ?_
    refine lv_iconst (v := 0) hx hb dX0_advanceWrit_51 (by decide) ?_
    refine gs_706 E hW r1410450 ⟨by omega, by omega⟩ dX0_advanceWrit_52 (fun f1410451 H locs e1410452 n1410453 g1410454 hW => ?_)
    have hF := FM.tr hF g1410454 rfl
    exact e_V E hW rfl ⟨rfl, hF⟩ dX0_advanceWrit_53
  · refine lv_aload_n hx hb dX0_advanceWrit_22 rfl (lv_at hl 1 rfl) ?_
    refine fg_RX0_21 E hW rh0 dX0_advanceWrit_23 (fun a1410455 m1410456 r1410457 => ?_)
    obtain rfl : a1410435 = a1410455 := (m1410436).symm.trans m1410456
    refine fg_RX0_124 E hW r1410437 dX0_advanceWrit_26 (fun a1410458 m1410459 r1410460 => ?_)
    refine lv_iload_n hx hb dX0_advanceWrit_29 rfl (lv_at hl 0 rfl) ?_
    refine gl_164 E hW r1410460 ⟨by omega, by omega⟩ dX0_advanceWrit_30 (fun y1410461 m1410462 b1410463 => ?_)
    refine lv_aload_n hx hb dX0_advanceWrit_31 rfl (lv_at hl 1 rfl) ?_
    refine fg_RX0_28 E hW rh0 dX0_advanceWrit_32 (fun a1410464 m1410465 r1410466 => ?_)
    obtain rfl : a1410426 = a1410464 := (m1410427).symm.trans m1410465
    refine fg_RX0_238 E hW r1410428 dX0_advanceWrit_35 (fun a1410467 m1410468 r1410469 => ?_)
    refine lv_iload_n hx hb dX0_advanceWrit_38 rfl (lv_at hl 2 rfl) ?_
    refine gl_702 E hW r1410469 ⟨by omega, by omega⟩ dX0_advanceWrit_39 (fun y1410470 m1410471 b1410472 => ?_)
    refine q_icmp_eq (tgt := 54) hx hb dX0_advanceWrit_40 (by decide) rfl rfl (fun c1410473 => ?_) (fun c1410473 => ?_)
    · refine lv_aload_n hx hb dX0_advanceWrit_54 rfl (lv_at hl 1 rfl) ?_
      refine fg_RX0_28 E hW rh0 dX0_advanceWrit_55 (fun a1410474 m1410475 r1410476 => ?_)
      obtain rfl : a1410426 = a1410474 := (m1410465).symm.trans m1410475
      refine fg_RX0_239 E hW r1410428 dX0_advanceWrit_58 (fun a1410477 m1410478 r1410479 => ?_)
      refine lv_iload_n hx hb dX0_advanceWrit_61 rfl (lv_at hl 2 rfl) ?_
      refine gl_705 E hW r1410479 ⟨by omega, by omega⟩ dX0_advanceWrit_62 (fun y1410480 m1410481 => ?_)
      refine lv_aload_n hx hb dX0_advanceWrit_63 rfl (lv_at hl 1 rfl) ?_
      refine fg_RX0_93 E hW rh0 dX0_advanceWrit_64 (fun y1410483 m1410484 b1410485 => ?_)
      refine q_icmp_eq (tgt := 85) hx hb dX0_advanceWrit_67 (by decide) rfl rfl (fun c1410486 => ?_) (fun c1410486 => ?_)
      · exact e_V E hW rfl ⟨rfl, hF⟩ dX0_advanceWrit_85
      · refine lv_aload_n hx hb dX0_advanceWrit_70 rfl (lv_at hl 1 rfl) ?_
        refine fg_RX0_28 E hW rh0 dX0_advanceWrit_71 (fun a1410487 m1410488 r1410489 => ?_)
        obtain rfl : a1410426 = a1410487 := (m1410475).symm.trans m1410488
        refine lv_iload_n hx hb dX0_advanceWrit_74 rfl (lv_at hl 0 rfl) ?_
        refine lv_aload_n hx hb dX0_advanceWrit_75 rfl (lv_at hl 1 rfl) ?_
        refine fg_RX0_93 E hW rh0 dX0_advanceWrit_76 (fun y1410490 m1410491 b1410492 => ?_)
        obtain rfl : y1410483 = y1410490 := (m1410484).symm.trans m1410491
        refine t_callV (As := [.int y1410432, .int y1410483]) (rest := []) E hW (c_X10_isGuarded l G cI cJ cZ cD cR cT kp L f0 hW.2.2.2 _ a1410426 y1410432 y1410483 r1410428 (by omega) (by omega)) r1410428 (by decide) rfl wk_X10_isGuarded tw_1150 rfl ⟨Nat.le_of_ble_eq_true rfl, Nat.le_of_ble_eq_true rfl⟩ ⟨rfl, rfl⟩ hl.1 rfl (Nat.le_of_ble_eq_true rfl) dX0_advanceWrit_79 ⟨Nat.le_of_ble_eq_true rfl, Nat.le_of_ble_eq_true rfl⟩ (fun v1410493 f1410494 H locs q1410495 hW => ?_)
        obtain ⟨⟨x1410497, rfl, p1410498⟩, g1410496⟩ := q1410495
        have hF := FM.tr hF g1410496 rfl
        refine q_if_eq (tgt := 86) hx hb dX0_advanceWrit_82 (by decide) rfl (fun c1410499 => ?_) (fun c1410499 => ?_)
        · refine lv_aload_n hx hb dX0_advanceWrit_86 rfl (lv_at hl 1 rfl) ?_
          refine fg_RX0_28 E hW rh0 dX0_advanceWrit_87 (fun a1410500 m1410501 r1410502 => ?_)
          obtain rfl : a1410426 = a1410500 := (((fm_R g1410496 rh0 rfl).trans m1410488)).symm.trans m1410501
          refine fg_RX0_246 E hW r1410428 dX0_advanceWrit_90 (fun a1410503 m1410504 r1410505 => ?_)
          refine lv_iload_n hx hb dX0_advanceWrit_93 rfl (lv_at hl 2 rfl) ?_
          refine lv_dup2_11 hx hb dX0_advanceWrit_94 rfl rfl ?_
          refine gl_704 E hW r1410505 ⟨by omega, by omega⟩ dX0_advanceWrit_95 (fun y1410506 m1410507 => ?_)
          refine lv_iconst (v := 1) hx hb dX0_advanceWrit_96 (by decide) ?_
          refine u_isub hx hb dX0_advanceWrit_97 (fun x1410509 => ?_)
          refine gs_704 E hW r1410505 ⟨by omega, by omega⟩ dX0_advanceWrit_98 (fun f1410510 H locs e1410511 n1410512 g1410513 hW => ?_)
          have hF := FM.tr hF g1410513 rfl
          refine lv_aload_n hx hb dX0_advanceWrit_99 rfl (lv_at hl 1 rfl) ?_
          refine fg_RX0_28 E hW rh0 dX0_advanceWrit_100 (fun a1410514 m1410515 r1410516 => ?_)
          obtain rfl : a1410426 = a1410514 := (((fm_R g1410513 rh0 rfl).trans m1410501)).symm.trans m1410515
          refine fg_RX0_246 E hW r1410428 dX0_advanceWrit_103 (fun a1410517 m1410518 r1410519 => ?_)
          obtain rfl : a1410503 = a1410517 := (((fm_R g1410513 r1410428 rfl).trans m1410504)).symm.trans m1410518
          refine lv_iload_n hx hb dX0_advanceWrit_106 rfl (lv_at hl 2 rfl) ?_
          refine gl_704 E hW r1410505 ⟨by omega, by omega⟩ dX0_advanceWrit_107 (fun y1410520 m1410521 => ?_)
          obtain rfl : x1410509 = y1410520 := ((by rw [e1410511]; exact up_s)).symm.trans m1410521
          refine q_if_le (tgt := 112) hx hb dX0_advanceWrit_108 (by decide) rfl (fun c1410523 => ?_) (fun c1410523 => ?_)
          · refine lv_aload_n hx hb dX0_advanceWrit_112 rfl (lv_at hl 1 rfl) ?_
            refine fg_RX0_28 E hW rh0 dX0_advanceWrit_113 (fun a1410524 m1410525 r1410526 => ?_)
            obtain rfl : a1410426 = a1410524 := (m1410515).symm.trans m1410525
            refine fg_RX0_249 E hW r1410428 dX0_advanceWrit_116 (fun a1410527 m1410528 r1410529 => ?_)
            refine lv_iload_n hx hb dX0_advanceWrit_119 rfl (lv_at hl 2 rfl) ?_
            refine lv_dup2_11 hx hb dX0_advanceWrit_120 rfl rfl ?_
            refine gl_703 E hW r1410529 ⟨by omega, by omega⟩ dX0_advanceWrit_121 (fun y1410530 m1410531 => ?_)
            refine lv_iconst (v := 1) hx hb dX0_advanceWrit_122 (by decide) ?_
            refine u_iadd hx hb dX0_advanceWrit_123 (fun x1410533 => ?_)
            refine gs_703 E hW r1410529 ⟨by omega, by omega⟩ dX0_advanceWrit_124 (fun f1410534 H locs e1410535 n1410536 g1410537 hW => ?_)
            have hF := FM.tr hF g1410537 rfl
            refine lv_aload_n hx hb dX0_advanceWrit_125 rfl (lv_at hl 1 rfl) ?_
            refine fg_RX0_28 E hW rh0 dX0_advanceWrit_126 (fun a1410538 m1410539 r1410540 => ?_)
            obtain rfl : a1410426 = a1410538 := (((fm_R g1410537 rh0 rfl).trans m1410525)).symm.trans m1410539
            refine fg_RX0_249 E hW r1410428 dX0_advanceWrit_129 (fun a1410541 m1410542 r1410543 => ?_)
            obtain rfl : a1410527 = a1410541 := (((fm_R g1410537 r1410428 rfl).trans m1410528)).symm.trans m1410542
            refine lv_iload_n hx hb dX0_advanceWrit_132 rfl (lv_at hl 2 rfl) ?_
            refine gl_703 E hW r1410529 ⟨by omega, by omega⟩ dX0_advanceWrit_133 (fun y1410544 m1410545 => ?_)
            obtain rfl : x1410533 = y1410544 := ((by rw [e1410535]; exact up_s)).symm.trans m1410545
            refine lv_iconst (v := 3) hx hb dX0_advanceWrit_134 (by decide) ?_
            have J1410609 : ∀ (f1410598 : Nat → va_E) (m1410599 : oR (f1410598 a1410426) 1 = a1410429) (m1410600 : oR (f1410598 a1410426) 2 = a1410467) (m1410601 : oR (f1410598 a1410426) 3 = a1410527) (m1410602 : oR (f1410598 a1410426) 4 = a1410503) (m1410603 : oR (f1410598 a1410426) 5 = a1410477) (m1410604 : oR (f1410598 a1410435) 4 = a1410458) (m1410605 : oR (f1410598 a1410435) 5 = a1410438) (m1410606 : oR (f1410598 h0) 1 = a1410435) (m1410607 : oR (f1410598 h0) 2 = a1410426) (m1410608 : oI (f1410598 h0) 6 = y1410483) (H : Heap) (locs : List Loc) (ls : Array Slot), WS G cI cJ cZ cD cR cT A kp L f1410598 s H locs → FM kp L ms_X0_advanceWrit f0 f1410598 → lv_has ls 3 [(2, .int y1410432), (0, .ref h0), (1, .int u1)] → W p l e ({ frames := 3, cells := 0, slots := 0, locals := 87 }) s m ([.ref h0, .int u1] : List Value).toArray below meth c H locs 0 0 (MQ below (QT (po_X0_advanceWrit kp L f0 h0 u1) G cI cJ cZ cD cR cT A kp L) ([.ref h0, .int u1] : List Value).toArray s 0 0 A) (F0 m 190 ls []) := by
              intro f1410598 m1410599 m1410600 m1410601 m1410602 m1410603 m1410604 m1410605 m1410606 m1410607 m1410608 H locs ls hW hF hl
              clear c1410444 b1410463 b1410472 c1410473 p1410498 c1410499 c1410523
              exact e_V E hW rfl ⟨rfl, hF⟩ dX0_advanceWrit_190
            refine q_icmp_le (Y := 3) (tgt := 165) hx hb dX0_advanceWrit_135 (by decide) rfl rfl (fun c1410610 => ?_) (fun c1410610 => ?_)
            · refine lv_aload_n hx hb dX0_advanceWrit_165 rfl (lv_at hl 1 rfl) ?_
              refine fg_RX0_28 E hW rh0 dX0_advanceWrit_166 (fun a1410611 m1410612 r1410613 => ?_)
              obtain rfl : a1410426 = a1410611 := (m1410539).symm.trans m1410612
              refine fg_RX0_246 E hW r1410428 dX0_advanceWrit_169 (fun a1410614 m1410615 r1410616 => ?_)
              obtain rfl : a1410503 = a1410614 := (((fm_R g1410537 r1410428 rfl).trans m1410518)).symm.trans m1410615
              refine lv_iload_n hx hb dX0_advanceWrit_172 rfl (lv_at hl 2 rfl) ?_
              refine lv_aload_n hx hb dX0_advanceWrit_173 rfl (lv_at hl 1 rfl) ?_
              refine fg_RX0_42 E hW rh0 dX0_advanceWrit_174 (fun a1410617 m1410618 r1410619 => ?_)
              refine lv_aload_n hx hb dX0_advanceWrit_177 rfl (lv_at hl 1 rfl) ?_
              refine fg_RX0_28 E hW rh0 dX0_advanceWrit_178 (fun a1410620 m1410621 r1410622 => ?_)
              obtain rfl : a1410426 = a1410620 := (m1410612).symm.trans m1410621
              refine fg_RX0_249 E hW r1410428 dX0_advanceWrit_181 (fun a1410623 m1410624 r1410625 => ?_)
              obtain rfl : a1410527 = a1410623 := (m1410542).symm.trans m1410624
              refine lv_iload_n hx hb dX0_advanceWrit_184 rfl (lv_at hl 2 rfl) ?_
              refine gl_703 E hW r1410529 ⟨by omega, by omega⟩ dX0_advanceWrit_185 (fun y1410626 m1410627 => ?_)
              obtain rfl : x1410533 = y1410626 := (m1410545).symm.trans m1410627
              refine t_callV (As := [.int x1410533]) (rest := [.int u1, .ref a1410503]) E hW (c_X2_weeksOf l G cI cJ cZ cD cR cT kp L f1410534 hW.2.2.2 _ a1410617 x1410533 r1410619 (by omega)) r1410619 (by decide) rfl wk_X2_weeksOf tw_1144 rfl ⟨Nat.le_of_ble_eq_true rfl, Nat.le_of_ble_eq_true rfl⟩ ⟨rfl, rfl⟩ hl.1 rfl (Nat.le_of_ble_eq_true rfl) dX0_advanceWrit_186 ⟨Nat.le_of_ble_eq_true rfl, Nat.le_of_ble_eq_true rfl⟩ (fun v1410629 f1410630 H locs q1410631 hW => ?_)
              obtain ⟨⟨x1410633, rfl, p1410634⟩, g1410632⟩ := q1410631
              clear p1410634
              have hF := FM.tr hF g1410632 rfl
              refine gs_704 E hW r1410505 ⟨by omega, by omega⟩ dX0_advanceWrit_189 (fun f1410635 H locs e1410636 n1410637 g1410638 hW => ?_)
              have hF := FM.tr hF g1410638 rfl
              exact J1410609 f1410635 ((fm_R g1410638 r1410428 rfl).trans ((fm_R g1410632 r1410428 rfl).trans ((fm_R g1410537 r1410428 rfl).trans ((fm_R g1410513 r1410428 rfl).trans ((fm_R g1410496 r1410428 rfl).trans m1410430))))) ((fm_R g1410638 r1410428 rfl).trans ((fm_R g1410632 r1410428 rfl).trans ((fm_R g1410537 r1410428 rfl).trans ((fm_R g1410513 r1410428 rfl).trans ((fm_R g1410496 r1410428 rfl).trans m1410468))))) ((fm_R g1410638 r1410428 rfl).trans ((fm_R g1410632 r1410428 rfl).trans m1410624)) ((fm_R g1410638 r1410428 rfl).trans ((fm_R g1410632 r1410428 rfl).trans m1410615)) ((fm_R g1410638 r1410428 rfl).trans ((fm_R g1410632 r1410428 rfl).trans ((fm_R g1410537 r1410428 rfl).trans ((fm_R g1410513 r1410428 rfl).trans ((fm_R g1410496 r1410428 rfl).trans m1410478))))) ((fm_R g1410638 r1410437 rfl).trans ((fm_R g1410632 r1410437 rfl).trans ((fm_R g1410537 r1410437 rfl).trans ((fm_R g1410513 r1410437 rfl).trans ((fm_R g1410496 r1410437 rfl).trans m1410459))))) ((fm_R g1410638 r1410437 rfl).trans ((fm_R g1410632 r1410437 rfl).trans ((fm_R g1410537 r1410437 rfl).trans ((fm_R g1410513 r1410437 rfl).trans ((fm_R g1410496 r1410437 rfl).trans m1410439))))) ((fm_R g1410638 rh0 rfl).trans ((fm_R g1410632 rh0 rfl).trans ((fm_R g1410537 rh0 rfl).trans ((fm_R g1410513 rh0 rfl).trans ((fm_R g1410496 rh0 rfl).trans m1410456))))) ((fm_R g1410638 rh0 rfl).trans ((fm_R g1410632 rh0 rfl).trans m1410621)) ((fm_I g1410638 rh0 rfl).trans ((fm_I g1410632 rh0 rfl).trans ((fm_I g1410537 rh0 rfl).trans ((fm_I g1410513 rh0 rfl).trans ((fm_I g1410496 rh0 rfl).trans m1410491))))) _ _ _ hW hF (lv_sub hl [0, 1, 2] rfl)
            · refine lv_aload_n hx hb dX0_advanceWrit_138 rfl (lv_at hl 1 rfl) ?_
              refine fg_RX0_28 E hW rh0 dX0_advanceWrit_139 (fun a1410639 m1410640 r1410641 => ?_)
              obtain rfl : a1410426 = a1410639 := (m1410539).symm.trans m1410640
              refine fg_RX0_151 E hW r1410428 dX0_advanceWrit_142 (fun a1410642 m1410643 r1410644 => ?_)
              refine lv_iload_n hx hb dX0_advanceWrit_145 rfl (lv_at hl 2 rfl) ?_
              refine lv_iconst (v := 0) hx hb dX0_advanceWrit_146 (by decide) ?_
              refine gs_706 E hW r1410644 ⟨by omega, by omega⟩ dX0_advanceWrit_147 (fun f1410645 H locs e1410646 n1410647 g1410648 hW => ?_)
              have hF := FM.tr hF g1410648 rfl
              refine lv_aload_n hx hb dX0_advanceWrit_148 rfl (lv_at hl 1 rfl) ?_
              refine lv_iload_n hx hb dX0_advanceWrit_149 rfl (lv_at hl 0 rfl) ?_
              refine lv_aload_n hx hb dX0_advanceWrit_150 rfl (lv_at hl 1 rfl) ?_
              refine fg_RX0_28 E hW rh0 dX0_advanceWrit_151 (fun a1410649 m1410650 r1410651 => ?_)
              obtain rfl : a1410426 = a1410649 := (((fm_R g1410648 rh0 rfl).trans m1410640)).symm.trans m1410650
              refine fg_RX0_238 E hW r1410428 dX0_advanceWrit_154 (fun a1410652 m1410653 r1410654 => ?_)
              obtain rfl : a1410467 = a1410652 := (((fm_R g1410648 r1410428 rfl).trans ((fm_R g1410537 r1410428 rfl).trans ((fm_R g1410513 r1410428 rfl).trans ((fm_R g1410496 r1410428 rfl).trans m1410468))))).symm.trans m1410653
              refine lv_iload_n hx hb dX0_advanceWrit_157 rfl (lv_at hl 2 rfl) ?_
              refine gl_702 E hW r1410469 ⟨by omega, by omega⟩ dX0_advanceWrit_158 (fun y1410655 m1410656 b1410657 => ?_)
              obtain rfl : y1410470 = y1410655 := (((congrArg (fun z => aI z (u1 : Int32).toNatClampNeg) (fm_A g1410648 r1410469 (by decide) rfl)).trans ((congrArg (fun z => aI z (u1 : Int32).toNatClampNeg) (fm_A g1410537 r1410469 (by decide) rfl)).trans ((congrArg (fun z => aI z (u1 : Int32).toNatClampNeg) (fm_A g1410513 r1410469 (by decide) rfl)).trans ((congrArg (fun z => aI z (u1 : Int32).toNatClampNeg) (fm_A g1410496 r1410469 (by decide) rfl)).trans m1410471))))).symm.trans m1410656
              refine t_callV (As := [.int y1410432, .int y1410470]) (rest := []) E hW (c_X0_putOut l G cI cJ cZ cD cR cT kp L f1410645 hW.2.2.2 _ h0 y1410432 y1410470 rh0 (by omega) (by omega)) rh0 (by decide) rfl wk_X0_putOut tw_1154 rfl ⟨Nat.le_of_ble_eq_true rfl, Nat.le_of_ble_eq_true rfl⟩ ⟨rfl, rfl⟩ hl.1 rfl (Nat.le_of_ble_eq_true rfl) dX0_advanceWrit_159 ⟨Nat.le_of_ble_eq_true rfl, Nat.le_of_ble_eq_true rfl⟩ (fun v1410658 f1410659 H locs q1410660 hW => ?_)
              obtain ⟨rfl, g1410661⟩ := q1410660
              have hF := FM.tr hF g1410661 rfl
              refine lv_goto (tgt := 190) hx hb dX0_advanceWrit_162 (by decide) ?_
              exact J1410609 f1410659 ((fm_R g1410661 r1410428 rfl).trans ((fm_R g1410648 r1410428 rfl).trans ((fm_R g1410537 r1410428 rfl).trans ((fm_R g1410513 r1410428 rfl).trans ((fm_R g1410496 r1410428 rfl).trans m1410430))))) ((fm_R g1410661 r1410428 rfl).trans m1410653) ((fm_R g1410661 r1410428 rfl).trans ((fm_R g1410648 r1410428 rfl).trans m1410542)) ((fm_R g1410661 r1410428 rfl).trans ((fm_R g1410648 r1410428 rfl).trans ((fm_R g1410537 r1410428 rfl).trans m1410518))) ((fm_R g1410661 r1410428 rfl).trans ((fm_R g1410648 r1410428 rfl).trans ((fm_R g1410537 r1410428 rfl).trans ((fm_R g1410513 r1410428 rfl).trans ((fm_R g1410496 r1410428 rfl).trans m1410478))))) ((fm_R g1410661 r1410437 rfl).trans ((fm_R g1410648 r1410437 rfl).trans ((fm_R g1410537 r1410437 rfl).trans ((fm_R g1410513 r1410437 rfl).trans ((fm_R g1410496 r1410437 rfl).trans m1410459))))) ((fm_R g1410661 r1410437 rfl).trans ((fm_R g1410648 r1410437 rfl).trans ((fm_R g1410537 r1410437 rfl).trans ((fm_R g1410513 r1410437 rfl).trans ((fm_R g1410496 r1410437 rfl).trans m1410439))))) ((fm_R g1410661 rh0 rfl).trans ((fm_R g1410648 rh0 rfl).trans ((fm_R g1410537 rh0 rfl).trans ((fm_R g1410513 rh0 rfl).trans ((fm_R g1410496 rh0 rfl).trans m1410456))))) ((fm_R g1410661 rh0 rfl).trans m1410650) ((fm_I g1410661 rh0 rfl).trans ((fm_I g1410648 rh0 rfl).trans ((fm_I g1410537 rh0 rfl).trans ((fm_I g1410513 rh0 rfl).trans ((fm_I g1410496 rh0 rfl).trans m1410491))))) _ _ _ hW hF (lv_sub hl [0, 1, 2] rfl)
          · exact e_V E hW rfl ⟨rfl, hF⟩ dX0_advanceWrit_111
        · exact e_V E hW rfl ⟨rfl, hF⟩ dX0_advanceWrit_85
    · refine lv_aload_n hx hb dX0_advanceWrit_43 rfl (lv_at hl 1 rfl) ?_
      refine fg_RX0_28 E hW rh0 dX0_advanceWrit_44 (fun a1410662 m1410663 r1410664 => ?_)
      obtain rfl : a1410426 = a1410662 := (m1410465).symm.trans m1410663
      refine fg_RX0_151 E hW r1410428 dX0_advanceWrit_47 (fun a1410665 m1410666 r1410667 => ?_)
      refine lv_iload_n hx hb dX0_advanceWrit_50 rfl (lv_at hl 2 rfl) ?_
      refine lv_iconst (v := 0) hx hb dX0_advanceWrit_51 (by decide) ?_
      refine gs_706 E hW r1410667 ⟨by omega, by omega⟩ dX0_advanceWrit_52 (fun f1410668 H locs e1410669 n1410670 g1410671 hW => ?_)
      have hF := FM.tr hF g1410671 rfl
      exact e_V E hW rfl ⟨rfl, hF⟩ dX0_advanceWrit_53
def ms_X0_wordOf : List (Nat × Nat) := []
def po_X0_wordOf (kp : Nat → Nat) (L : List Nat) (f0 : Nat → va_E) (h0 : Nat) (u1 : Int32) (u2 : Int32) (u3 : Int32) : Option Value → (Nat → va_E) → Prop := fun v f => (∃ r : Int32, v = some (.int r) ∧ (True)) ∧ FM kp L ms_X0_wordOf f0 f
set_option maxHeartbeats 4000000 in
set_option maxRecDepth 100000 in
theorem c_X0_wordOf (l : Launch) (G : va_G) (cI cJ cZ cD cR cT : ClassId) (kp : Nat → Nat) (L : List Nat) (f0 : Nat → va_E) (hTH : TH cI cJ cZ cD cR cT kp L f0) (sz : Nat) (h0 : Nat) (u1 : Int32) (u2 : Int32) (u3 : Int32) (rh0 : RK kp L h0 0) (pu1 : (268 : Int) ≤ u1.toInt ∧ u1.toInt ≤ 282) (pu2 : (-1 : Int) ≤ u2.toInt ∧ u2.toInt ≤ 39) (pu3 : (-1 : Int) ≤ u3.toInt ∧ u3.toInt ≤ 39) : Met l yX0_wordOf (Cond.code yX0_wordOf cX0_wordOf 4 (some .int) :: wTab) ({ frames := 2, cells := 0, slots := 0, locals := 63 }) (va_Pc [.ref h0, .int u1, .int u2, .int u3] (PreW G (tys6 cI cJ cZ cD cR cT) (va_pl L f0) sz)) (QT (po_X0_wordOf kp L f0 h0 u1 u2 u3) G cI cJ cZ cD cR cT (va_A (va_pl L f0) sz) kp L) 0 0 (va_A (va_pl L f0) sz) := by
  refine metT (by decide) (Nat.le_of_ble_eq_true rfl) hTH ?_
  intro p e s m below meth c A ls E hW hl
  obtain ⟨hx, hb, -, hml, hown, hts, -, -, -⟩ := id E
  have hF : FM kp L ms_X0_wordOf f0 f0 := FM.rf
  have hl : lv_has ls 4 [(0, .ref h0), (1, .int u1), (2, .int u2), (3, .int u3)] := hl
  refine lv_iload_n hx hb dX0_wordOf_0 rfl (lv_at hl 1 rfl) ?_
  refine lv_sipush (v := 276) hx hb dX0_wordOf_1 (by decide) ?_
  refine q_icmp_gt (Y := 276) (tgt := 21) hx hb dX0_wordOf_4 (by decide) rfl rfl (fun c1410672 => ?_) (fun c1410672 => ?_)
  · refine lv_iload_n hx hb dX0_wordOf_21 rfl (lv_at hl 1 rfl) ?_
    refine lv_sipush (v := 280) hx hb dX0_wordOf_22 (by decide) ?_
    refine q_icmp_gt (Y := 280) (tgt := 41) hx hb dX0_wordOf_25 (by decide) rfl rfl (fun c1410673 => ?_) (fun c1410673 => ?_)
    · refine lv_iload_n hx hb dX0_wordOf_41 rfl (lv_at hl 1 rfl) ?_
      by_cases c1410674 : u1.toInt = 268
      · exfalso; omega
      by_cases c1410675 : u1.toInt = 269
      · exfalso; omega
      by_cases c1410676 : u1.toInt = 270
      · exfalso; omega
      by_cases c1410677 : u1.toInt = 271
      · exfalso; omega
      by_cases c1410678 : u1.toInt = 272
      · exfalso; omega
      by_cases c1410679 : u1.toInt = 273
      · exfalso; omega
      by_cases c1410680 : u1.toInt = 274
      · exfalso; omega
      by_cases c1410681 : u1.toInt = 275
      · exfalso; omega
      by_cases c1410682 : u1.toInt = 276
      · exfalso; omega
      by_cases c1410683 : u1.toInt = 277
      · exfalso; omega
      by_cases c1410684 : u1.toInt = 278
      · exfalso; omega
      by_cases c1410685 : u1.toInt = 279
      · exfalso; omega
      by_cases c1410686 : u1.toInt = 280
      · exfalso; omega
      by_cases c1410687 : u1.toInt = 281
      · refine lv_tableIn (tgt := 156) hx hb dX0_wordOf_42 (by omega) (by omega) (by rw [c1410687]; rfl) (by decide) ?_
        refine lv_aload_n hx hb dX0_wordOf_156 rfl (lv_at hl 0 rfl) ?_
        refine fg_RX0_93 E hW rh0 dX0_wordOf_157 (fun y1410688 m1410689 b1410690 => ?_)
        exact e_I E hW rfl ⟨⟨_, rfl, trivial⟩, hF⟩ dX0_wordOf_160
      by_cases c1410691 : u1.toInt = 282
      · refine lv_tableIn (tgt := 161) hx hb dX0_wordOf_42 (by omega) (by omega) (by rw [c1410691]; rfl) (by decide) ?_
        refine lv_aload_n hx hb dX0_wordOf_161 rfl (lv_at hl 0 rfl) ?_
        refine fg_RX0_121 E hW rh0 dX0_wordOf_162 (fun y1410692 m1410693 => ?_)
        exact e_I E hW rfl ⟨⟨_, rfl, trivial⟩, hF⟩ dX0_wordOf_165
      refine lv_tableOut (tgt := 278) hx hb dX0_wordOf_42 (by omega) (by decide) ?_
      refine lv_iconst (v := 0) hx hb dX0_wordOf_278 (by decide) ?_
      exact e_I E hW rfl ⟨⟨_, rfl, trivial⟩, hF⟩ dX0_wordOf_279
    · refine lv_aload_n hx hb dX0_wordOf_28 rfl (lv_at hl 0 rfl) ?_
      refine fg_RX0_21 E hW rh0 dX0_wordOf_29 (fun a1410695 m1410696 r1410697 => ?_)
      refine lv_iload_n hx hb dX0_wordOf_32 rfl (lv_at hl 3 rfl) ?_
      refine t_callV (As := [.int u3]) (rest := []) E hW (c_X1_has l G cI cJ cZ cD cR cT kp L f0 hW.2.2.2 _ a1410695 u3 r1410697) r1410697 (by decide) rfl wk_X1_has tw_727 rfl ⟨Nat.le_of_ble_eq_true rfl, Nat.le_of_ble_eq_true rfl⟩ ⟨rfl, rfl⟩ hl.1 rfl (Nat.le_of_ble_eq_true rfl) dX0_wordOf_33 ⟨Nat.le_of_ble_eq_true rfl, Nat.le_of_ble_eq_true rfl⟩ (fun v1410698 f1410699 H locs q1410700 hW => ?_)
      obtain ⟨⟨x1410702, rfl, p1410703⟩, g1410701⟩ := q1410700
      have hF := FM.tr hF g1410701 rfl
      refine q_if_ne (tgt := 41) hx hb dX0_wordOf_36 (by decide) rfl (fun c1410704 => ?_) (fun c1410704 => ?_)
      · have q1410705 : 0 ≤ u3.toInt ∧ u3.toInt ≤ 39 := by omega
        clear p1410703
        refine lv_iload_n hx hb dX0_wordOf_41 rfl (lv_at hl 1 rfl) ?_
        by_cases c1410706 : u1.toInt = 268
        · exfalso; omega
        by_cases c1410707 : u1.toInt = 269
        · exfalso; omega
        by_cases c1410708 : u1.toInt = 270
        · exfalso; omega
        by_cases c1410709 : u1.toInt = 271
        · exfalso; omega
        by_cases c1410710 : u1.toInt = 272
        · exfalso; omega
        by_cases c1410711 : u1.toInt = 273
        · exfalso; omega
        by_cases c1410712 : u1.toInt = 274
        · exfalso; omega
        by_cases c1410713 : u1.toInt = 275
        · exfalso; omega
        by_cases c1410714 : u1.toInt = 276
        · exfalso; omega
        by_cases c1410715 : u1.toInt = 277
        · refine lv_tableIn (tgt := 116) hx hb dX0_wordOf_42 (by omega) (by omega) (by rw [c1410715]; rfl) (by decide) ?_
          refine lv_aload_n hx hb dX0_wordOf_116 rfl (lv_at hl 0 rfl) ?_
          refine fg_RX0_21 E hW rh0 dX0_wordOf_117 (fun a1410716 m1410717 r1410718 => ?_)
          obtain rfl : a1410695 = a1410716 := (((fm_R g1410701 rh0 rfl).trans m1410696)).symm.trans m1410717
          refine fg_RX0_172 E hW r1410697 dX0_wordOf_120 (fun a1410719 m1410720 r1410721 => ?_)
          refine lv_iload_n hx hb dX0_wordOf_123 rfl (lv_at hl 3 rfl) ?_
          refine gl_162 E hW r1410721 ⟨by omega, by omega⟩ dX0_wordOf_124 (fun y1410722 m1410723 => ?_)
          exact e_I E hW rfl ⟨⟨_, rfl, trivial⟩, hF⟩ dX0_wordOf_125
        by_cases c1410725 : u1.toInt = 278
        · refine lv_tableIn (tgt := 126) hx hb dX0_wordOf_42 (by omega) (by omega) (by rw [c1410725]; rfl) (by decide) ?_
          refine lv_aload_n hx hb dX0_wordOf_126 rfl (lv_at hl 0 rfl) ?_
          refine fg_RX0_21 E hW rh0 dX0_wordOf_127 (fun a1410726 m1410727 r1410728 => ?_)
          obtain rfl : a1410695 = a1410726 := (((fm_R g1410701 rh0 rfl).trans m1410696)).symm.trans m1410727
          refine fg_RX0_342 E hW r1410697 dX0_wordOf_130 (fun a1410729 m1410730 r1410731 => ?_)
          refine lv_iload_n hx hb dX0_wordOf_133 rfl (lv_at hl 3 rfl) ?_
          refine gl_163 E hW r1410731 ⟨by omega, by omega⟩ dX0_wordOf_134 (fun y1410732 m1410733 => ?_)
          exact e_I E hW rfl ⟨⟨_, rfl, trivial⟩, hF⟩ dX0_wordOf_135
        by_cases c1410735 : u1.toInt = 279
        · refine lv_tableIn (tgt := 136) hx hb dX0_wordOf_42 (by omega) (by omega) (by rw [c1410735]; rfl) (by decide) ?_
          refine lv_aload_n hx hb dX0_wordOf_136 rfl (lv_at hl 0 rfl) ?_
          refine fg_RX0_21 E hW rh0 dX0_wordOf_137 (fun a1410736 m1410737 r1410738 => ?_)
          obtain rfl : a1410695 = a1410736 := (((fm_R g1410701 rh0 rfl).trans m1410696)).symm.trans m1410737
          refine fg_RX0_188 E hW r1410697 dX0_wordOf_140 (fun a1410739 m1410740 r1410741 => ?_)
          refine lv_iload_n hx hb dX0_wordOf_143 rfl (lv_at hl 3 rfl) ?_
          refine gl_165 E hW r1410741 ⟨by omega, by omega⟩ dX0_wordOf_144 (fun y1410742 m1410743 => ?_)
          exact e_I E hW rfl ⟨⟨_, rfl, trivial⟩, hF⟩ dX0_wordOf_145
        by_cases c1410745 : u1.toInt = 280
        · refine lv_tableIn (tgt := 146) hx hb dX0_wordOf_42 (by omega) (by omega) (by rw [c1410745]; rfl) (by decide) ?_
          refine lv_aload_n hx hb dX0_wordOf_146 rfl (lv_at hl 0 rfl) ?_
          refine fg_RX0_21 E hW rh0 dX0_wordOf_147 (fun a1410746 m1410747 r1410748 => ?_)
          obtain rfl : a1410695 = a1410746 := (((fm_R g1410701 rh0 rfl).trans m1410696)).symm.trans m1410747
          refine fg_RX0_204 E hW r1410697 dX0_wordOf_150 (fun a1410749 m1410750 r1410751 => ?_)
          refine lv_iload_n hx hb dX0_wordOf_153 rfl (lv_at hl 3 rfl) ?_
          refine gl_161 E hW r1410751 ⟨by omega, by omega⟩ dX0_wordOf_154 (fun y1410752 m1410753 b1410754 => ?_)
          exact e_I E hW rfl ⟨⟨_, rfl, trivial⟩, hF⟩ dX0_wordOf_155
        by_cases c1410755 : u1.toInt = 281
        · exfalso; omega
        by_cases c1410756 : u1.toInt = 282
        · exfalso; omega
        refine lv_tableOut (tgt := 278) hx hb dX0_wordOf_42 (by omega) (by decide) ?_
        refine lv_iconst (v := 0) hx hb dX0_wordOf_278 (by decide) ?_
        exact e_I E hW rfl ⟨⟨_, rfl, trivial⟩, hF⟩ dX0_wordOf_279
      · clear p1410703
        refine lv_iconst (v := 0) hx hb dX0_wordOf_39 (by decide) ?_
        exact e_I E hW rfl ⟨⟨_, rfl, trivial⟩, hF⟩ dX0_wordOf_40
  · refine lv_aload_n hx hb dX0_wordOf_7 rfl (lv_at hl 0 rfl) ?_
    refine fg_RX0_12 E hW rh0 dX0_wordOf_8 (fun a1410757 m1410758 r1410759 => ?_)
    refine lv_iload_n hx hb dX0_wordOf_11 rfl (lv_at hl 2 rfl) ?_
    refine t_callV (As := [.int u2]) (rest := []) E hW (c_X4_has l G cI cJ cZ cD cR cT kp L f0 hW.2.2.2 _ a1410757 u2 r1410759) r1410759 (by decide) rfl wk_X4_has tw_726 rfl ⟨Nat.le_of_ble_eq_true rfl, Nat.le_of_ble_eq_true rfl⟩ ⟨rfl, rfl⟩ hl.1 rfl (Nat.le_of_ble_eq_true rfl) dX0_wordOf_12 ⟨Nat.le_of_ble_eq_true rfl, Nat.le_of_ble_eq_true rfl⟩ (fun v1410760 f1410761 H locs q1410762 hW => ?_)
    obtain ⟨⟨x1410764, rfl, p1410765⟩, g1410763⟩ := q1410762
    have hF := FM.tr hF g1410763 rfl
    refine q_if_ne (tgt := 41) hx hb dX0_wordOf_15 (by decide) rfl (fun c1410766 => ?_) (fun c1410766 => ?_)
    · have q1410767 : 0 ≤ u2.toInt ∧ u2.toInt ≤ 39 := by omega
      clear p1410765
      refine lv_iload_n hx hb dX0_wordOf_41 rfl (lv_at hl 1 rfl) ?_
      by_cases c1410768 : u1.toInt = 268
      · refine lv_tableIn (tgt := 166) hx hb dX0_wordOf_42 (by omega) (by omega) (by rw [c1410768]; rfl) (by decide) ?_
        refine lv_aload_n hx hb dX0_wordOf_166 rfl (lv_at hl 0 rfl) ?_
        refine fg_RX0_21 E hW rh0 dX0_wordOf_167 (fun a1410769 m1410770 r1410771 => ?_)
        refine lv_iload_n hx hb dX0_wordOf_170 rfl (lv_at hl 2 rfl) ?_
        refine t_callV (As := [.int u2]) (rest := []) E hW (c_X1_isHeldBy l G cI cJ cZ cD cR cT kp L f1410761 hW.2.2.2 _ a1410769 u2 r1410771 (by omega)) r1410771 (by decide) rfl wk_X1_isHeldBy tw_728 rfl ⟨Nat.le_of_ble_eq_true rfl, Nat.le_of_ble_eq_true rfl⟩ ⟨rfl, rfl⟩ hl.1 rfl (Nat.le_of_ble_eq_true rfl) dX0_wordOf_171 ⟨Nat.le_of_ble_eq_true rfl, Nat.le_of_ble_eq_true rfl⟩ (fun v1410772 f1410773 H locs q1410774 hW => ?_)
        obtain ⟨⟨x1410776, rfl, p1410777⟩, g1410775⟩ := q1410774
        have hF := FM.tr hF g1410775 rfl
        have J1410780 : ∀ (y1410778 : Int32) (b1410779 : (0 : Int) ≤ y1410778.toInt ∧ y1410778.toInt ≤ 1) (H : Heap) (locs : List Loc) (ls : Array Slot), WS G cI cJ cZ cD cR cT A kp L f1410773 s H locs → FM kp L ms_X0_wordOf f0 f1410773 → lv_has ls 4 [(0, .ref h0), (1, .int u1), (2, .int u2), (3, .int u3)] → W p l e ({ frames := 2, cells := 0, slots := 0, locals := 63 }) s m ([.ref h0, .int u1, .int u2, .int u3] : List Value).toArray below meth c H locs 0 0 (MQ below (QT (po_X0_wordOf kp L f0 h0 u1 u2 u3) G cI cJ cZ cD cR cT A kp L) ([.ref h0, .int u1, .int u2, .int u3] : List Value).toArray s 0 0 A) (F0 m 182 ls [.int y1410778]) := by
          intro y1410778 b1410779 H locs ls hW hF hl
          clear c1410766 p1410777
          exact e_I E hW rfl ⟨⟨_, rfl, trivial⟩, hF⟩ dX0_wordOf_182
        refine q_if_eq (tgt := 181) hx hb dX0_wordOf_174 (by decide) rfl (fun c1410781 => ?_) (fun c1410781 => ?_)
        · refine lv_iconst (v := 0) hx hb dX0_wordOf_181 (by decide) ?_
          exact J1410780 0 (by decide) _ _ _ hW hF (lv_sub hl [0, 1, 2, 3] rfl)
        · refine lv_iconst (v := 1) hx hb dX0_wordOf_177 (by decide) ?_
          refine lv_goto (tgt := 182) hx hb dX0_wordOf_178 (by decide) ?_
          exact J1410780 1 (by decide) _ _ _ hW hF (lv_sub hl [0, 1, 2, 3] rfl)
      by_cases c1410782 : u1.toInt = 269
      · refine lv_tableIn (tgt := 183) hx hb dX0_wordOf_42 (by omega) (by omega) (by rw [c1410782]; rfl) (by decide) ?_
        refine lv_aload_n hx hb dX0_wordOf_183 rfl (lv_at hl 0 rfl) ?_
        refine fg_RX0_12 E hW rh0 dX0_wordOf_184 (fun a1410783 m1410784 r1410785 => ?_)
        obtain rfl : a1410757 = a1410783 := (((fm_R g1410763 rh0 rfl).trans m1410758)).symm.trans m1410784
        refine fg_RX0_130 E hW r1410759 dX0_wordOf_187 (fun a1410786 m1410787 r1410788 => ?_)
        refine lv_iload_n hx hb dX0_wordOf_190 rfl (lv_at hl 2 rfl) ?_
        refine gl_347 E hW r1410788 ⟨by omega, by omega⟩ dX0_wordOf_191 (fun y1410789 m1410790 => ?_)
        refine lv_iconst (v := (-1)) hx hb dX0_wordOf_192 (by decide) ?_
        have J1410794 : ∀ (y1410792 : Int32) (b1410793 : (0 : Int) ≤ y1410792.toInt ∧ y1410792.toInt ≤ 1) (H : Heap) (locs : List Loc) (ls : Array Slot), WS G cI cJ cZ cD cR cT A kp L f1410761 s H locs → FM kp L ms_X0_wordOf f0 f1410761 → lv_has ls 4 [(0, .ref h0), (1, .int u1), (2, .int u2), (3, .int u3)] → W p l e ({ frames := 2, cells := 0, slots := 0, locals := 63 }) s m ([.ref h0, .int u1, .int u2, .int u3] : List Value).toArray below meth c H locs 0 0 (MQ below (QT (po_X0_wordOf kp L f0 h0 u1 u2 u3) G cI cJ cZ cD cR cT A kp L) ([.ref h0, .int u1, .int u2, .int u3] : List Value).toArray s 0 0 A) (F0 m 201 ls [.int y1410792]) := by
          intro y1410792 b1410793 H locs ls hW hF hl
          clear c1410766
          exact e_I E hW rfl ⟨⟨_, rfl, trivial⟩, hF⟩ dX0_wordOf_201
        refine q_icmp_ne (Y := -1) (tgt := 200) hx hb dX0_wordOf_193 (by decide) rfl rfl (fun c1410795 => ?_) (fun c1410795 => ?_)
        · refine lv_iconst (v := 1) hx hb dX0_wordOf_200 (by decide) ?_
          exact J1410794 1 (by decide) _ _ _ hW hF (lv_sub hl [0, 1, 2, 3] rfl)
        · refine lv_iconst (v := 0) hx hb dX0_wordOf_196 (by decide) ?_
          refine lv_goto (tgt := 201) hx hb dX0_wordOf_197 (by decide) ?_
          exact J1410794 0 (by decide) _ _ _ hW hF (lv_sub hl [0, 1, 2, 3] rfl)
      by_cases c1410796 : u1.toInt = 270
      · refine lv_tableIn (tgt := 202) hx hb dX0_wordOf_42 (by omega) (by omega) (by rw [c1410796]; rfl) (by decide) ?_
        refine lv_aload_n hx hb dX0_wordOf_202 rfl (lv_at hl 0 rfl) ?_
        refine fg_RX0_12 E hW rh0 dX0_wordOf_203 (fun a1410797 m1410798 r1410799 => ?_)
        obtain rfl : a1410757 = a1410797 := (((fm_R g1410763 rh0 rfl).trans m1410758)).symm.trans m1410798
        refine fg_RX0_277 E hW r1410759 dX0_wordOf_206 (fun a1410800 m1410801 r1410802 => ?_)
        refine lv_iload_n hx hb dX0_wordOf_209 rfl (lv_at hl 2 rfl) ?_
        refine gl_348 E hW r1410802 ⟨by omega, by omega⟩ dX0_wordOf_210 (fun y1410803 m1410804 => ?_)
        exact e_I E hW rfl ⟨⟨_, rfl, trivial⟩, hF⟩ dX0_wordOf_211
      by_cases c1410806 : u1.toInt = 271
      · refine lv_tableIn (tgt := 212) hx hb dX0_wordOf_42 (by omega) (by omega) (by rw [c1410806]; rfl) (by decide) ?_
        refine lv_aload_n hx hb dX0_wordOf_212 rfl (lv_at hl 0 rfl) ?_
        refine fg_RX0_21 E hW rh0 dX0_wordOf_213 (fun a1410807 m1410808 r1410809 => ?_)
        refine lv_iload_n hx hb dX0_wordOf_216 rfl (lv_at hl 2 rfl) ?_
        refine t_callV (As := [.int u2]) (rest := []) E hW (c_X1_isGrabbedBy l G cI cJ cZ cD cR cT kp L f1410761 hW.2.2.2 _ a1410807 u2 r1410809 (by omega)) r1410809 (by decide) rfl wk_X1_isGrabbedBy tw_732 rfl ⟨Nat.le_of_ble_eq_true rfl, Nat.le_of_ble_eq_true rfl⟩ ⟨rfl, rfl⟩ hl.1 rfl (Nat.le_of_ble_eq_true rfl) dX0_wordOf_217 ⟨Nat.le_of_ble_eq_true rfl, Nat.le_of_ble_eq_true rfl⟩ (fun v1410810 f1410811 H locs q1410812 hW => ?_)
        obtain ⟨⟨x1410814, rfl, p1410815⟩, g1410813⟩ := q1410812
        have hF := FM.tr hF g1410813 rfl
        have J1410818 : ∀ (y1410816 : Int32) (b1410817 : (0 : Int) ≤ y1410816.toInt ∧ y1410816.toInt ≤ 1) (H : Heap) (locs : List Loc) (ls : Array Slot), WS G cI cJ cZ cD cR cT A kp L f1410811 s H locs → FM kp L ms_X0_wordOf f0 f1410811 → lv_has ls 4 [(0, .ref h0), (1, .int u1), (2, .int u2), (3, .int u3)] → W p l e ({ frames := 2, cells := 0, slots := 0, locals := 63 }) s m ([.ref h0, .int u1, .int u2, .int u3] : List Value).toArray below meth c H locs 0 0 (MQ below (QT (po_X0_wordOf kp L f0 h0 u1 u2 u3) G cI cJ cZ cD cR cT A kp L) ([.ref h0, .int u1, .int u2, .int u3] : List Value).toArray s 0 0 A) (F0 m 228 ls [.int y1410816]) := by
          intro y1410816 b1410817 H locs ls hW hF hl
          clear c1410766 p1410815
          exact e_I E hW rfl ⟨⟨_, rfl, trivial⟩, hF⟩ dX0_wordOf_228
        refine q_if_eq (tgt := 227) hx hb dX0_wordOf_220 (by decide) rfl (fun c1410819 => ?_) (fun c1410819 => ?_)
        · refine lv_iconst (v := 0) hx hb dX0_wordOf_227 (by decide) ?_
          exact J1410818 0 (by decide) _ _ _ hW hF (lv_sub hl [0, 1, 2, 3] rfl)
        · refine lv_iconst (v := 1) hx hb dX0_wordOf_223 (by decide) ?_
          refine lv_goto (tgt := 228) hx hb dX0_wordOf_224 (by decide) ?_
          exact J1410818 1 (by decide) _ _ _ hW hF (lv_sub hl [0, 1, 2, 3] rfl)
      by_cases c1410820 : u1.toInt = 272
      · refine lv_tableIn (tgt := 229) hx hb dX0_wordOf_42 (by omega) (by omega) (by rw [c1410820]; rfl) (by decide) ?_
        refine lv_aload_n hx hb dX0_wordOf_229 rfl (lv_at hl 0 rfl) ?_
        refine fg_RX0_12 E hW rh0 dX0_wordOf_230 (fun a1410821 m1410822 r1410823 => ?_)
        obtain rfl : a1410757 = a1410821 := (((fm_R g1410763 rh0 rfl).trans m1410758)).symm.trans m1410822
        refine fg_RX0_213 E hW r1410759 dX0_wordOf_233 (fun a1410824 m1410825 r1410826 => ?_)
        refine lv_iload_n hx hb dX0_wordOf_236 rfl (lv_at hl 2 rfl) ?_
        refine gl_342 E hW r1410826 ⟨by omega, by omega⟩ dX0_wordOf_237 (fun y1410827 m1410828 => ?_)
        exact e_I E hW rfl ⟨⟨_, rfl, trivial⟩, hF⟩ dX0_wordOf_238
      by_cases c1410830 : u1.toInt = 273
      · refine lv_tableIn (tgt := 239) hx hb dX0_wordOf_42 (by omega) (by omega) (by rw [c1410830]; rfl) (by decide) ?_
        refine lv_aload_n hx hb dX0_wordOf_239 rfl (lv_at hl 0 rfl) ?_
        refine fg_RX0_12 E hW rh0 dX0_wordOf_240 (fun a1410831 m1410832 r1410833 => ?_)
        obtain rfl : a1410757 = a1410831 := (((fm_R g1410763 rh0 rfl).trans m1410758)).symm.trans m1410832
        refine fg_RX0_179 E hW r1410759 dX0_wordOf_243 (fun a1410834 m1410835 r1410836 => ?_)
        refine lv_iload_n hx hb dX0_wordOf_246 rfl (lv_at hl 2 rfl) ?_
        refine gl_345 E hW r1410836 ⟨by omega, by omega⟩ dX0_wordOf_247 (fun y1410837 m1410838 => ?_)
        exact e_I E hW rfl ⟨⟨_, rfl, trivial⟩, hF⟩ dX0_wordOf_248
      by_cases c1410840 : u1.toInt = 274
      · refine lv_tableIn (tgt := 249) hx hb dX0_wordOf_42 (by omega) (by omega) (by rw [c1410840]; rfl) (by decide) ?_
        refine lv_aload_n hx hb dX0_wordOf_249 rfl (lv_at hl 0 rfl) ?_
        refine fg_RX0_12 E hW rh0 dX0_wordOf_250 (fun a1410841 m1410842 r1410843 => ?_)
        obtain rfl : a1410757 = a1410841 := (((fm_R g1410763 rh0 rfl).trans m1410758)).symm.trans m1410842
        refine fg_RX0_348 E hW r1410759 dX0_wordOf_253 (fun a1410844 m1410845 r1410846 => ?_)
        refine lv_iload_n hx hb dX0_wordOf_256 rfl (lv_at hl 2 rfl) ?_
        refine gl_343 E hW r1410846 ⟨by omega, by omega⟩ dX0_wordOf_257 (fun y1410847 m1410848 => ?_)
        exact e_I E hW rfl ⟨⟨_, rfl, trivial⟩, hF⟩ dX0_wordOf_258
      by_cases c1410850 : u1.toInt = 275
      · refine lv_tableIn (tgt := 259) hx hb dX0_wordOf_42 (by omega) (by omega) (by rw [c1410850]; rfl) (by decide) ?_
        refine lv_aload_n hx hb dX0_wordOf_259 rfl (lv_at hl 0 rfl) ?_
        refine fg_RX0_12 E hW rh0 dX0_wordOf_260 (fun a1410851 m1410852 r1410853 => ?_)
        obtain rfl : a1410757 = a1410851 := (((fm_R g1410763 rh0 rfl).trans m1410758)).symm.trans m1410852
        refine fg_RX0_351 E hW r1410759 dX0_wordOf_263 (fun a1410854 m1410855 r1410856 => ?_)
        refine lv_iload_n hx hb dX0_wordOf_266 rfl (lv_at hl 2 rfl) ?_
        refine gl_341 E hW r1410856 ⟨by omega, by omega⟩ dX0_wordOf_267 (fun y1410857 m1410858 => ?_)
        exact e_I E hW rfl ⟨⟨_, rfl, trivial⟩, hF⟩ dX0_wordOf_268
      by_cases c1410860 : u1.toInt = 276
      · refine lv_tableIn (tgt := 269) hx hb dX0_wordOf_42 (by omega) (by omega) (by rw [c1410860]; rfl) (by decide) ?_
        refine lv_aload_n hx hb dX0_wordOf_269 rfl (lv_at hl 0 rfl) ?_
        refine fg_RX0_12 E hW rh0 dX0_wordOf_270 (fun a1410861 m1410862 r1410863 => ?_)
        obtain rfl : a1410757 = a1410861 := (((fm_R g1410763 rh0 rfl).trans m1410758)).symm.trans m1410862
        refine lv_iload_n hx hb dX0_wordOf_273 rfl (lv_at hl 2 rfl) ?_
        refine t_callV (As := [.int u2]) (rest := []) E hW (c_X4_kinOf l G cI cJ cZ cD cR cT kp L f1410761 hW.2.2.2 _ a1410757 u2 r1410759 (by omega)) r1410759 (by decide) rfl wk_X4_kinOf tw_736 rfl ⟨Nat.le_of_ble_eq_true rfl, Nat.le_of_ble_eq_true rfl⟩ ⟨rfl, rfl⟩ hl.1 rfl (Nat.le_of_ble_eq_true rfl) dX0_wordOf_274 ⟨Nat.le_of_ble_eq_true rfl, Nat.le_of_ble_eq_true rfl⟩ (fun v1410864 f1410865 H locs q1410866 hW => ?_)
        obtain ⟨⟨x1410868, rfl, p1410869⟩, g1410867⟩ := q1410866
        clear p1410869
        have hF := FM.tr hF g1410867 rfl
        exact e_I E hW rfl ⟨⟨_, rfl, trivial⟩, hF⟩ dX0_wordOf_277
      by_cases c1410870 : u1.toInt = 277
      · exfalso; omega
      by_cases c1410871 : u1.toInt = 278
      · exfalso; omega
      by_cases c1410872 : u1.toInt = 279
      · exfalso; omega
      by_cases c1410873 : u1.toInt = 280
      · exfalso; omega
      by_cases c1410874 : u1.toInt = 281
      · exfalso; omega
      by_cases c1410875 : u1.toInt = 282
      · exfalso; omega
      refine lv_tableOut (tgt := 278) hx hb dX0_wordOf_42 (by omega) (by decide) ?_
      refine lv_iconst (v := 0) hx hb dX0_wordOf_278 (by decide) ?_
      exact e_I E hW rfl ⟨⟨_, rfl, trivial⟩, hF⟩ dX0_wordOf_279
    · clear p1410765
      refine lv_goto (tgt := 39) hx hb dX0_wordOf_18 (by decide) ?_
      refine lv_iconst (v := 0) hx hb dX0_wordOf_39 (by decide) ?_
      exact e_I E hW rfl ⟨⟨_, rfl, trivial⟩, hF⟩ dX0_wordOf_40
def ms_X0_join : List (Nat × Nat) := []
def po_X0_join (kp : Nat → Nat) (L : List Nat) (f0 : Nat → va_E) (u1 : Int32) (u2 : Int64) (u3 : Int64) : Option Value → (Nat → va_E) → Prop := fun v f => (∃ r : Int64, v = some (.long r) ∧ (True)) ∧ FM kp L ms_X0_join f0 f
set_option maxHeartbeats 4000000 in
set_option maxRecDepth 100000 in
theorem c_X0_join (l : Launch) (G : va_G) (cI cJ cZ cD cR cT : ClassId) (kp : Nat → Nat) (L : List Nat) (f0 : Nat → va_E) (hTH : TH cI cJ cZ cD cR cT kp L f0) (sz : Nat) (u1 : Int32) (u2 : Int64) (u3 : Int64) (pu1 : u1.toInt ≤ 255) : Met l yX0_join (Cond.code yX0_join cX0_join 7 (some .long) :: wTab) ({ frames := 1, cells := 0, slots := 0, locals := 40 }) (va_Pc [.int u1, .long u2, .long u3] (PreW G (tys6 cI cJ cZ cD cR cT) (va_pl L f0) sz)) (QT (po_X0_join kp L f0 u1 u2 u3) G cI cJ cZ cD cR cT (va_A (va_pl L f0) sz) kp L) 0 0 (va_A (va_pl L f0) sz) := by
  refine metT (by decide) (Nat.le_of_ble_eq_true rfl) hTH ?_
  intro p e s m below meth c A ls E hW hl
  obtain ⟨hx, hb, -, hml, hown, hts, -, -, -⟩ := id E
  have hF : FM kp L ms_X0_join f0 f0 := FM.rf
  have hl : lv_has ls 7 [(0, .int u1), (1, .long u2), (3, .long u3)] := hl
  refine lv_iload_n hx hb dX0_join_0 rfl (lv_at hl 0 rfl) ?_
  have J1410897 : ∀ (y1410896 : Int64) (H : Heap) (locs : List Loc) (ls : Array Slot), WS G cI cJ cZ cD cR cT A kp L f0 s H locs → FM kp L ms_X0_join f0 f0 → lv_has ls 7 [(5, .long y1410896), (0, .int u1), (1, .long u2), (3, .long u3)] → W p l e ({ frames := 1, cells := 0, slots := 0, locals := 40 }) s m ([.int u1, .long u2, .long u3] : List Value).toArray below meth c H locs 0 0 (MQ below (QT (po_X0_join kp L f0 u1 u2 u3) G cI cJ cZ cD cR cT A kp L) ([.int u1, .long u2, .long u3] : List Value).toArray s 0 0 A) (F0 m 149 ls []) := by
    intro y1410896 H locs ls hW hF hl
    refine lv_lload hx hb dX0_join_149 (lv_at hl 0 rfl) ?_
    refine lv_ldc2 (v := (-1000000000)) hx hb hown (hts _ tw_740) dX0_join_151 ?_
    have J1410901 : ∀ (y1410899 : Int64) (b1410900 : (-4000000000000000000 : Int) ≤ y1410899.toInt ∧ y1410899.toInt ≤ 1000000000) (H : Heap) (locs : List Loc) (ls : Array Slot), WS G cI cJ cZ cD cR cT A kp L f0 s H locs → FM kp L ms_X0_join f0 f0 → lv_has ls 7 [(5, .long y1410896), (0, .int u1), (1, .long u2), (3, .long u3)] → W p l e ({ frames := 1, cells := 0, slots := 0, locals := 40 }) s m ([.int u1, .long u2, .long u3] : List Value).toArray below meth c H locs 0 0 (MQ below (QT (po_X0_join kp L f0 u1 u2 u3) G cI cJ cZ cD cR cT A kp L) ([.int u1, .long u2, .long u3] : List Value).toArray s 0 0 A) (F0 m 175 ls [.long y1410899]) := by
      intro y1410899 b1410900 H locs ls hW hF hl
      exact e_J E hW rfl ⟨⟨_, rfl, trivial⟩, hF⟩ dX0_join_175
    refine q_lcmp_lt (Y := -1000000000) (tgt := 167) hx hb dX0_join_154 dX0_join_155 (by decide) rfl rfl (fun c1410902 => ?_) (fun c1410902 => ?_)
    · refine lv_ldc2 (v := (-4000000000000000000)) hx hb hown (hts _ tw_721) dX0_join_167 ?_
      refine lv_goto (tgt := 175) hx hb dX0_join_170 (by decide) ?_
      exact J1410901 (-4000000000000000000) (by decide) _ _ _ hW hF (lv_sub hl [0, 1, 2, 3] rfl)
    · refine lv_lload hx hb dX0_join_158 (lv_at hl 0 rfl) ?_
      refine lv_ldc2 (v := 1000000000) hx hb hown (hts _ tw_741) dX0_join_160 ?_
      refine q_lcmp_le (Y := 1000000000) (tgt := 173) hx hb dX0_join_163 dX0_join_164 (by decide) rfl rfl (fun c1410903 => ?_) (fun c1410903 => ?_)
      · refine lv_lload hx hb dX0_join_173 (lv_at hl 0 rfl) ?_
        exact J1410901 y1410896 (by omega) _ _ _ hW hF (lv_sub hl [0, 1, 2, 3] rfl)
      · refine lv_ldc2 (v := (-4000000000000000000)) hx hb hown (hts _ tw_721) dX0_join_167 ?_
        refine lv_goto (tgt := 175) hx hb dX0_join_170 (by decide) ?_
        exact J1410901 (-4000000000000000000) (by decide) _ _ _ hW hF (lv_sub hl [0, 1, 2, 3] rfl)
  by_cases c1410904 : u1.toInt = 42
  · refine lv_lookup (off := 75) (tgt := 76) hx hb dX0_join_1 (by decide) (by rw [c1410904]; decide) (by decide) ?_
    refine lv_lload_n hx hb dX0_join_76 rfl (lv_at hl 1 rfl) ?_
    refine lv_lload_n hx hb dX0_join_77 rfl (lv_at hl 2 rfl) ?_
    refine u_lmul hx hb dX0_join_78 (fun x1410905 => ?_)
    refine lv_lstore (lv' := [(5, .long x1410905), (0, .int u1), (1, .long u2), (3, .long u3)]) hx hb dX0_join_79 hl (by decide) rfl (fun ls hl => ?_)
    refine lv_goto (tgt := 149) hx hb dX0_join_81 (by decide) ?_
    exact J1410897 x1410905  _ _ _ hW hF (lv_sub hl [0, 1, 2, 3] rfl)
  by_cases c1410906 : u1.toInt = 43
  · refine lv_lookup (off := 59) (tgt := 60) hx hb dX0_join_1 (by decide) (by rw [c1410906]; decide) (by decide) ?_
    refine lv_lload_n hx hb dX0_join_60 rfl (lv_at hl 1 rfl) ?_
    refine lv_lload_n hx hb dX0_join_61 rfl (lv_at hl 2 rfl) ?_
    refine u_ladd hx hb dX0_join_62 (fun x1410907 => ?_)
    refine lv_lstore (lv' := [(5, .long x1410907), (0, .int u1), (1, .long u2), (3, .long u3)]) hx hb dX0_join_63 hl (by decide) rfl (fun ls hl => ?_)
    refine lv_goto (tgt := 149) hx hb dX0_join_65 (by decide) ?_
    exact J1410897 x1410907  _ _ _ hW hF (lv_sub hl [0, 1, 2, 3] rfl)
  by_cases c1410908 : u1.toInt = 45
  · refine lv_lookup (off := 67) (tgt := 68) hx hb dX0_join_1 (by decide) (by rw [c1410908]; decide) (by decide) ?_
    refine lv_lload_n hx hb dX0_join_68 rfl (lv_at hl 1 rfl) ?_
    refine lv_lload_n hx hb dX0_join_69 rfl (lv_at hl 2 rfl) ?_
    refine u_lsub hx hb dX0_join_70 (fun x1410909 => ?_)
    refine lv_lstore (lv' := [(5, .long x1410909), (0, .int u1), (1, .long u2), (3, .long u3)]) hx hb dX0_join_71 hl (by decide) rfl (fun ls hl => ?_)
    refine lv_goto (tgt := 149) hx hb dX0_join_73 (by decide) ?_
    exact J1410897 x1410909  _ _ _ hW hF (lv_sub hl [0, 1, 2, 3] rfl)
  by_cases c1410910 : u1.toInt = 47
  · refine lv_lookup (off := 83) (tgt := 84) hx hb dX0_join_1 (by decide) (by rw [c1410910]; decide) (by decide) ?_
    refine lv_lload_n hx hb dX0_join_84 rfl (lv_at hl 2 rfl) ?_
    refine lv_lconst (v := 0) hx hb dX0_join_85 (by decide) ?_
    have J1410913 : ∀ (y1410912 : Int64) (H : Heap) (locs : List Loc) (ls : Array Slot), WS G cI cJ cZ cD cR cT A kp L f0 s H locs → FM kp L ms_X0_join f0 f0 → lv_has ls 7 [(0, .int u1), (1, .long u2), (3, .long u3)] → W p l e ({ frames := 1, cells := 0, slots := 0, locals := 40 }) s m ([.int u1, .long u2, .long u3] : List Value).toArray below meth c H locs 0 0 (MQ below (QT (po_X0_join kp L f0 u1 u2 u3) G cI cJ cZ cD cR cT A kp L) ([.int u1, .long u2, .long u3] : List Value).toArray s 0 0 A) (F0 m 99 ls [.long y1410912]) := by
      intro y1410912 H locs ls hW hF hl
      refine lv_lstore (lv' := [(5, .long y1410912), (0, .int u1), (1, .long u2), (3, .long u3)]) hx hb dX0_join_99 hl (by decide) rfl (fun ls hl => ?_)
      refine lv_goto (tgt := 149) hx hb dX0_join_101 (by decide) ?_
      exact J1410897 y1410912  _ _ _ hW hF (lv_sub hl [0, 1, 2, 3] rfl)
    refine q_lcmp_ne (Y := 0) (tgt := 96) hx hb dX0_join_86 dX0_join_87 (by decide) rfl rfl (fun c1410914 => ?_) (fun c1410914 => ?_)
    · refine lv_lload_n hx hb dX0_join_96 rfl (lv_at hl 1 rfl) ?_
      refine lv_lload_n hx hb dX0_join_97 rfl (lv_at hl 2 rfl) ?_
      refine u_ldiv hx hb dX0_join_98 (by omega) (fun x1410915 => ?_)
      exact J1410913 x1410915  _ _ _ hW hF (lv_sub hl [0, 1, 2] rfl)
    · refine lv_ldc2 (v := (-4000000000000000000)) hx hb hown (hts _ tw_721) dX0_join_90 ?_
      refine lv_goto (tgt := 99) hx hb dX0_join_93 (by decide) ?_
      exact J1410913 (-4000000000000000000)  _ _ _ hW hF (lv_sub hl [0, 1, 2] rfl)
  by_cases c1410916 : u1.toInt = 60
  · refine lv_lookup (off := 103) (tgt := 104) hx hb dX0_join_1 (by decide) (by rw [c1410916]; decide) (by decide) ?_
    refine lv_lload_n hx hb dX0_join_104 rfl (lv_at hl 1 rfl) ?_
    refine lv_lload_n hx hb dX0_join_105 rfl (lv_at hl 2 rfl) ?_
    have J1410919 : ∀ (y1410917 : Int64) (b1410918 : (0 : Int) ≤ y1410917.toInt ∧ y1410917.toInt ≤ 1) (H : Heap) (locs : List Loc) (ls : Array Slot), WS G cI cJ cZ cD cR cT A kp L f0 s H locs → FM kp L ms_X0_join f0 f0 → lv_has ls 7 [(0, .int u1), (1, .long u2), (3, .long u3)] → W p l e ({ frames := 1, cells := 0, slots := 0, locals := 40 }) s m ([.int u1, .long u2, .long u3] : List Value).toArray below meth c H locs 0 0 (MQ below (QT (po_X0_join kp L f0 u1 u2 u3) G cI cJ cZ cD cR cT A kp L) ([.int u1, .long u2, .long u3] : List Value).toArray s 0 0 A) (F0 m 115 ls [.long y1410917]) := by
      intro y1410917 b1410918 H locs ls hW hF hl
      refine lv_lstore (lv' := [(5, .long y1410917), (0, .int u1), (1, .long u2), (3, .long u3)]) hx hb dX0_join_115 hl (by decide) rfl (fun ls hl => ?_)
      refine lv_goto (tgt := 149) hx hb dX0_join_117 (by decide) ?_
      exact J1410897 y1410917  _ _ _ hW hF (lv_sub hl [0, 1, 2, 3] rfl)
    refine q_lcmp_ge (tgt := 114) hx hb dX0_join_106 dX0_join_107 (by decide) rfl rfl (fun c1410920 => ?_) (fun c1410920 => ?_)
    · refine lv_lconst (v := 0) hx hb dX0_join_114 (by decide) ?_
      exact J1410919 0 (by decide) _ _ _ hW hF (lv_sub hl [0, 1, 2] rfl)
    · refine lv_lconst (v := 1) hx hb dX0_join_110 (by decide) ?_
      refine lv_goto (tgt := 115) hx hb dX0_join_111 (by decide) ?_
      exact J1410919 1 (by decide) _ _ _ hW hF (lv_sub hl [0, 1, 2] rfl)
  by_cases c1410921 : u1.toInt = 62
  · refine lv_lookup (off := 119) (tgt := 120) hx hb dX0_join_1 (by decide) (by rw [c1410921]; decide) (by decide) ?_
    refine lv_lload_n hx hb dX0_join_120 rfl (lv_at hl 1 rfl) ?_
    refine lv_lload_n hx hb dX0_join_121 rfl (lv_at hl 2 rfl) ?_
    have J1410924 : ∀ (y1410922 : Int64) (b1410923 : (0 : Int) ≤ y1410922.toInt ∧ y1410922.toInt ≤ 1) (H : Heap) (locs : List Loc) (ls : Array Slot), WS G cI cJ cZ cD cR cT A kp L f0 s H locs → FM kp L ms_X0_join f0 f0 → lv_has ls 7 [(0, .int u1), (1, .long u2), (3, .long u3)] → W p l e ({ frames := 1, cells := 0, slots := 0, locals := 40 }) s m ([.int u1, .long u2, .long u3] : List Value).toArray below meth c H locs 0 0 (MQ below (QT (po_X0_join kp L f0 u1 u2 u3) G cI cJ cZ cD cR cT A kp L) ([.int u1, .long u2, .long u3] : List Value).toArray s 0 0 A) (F0 m 131 ls [.long y1410922]) := by
      intro y1410922 b1410923 H locs ls hW hF hl
      refine lv_lstore (lv' := [(5, .long y1410922), (0, .int u1), (1, .long u2), (3, .long u3)]) hx hb dX0_join_131 hl (by decide) rfl (fun ls hl => ?_)
      refine lv_goto (tgt := 149) hx hb dX0_join_133 (by decide) ?_
      exact J1410897 y1410922  _ _ _ hW hF (lv_sub hl [0, 1, 2, 3] rfl)
    refine q_lcmp_le (tgt := 130) hx hb dX0_join_122 dX0_join_123 (by decide) rfl rfl (fun c1410925 => ?_) (fun c1410925 => ?_)
    · refine lv_lconst (v := 0) hx hb dX0_join_130 (by decide) ?_
      exact J1410924 0 (by decide) _ _ _ hW hF (lv_sub hl [0, 1, 2] rfl)
    · refine lv_lconst (v := 1) hx hb dX0_join_126 (by decide) ?_
      refine lv_goto (tgt := 131) hx hb dX0_join_127 (by decide) ?_
      exact J1410924 1 (by decide) _ _ _ hW hF (lv_sub hl [0, 1, 2] rfl)
  refine lv_lookup (off := 135) (tgt := 136) hx hb dX0_join_1 (by decide) (by simp [Op.lookupswitch.offset, List.find?, Ne.symm c1410904, Ne.symm c1410906, Ne.symm c1410908, Ne.symm c1410910, Ne.symm c1410916, Ne.symm c1410921, c1410904, c1410906, c1410908, c1410910, c1410916, c1410921]) (by decide) ?_
  refine lv_lload_n hx hb dX0_join_136 rfl (lv_at hl 1 rfl) ?_
  refine lv_lload_n hx hb dX0_join_137 rfl (lv_at hl 2 rfl) ?_
  have J1410928 : ∀ (y1410926 : Int64) (b1410927 : (0 : Int) ≤ y1410926.toInt ∧ y1410926.toInt ≤ 1) (H : Heap) (locs : List Loc) (ls : Array Slot), WS G cI cJ cZ cD cR cT A kp L f0 s H locs → FM kp L ms_X0_join f0 f0 → lv_has ls 7 [(0, .int u1), (1, .long u2), (3, .long u3)] → W p l e ({ frames := 1, cells := 0, slots := 0, locals := 40 }) s m ([.int u1, .long u2, .long u3] : List Value).toArray below meth c H locs 0 0 (MQ below (QT (po_X0_join kp L f0 u1 u2 u3) G cI cJ cZ cD cR cT A kp L) ([.int u1, .long u2, .long u3] : List Value).toArray s 0 0 A) (F0 m 147 ls [.long y1410926]) := by
    intro y1410926 b1410927 H locs ls hW hF hl
    refine lv_lstore (lv' := [(5, .long y1410926), (0, .int u1), (1, .long u2), (3, .long u3)]) hx hb dX0_join_147 hl (by decide) rfl (fun ls hl => ?_)
    exact J1410897 y1410926  _ _ _ hW hF (lv_sub hl [0, 1, 2, 3] rfl)
  refine q_lcmp_ne (tgt := 146) hx hb dX0_join_138 dX0_join_139 (by decide) rfl rfl (fun c1410929 => ?_) (fun c1410929 => ?_)
  · refine lv_lconst (v := 0) hx hb dX0_join_146 (by decide) ?_
    exact J1410928 0 (by decide) _ _ _ hW hF (lv_sub hl [0, 1, 2] rfl)
  · refine lv_lconst (v := 1) hx hb dX0_join_142 (by decide) ?_
    refine lv_goto (tgt := 147) hx hb dX0_join_143 (by decide) ?_
    exact J1410928 1 (by decide) _ _ _ hW hF (lv_sub hl [0, 1, 2] rfl)
def ms_X0_ask : List (Nat × Nat) := [(115, 0)]
def po_X0_ask (kp : Nat → Nat) (L : List Nat) (f0 : Nat → va_E) (h0 : Nat) (u1 : Nat) (u2 : Int32) (u3 : Int32) (u4 : Int32) : Option Value → (Nat → va_E) → Prop := fun v f => (∃ r : Int64, v = some (.long r) ∧ (True)) ∧ FM kp L ms_X0_ask f0 f
set_option maxHeartbeats 4000000 in
set_option maxRecDepth 100000 in
theorem c_X0_ask (l : Launch) (G : va_G) (cI cJ cZ cD cR cT : ClassId) (kp : Nat → Nat) (L : List Nat) (f0 : Nat → va_E) (hTH : TH cI cJ cZ cD cR cT kp L f0) (sz : Nat) (h0 : Nat) (u1 : Nat) (u2 : Int32) (u3 : Int32) (u4 : Int32) (rh0 : RK kp L h0 0) (ru1 : RK kp L u1 9) (pu2 : (0 : Int) ≤ u2.toInt ∧ u2.toInt ≤ 11) (pu3 : (-1 : Int) ≤ u3.toInt ∧ u3.toInt ≤ 39) (pu4 : (-1 : Int) ≤ u4.toInt ∧ u4.toInt ≤ 39) (hcl : u2.toInt < (oI (f0 u1) 1).toInt) : Met l yX0_ask (Cond.code yX0_ask cX0_ask 12 (some .long) :: wTab) ({ frames := 3, cells := 0, slots := 0, locals := 86 }) (va_Pc [.ref h0, .ref u1, .int u2, .int u3, .int u4] (PreW G (tys6 cI cJ cZ cD cR cT) (va_pl L f0) sz)) (QT (po_X0_ask kp L f0 h0 u1 u2 u3 u4) G cI cJ cZ cD cR cT (va_A (va_pl L f0) sz) kp L) 0 0 (va_A (va_pl L f0) sz) := by
  refine metT (by decide) (Nat.le_of_ble_eq_true rfl) hTH ?_
  intro p e s m below meth c A ls E hW hl
  obtain ⟨hx, hb, -, hml, hown, hts, -, -, -⟩ := id E
  have hF : FM kp L ms_X0_ask f0 f0 := FM.rf
  have hl : lv_has ls 12 [(0, .ref h0), (1, .ref u1), (2, .int u2), (3, .int u3), (4, .int u4)] := hl
  refine lv_iconst (v := 0) hx hb dX0_ask_0 (by decide) ?_
  refine lv_istore (lv' := [(5, .int 0), (0, .ref h0), (1, .ref u1), (2, .int u2), (3, .int u3), (4, .int u4)]) hx hb dX0_ask_1 hl (by decide) rfl (fun ls hl => ?_)
  refine lv_iconst (v := 0) hx hb dX0_ask_3 (by decide) ?_
  refine lv_istore (lv' := [(6, .int 0), (5, .int 0), (0, .ref h0), (1, .ref u1), (2, .int u2), (3, .int u3), (4, .int u4)]) hx hb dX0_ask_4 hl (by decide) rfl (fun ls hl => ?_)
  refine lv_aload_n hx hb dX0_ask_6 rfl (lv_at hl 2 rfl) ?_
  refine fg_RX0_57 E hW rh0 dX0_ask_7 (fun a1410930 m1410931 r1410932 => ?_)
  refine lv_iconst (v := 0) hx hb dX0_ask_10 (by decide) ?_
  refine lv_lconst (v := 0) hx hb dX0_ask_11 (by decide) ?_
  refine gs_115 E hW r1410932 (by decide) dX0_ask_12 (fun f1410933 H locs e1410934 n1410935 g1410936 hW => ?_)
  have hF := FM.tr hF g1410936 rfl
  refine lv_aload_n hx hb dX0_ask_13 rfl (lv_at hl 3 rfl) ?_
  refine fg_RX0_314 E hW ru1 dX0_ask_14 (fun a1410937 m1410938 r1410939 => ?_)
  refine lv_iload_n hx hb dX0_ask_17 rfl (lv_at hl 4 rfl) ?_
  refine gl_646 E hW r1410939 ⟨by omega, by omega⟩ dX0_ask_18 (fun y1410940 m1410941 => ?_)
  have b1410943 : 0 ≤ y1410940.toInt := si_start hW ru1 m1410938 ⟨by omega, by rw [fm_I hF ru1 rfl]; exact hcl⟩ m1410941
  refine lv_istore (lv' := [(7, .int y1410940), (6, .int 0), (5, .int 0), (0, .ref h0), (1, .ref u1), (2, .int u2), (3, .int u3), (4, .int u4)]) hx hb dX0_ask_19 hl (by decide) rfl (fun ls hl => ?_)
  have L1416625 : ∀ (n : Nat), ∀ (f1416617 : Nat → va_E) (y1416620 : Int32) (y1416622 : Int32) (y1416623 : Int32) (m1416618 : oR (f1416617 h0) 15 = a1410930) (m1416619 : oR (f1416617 u1) 6 = a1410937) (b1416621 : (0 : Int) ≤ y1416620.toInt) (b1416624 : (0 : Int) ≤ y1416623.toInt ∧ y1416623.toInt ≤ 64) (hm : (2147483648 : Int) - y1416620.toInt ≤ n) (H : Heap) (locs : List Loc) (ls : Array Slot), WS G cI cJ cZ cD cR cT A kp L f1416617 s H locs → FM kp L ms_X0_ask f0 f1416617 → lv_has ls 12 [(7, .int y1416620), (6, .int y1416622), (5, .int y1416623), (0, .ref h0), (1, .ref u1), (2, .int u2), (3, .int u3), (4, .int u4)] → W p l e ({ frames := 3, cells := 0, slots := 0, locals := 86 }) s m ([.ref h0, .ref u1, .int u2, .int u3, .int u4] : List Value).toArray below meth c H locs 0 0 (MQ below (QT (po_X0_ask kp L f0 h0 u1 u2 u3 u4) G cI cJ cZ cD cR cT A kp L) ([.ref h0, .ref u1, .int u2, .int u3, .int u4] : List Value).toArray s 0 0 A) (F0 m 21 ls []) := by
    intro n
    induction n with
    | zero =>
      intro f1416617 y1416620 y1416622 y1416623 m1416618 m1416619 b1416621 b1416624 hm H locs ls hW hF hl
      have hz := i32_b y1416620
      exfalso; omega
    | succ n ih =>
      intro f1416617 y1416620 y1416622 y1416623 m1416618 m1416619 b1416621 b1416624 hm H locs ls hW hF hl
      clear b1410943
      have ih21 := ih
      refine lv_iload hx hb dX0_ask_21 (lv_at hl 0 rfl) ?_
      refine lv_aload_n hx hb dX0_ask_23 rfl (lv_at hl 4 rfl) ?_
      refine fg_RX0_317 E hW ru1 dX0_ask_24 (fun a1416626 m1416627 r1416628 => ?_)
      refine lv_iload_n hx hb dX0_ask_27 rfl (lv_at hl 5 rfl) ?_
      refine gl_647 E hW r1416628 ⟨by omega, by omega⟩ dX0_ask_28 (fun y1416629 m1416630 => ?_)
      refine q_icmp_ge (tgt := 320) hx hb dX0_ask_29 (by decide) rfl rfl (fun c1416632 => ?_) (fun c1416632 => ?_)
      · refine lv_aload_n hx hb dX0_ask_320 rfl (lv_at hl 3 rfl) ?_
        refine fg_RX0_57 E hW rh0 dX0_ask_321 (fun a1416633 m1416634 r1416635 => ?_)
        obtain rfl : a1410930 = a1416633 := (m1416618).symm.trans m1416634
        refine lv_iconst (v := 0) hx hb dX0_ask_324 (by decide) ?_
        refine gl_115 E hW r1410932 (by decide) dX0_ask_325 (fun y1416636 _ => ?_)
        exact e_J E hW rfl ⟨⟨_, rfl, trivial⟩, hF⟩ dX0_ask_326
      · have hb1416637 : y1416620.toInt ≤ 2147483646 := by have := i32_b y1416629; omega
        refine lv_iload hx hb dX0_ask_32 (lv_at hl 0 rfl) ?_
        refine lv_iload hx hb dX0_ask_34 (lv_at hl 1 rfl) ?_
        refine q_icmp_ge (tgt := 42) hx hb dX0_ask_36 (by decide) rfl rfl (fun c1416638 => ?_) (fun c1416638 => ?_)
        · refine lv_aload_n hx hb dX0_ask_42 rfl (lv_at hl 4 rfl) ?_
          refine fg_RX0_320 E hW ru1 dX0_ask_43 (fun a1416639 m1416640 r1416641 => ?_)
          refine lv_iload hx hb dX0_ask_46 (lv_at hl 0 rfl) ?_
          refine gl_648 E hW r1416641 (ix_op hW ru1 m1416627 m1416640 ⟨by omega, by rw [fm_I hF ru1 rfl]; exact hcl⟩ m1416630 (by omega) (by omega)) dX0_ask_48 (fun y1416642 m1416643 => ?_)
          refine lv_istore (lv' := [(8, .int y1416642), (7, .int y1416620), (6, .int y1416622), (5, .int y1416623), (0, .ref h0), (1, .ref u1), (2, .int u2), (3, .int u3), (4, .int u4)]) hx hb dX0_ask_49 hl (by decide) rfl (fun ls hl => ?_)
          refine lv_iload hx hb dX0_ask_51 (lv_at hl 0 rfl) ?_
          refine lv_sipush (v := 301) hx hb dX0_ask_53 (by decide) ?_
          refine q_icmp_eq (Y := 301) (tgt := 75) hx hb dX0_ask_56 (by decide) rfl rfl (fun c1416645 => ?_) (fun c1416645 => ?_)
          · refine lv_iload hx hb dX0_ask_75 (lv_at hl 3 rfl) ?_
            refine lv_bipush (v := 64) hx hb dX0_ask_77 (by decide) ?_
            refine q_icmp_lt (Y := 64) (tgt := 86) hx hb dX0_ask_79 (by decide) rfl rfl (fun c1416646 => ?_) (fun c1416646 => ?_)
            · refine lv_aload_n hx hb dX0_ask_86 rfl (lv_at hl 4 rfl) ?_
              refine fg_RX0_57 E hW rh0 dX0_ask_87 (fun a1416647 m1416648 r1416649 => ?_)
              obtain rfl : a1410930 = a1416647 := (m1416618).symm.trans m1416648
              refine lv_iload hx hb dX0_ask_90 (lv_at hl 3 rfl) ?_
              refine lv_iload hx hb dX0_ask_92 (lv_at hl 0 rfl) ?_
              refine lv_sipush (v := 301) hx hb dX0_ask_94 (by decide) ?_
              refine q_icmp_ne (Y := 301) (tgt := 111) hx hb dX0_ask_97 (by decide) rfl rfl (fun c1416658 => ?_) (fun c1416658 => ?_)
              · exfalso; omega
              · refine lv_aload_n hx hb dX0_ask_100 rfl (lv_at hl 5 rfl) ?_
                refine fg_RX0_323 E hW ru1 dX0_ask_101 (fun a1416659 m1416660 r1416661 => ?_)
                refine lv_iload hx hb dX0_ask_104 (lv_at hl 1 rfl) ?_
                refine gl_649 E hW r1416661 (ix_arg hW ru1 m1416627 m1416660 ⟨by omega, by rw [fm_I hF ru1 rfl]; exact hcl⟩ m1416630 (by omega) (by omega)) dX0_ask_106 (fun y1416662 m1416663 => ?_)
                refine q_i2l hx hb dX0_ask_107 rfl (fun x1416665 h1416666 => ?_)
                refine lv_goto (tgt := 121) hx hb dX0_ask_108 (by decide) ?_
                refine gs_115 E hW r1410932 ⟨by omega, by omega⟩ dX0_ask_121 (fun f1416667 H locs e1416668 n1416669 g1416670 hW => ?_)
                have hF := FM.tr hF g1416670 rfl
                refine q_iinc hx hb dX0_ask_122 hl (k := 3) rfl rfl rfl (by omega) (by decide) (fun i1416671 ls h1416672 hl => ?_)
                have hl : lv_has ls 12 [(5, .int i1416671), (8, .int y1416642), (7, .int y1416620), (6, .int y1416622), (0, .ref h0), (1, .ref u1), (2, .int u2), (3, .int u3), (4, .int u4)] := hl
                refine lv_goto (tgt := 314) hx hb dX0_ask_125 (by decide) ?_
                refine q_iinc hx hb dX0_ask_314 hl (k := 2) rfl rfl rfl (by omega) (by decide) (fun i1416673 ls h1416674 hl => ?_)
                have hl : lv_has ls 12 [(7, .int i1416673), (5, .int i1416671), (8, .int y1416642), (6, .int y1416622), (0, .ref h0), (1, .ref u1), (2, .int u2), (3, .int u3), (4, .int u4)] := hl
                refine lv_goto (tgt := 21) hx hb dX0_ask_317 (by decide) ?_
                exact ih21 f1416667 i1416673 y1416622 i1416671 ((fm_R g1416670 rh0 rfl).trans m1416648) ((fm_R g1416670 ru1 rfl).trans m1416619) (by omega) (by omega) (by omega) _ _ _ hW hF (lv_sub hl [0, 3, 1, 4, 5, 6, 7, 8] rfl)
            · refine lv_ldc2 (v := (-4000000000000000000)) hx hb hown (hts _ tw_721) dX0_ask_82 ?_
              exact e_J E hW rfl ⟨⟨_, rfl, trivial⟩, hF⟩ dX0_ask_85
          · refine lv_iload hx hb dX0_ask_59 (lv_at hl 0 rfl) ?_
            refine lv_sipush (v := 268) hx hb dX0_ask_61 (by decide) ?_
            refine q_icmp_lt (Y := 268) (tgt := 128) hx hb dX0_ask_64 (by decide) rfl rfl (fun c1416675 => ?_) (fun c1416675 => ?_)
            · refine lv_iload hx hb dX0_ask_128 (lv_at hl 3 rfl) ?_
              refine lv_iconst (v := 1) hx hb dX0_ask_130 (by decide) ?_
              refine q_icmp_ge (Y := 1) (tgt := 138) hx hb dX0_ask_131 (by decide) rfl rfl (fun c1416676 => ?_) (fun c1416676 => ?_)
              · refine lv_aload_n hx hb dX0_ask_138 rfl (lv_at hl 4 rfl) ?_
                refine fg_RX0_57 E hW rh0 dX0_ask_139 (fun a1416677 m1416678 r1416679 => ?_)
                obtain rfl : a1410930 = a1416677 := (m1416618).symm.trans m1416678
                refine lv_iload hx hb dX0_ask_142 (lv_at hl 3 rfl) ?_
                refine lv_iconst (v := 1) hx hb dX0_ask_144 (by decide) ?_
                refine q_isub (Y := 1) hx hb dX0_ask_145 rfl rfl (by omega) (fun x1416680 h1416681 => ?_)
                refine gl_115 E hW r1410932 ⟨by omega, by omega⟩ dX0_ask_146 (fun y1416682 _ => ?_)
                refine lv_lconst (v := 0) hx hb dX0_ask_147 (by decide) ?_
                have J1416685 : ∀ (y1416683 : Int32) (b1416684 : (0 : Int) ≤ y1416683.toInt ∧ y1416683.toInt ≤ 1) (H : Heap) (locs : List Loc) (ls : Array Slot), WS G cI cJ cZ cD cR cT A kp L f1416617 s H locs → FM kp L ms_X0_ask f0 f1416617 → lv_has ls 12 [(8, .int y1416642), (7, .int y1416620), (6, .int y1416622), (5, .int y1416623), (0, .ref h0), (1, .ref u1), (2, .int u2), (3, .int u3), (4, .int u4)] → W p l e ({ frames := 3, cells := 0, slots := 0, locals := 86 }) s m ([.ref h0, .ref u1, .int u2, .int u3, .int u4] : List Value).toArray below meth c H locs 0 0 (MQ below (QT (po_X0_ask kp L f0 h0 u1 u2 u3 u4) G cI cJ cZ cD cR cT A kp L) ([.ref h0, .ref u1, .int u2, .int u3, .int u4] : List Value).toArray s 0 0 A) (F0 m 157 ls [.int y1416683]) := by
                  intro y1416683 b1416684 H locs ls hW hF hl
                  refine lv_istore (lv' := [(9, .int y1416683), (8, .int y1416642), (7, .int y1416620), (6, .int y1416622), (5, .int y1416623), (0, .ref h0), (1, .ref u1), (2, .int u2), (3, .int u3), (4, .int u4)]) hx hb dX0_ask_157 hl (by decide) rfl (fun ls hl => ?_)
                  refine lv_iload hx hb dX0_ask_159 (lv_at hl 1 rfl) ?_
                  refine lv_sipush (v := 267) hx hb dX0_ask_161 (by decide) ?_
                  refine q_icmp_ne (Y := 267) (tgt := 189) hx hb dX0_ask_164 (by decide) rfl rfl (fun c1416686 => ?_) (fun c1416686 => ?_)
                  · refine lv_iload hx hb dX0_ask_189 (lv_at hl 1 rfl) ?_
                    refine lv_sipush (v := 259) hx hb dX0_ask_191 (by decide) ?_
                    refine q_icmp_ne (Y := 259) (tgt := 206) hx hb dX0_ask_194 (by decide) rfl rfl (fun c1416687 => ?_) (fun c1416687 => ?_)
                    · refine lv_iload hx hb dX0_ask_206 (lv_at hl 1 rfl) ?_
                      refine lv_sipush (v := 265) hx hb dX0_ask_208 (by decide) ?_
                      refine q_icmp_ne (Y := 265) (tgt := 219) hx hb dX0_ask_211 (by decide) rfl rfl (fun c1416688 => ?_) (fun c1416688 => ?_)
                      · refine lv_iload hx hb dX0_ask_219 (lv_at hl 1 rfl) ?_
                        refine lv_sipush (v := 266) hx hb dX0_ask_221 (by decide) ?_
                        refine q_icmp_ne (Y := 266) (tgt := 244) hx hb dX0_ask_224 (by decide) rfl rfl (fun c1416689 => ?_) (fun c1416689 => ?_)
                        · refine q_iinc hx hb dX0_ask_244 hl (k := 4) rfl rfl rfl (by omega) (by decide) (fun i1416690 ls h1416691 hl => ?_)
                          have hl : lv_has ls 12 [(5, .int i1416690), (9, .int y1416683), (8, .int y1416642), (7, .int y1416620), (6, .int y1416622), (0, .ref h0), (1, .ref u1), (2, .int u2), (3, .int u3), (4, .int u4)] := hl
                          refine lv_iload hx hb dX0_ask_247 (lv_at hl 2 rfl) ?_
                          refine lv_sipush (v := 256) hx hb dX0_ask_249 (by decide) ?_
                          refine q_icmp_ge (Y := 256) (tgt := 314) hx hb dX0_ask_252 (by decide) rfl rfl (fun c1416692 => ?_) (fun c1416692 => ?_)
                          · refine q_iinc hx hb dX0_ask_314 hl (k := 3) rfl rfl rfl (by omega) (by decide) (fun i1416693 ls h1416694 hl => ?_)
                            have hl : lv_has ls 12 [(7, .int i1416693), (5, .int i1416690), (9, .int y1416683), (8, .int y1416642), (6, .int y1416622), (0, .ref h0), (1, .ref u1), (2, .int u2), (3, .int u3), (4, .int u4)] := hl
                            refine lv_goto (tgt := 21) hx hb dX0_ask_317 (by decide) ?_
                            exact ih21 f1416617 i1416693 y1416622 i1416690 m1416678 m1416619 (by omega) (by omega) (by omega) _ _ _ hW hF (lv_sub hl [0, 4, 1, 5, 6, 7, 8, 9] rfl)
                          · refine lv_iload hx hb dX0_ask_255 (lv_at hl 0 rfl) ?_
                            refine lv_iconst (v := 1) hx hb dX0_ask_257 (by decide) ?_
                            refine q_icmp_ge (Y := 1) (tgt := 267) hx hb dX0_ask_258 (by decide) rfl rfl (fun c1416695 => ?_) (fun c1416695 => ?_)
                            · refine lv_iload hx hb dX0_ask_267 (lv_at hl 2 rfl) ?_
                              refine lv_aload_n hx hb dX0_ask_269 rfl (lv_at hl 5 rfl) ?_
                              refine fg_RX0_57 E hW rh0 dX0_ask_270 (fun a1416696 m1416697 r1416698 => ?_)
                              obtain rfl : a1410930 = a1416696 := (m1416678).symm.trans m1416697
                              refine lv_iload hx hb dX0_ask_273 (lv_at hl 0 rfl) ?_
                              refine lv_iconst (v := 1) hx hb dX0_ask_275 (by decide) ?_
                              refine q_isub (Y := 1) hx hb dX0_ask_276 rfl rfl (by omega) (fun x1416699 h1416700 => ?_)
                              refine gl_115 E hW r1410932 ⟨by omega, by omega⟩ dX0_ask_277 (fun y1416701 _ => ?_)
                              refine lv_aload_n hx hb dX0_ask_278 rfl (lv_at hl 5 rfl) ?_
                              refine fg_RX0_57 E hW rh0 dX0_ask_279 (fun a1416702 m1416703 r1416704 => ?_)
                              obtain rfl : a1410930 = a1416702 := (m1416697).symm.trans m1416703
                              refine lv_iload hx hb dX0_ask_282 (lv_at hl 0 rfl) ?_
                              refine gl_115 E hW r1410932 ⟨by omega, by omega⟩ dX0_ask_284 (fun y1416705 _ => ?_)
                              refine t_callS (As := [.int y1416642, .long y1416701, .long y1416705]) (rest := []) E hW (c_X0_join l G cI cJ cZ cD cR cT kp L f1416617 hW.2.2.2 _ y1416642 y1416701 y1416705 (by omega)) wk_X0_join tw_737 rfl ⟨Nat.le_of_ble_eq_true rfl, Nat.le_of_ble_eq_true rfl⟩ ⟨rfl, rfl⟩ hl.1 rfl (Nat.le_of_ble_eq_true rfl) dX0_ask_285 ⟨Nat.le_of_ble_eq_true rfl, Nat.le_of_ble_eq_true rfl⟩ (fun v1416706 f1416707 H locs q1416708 hW => ?_)
                              obtain ⟨⟨x1416710, rfl, p1416711⟩, g1416709⟩ := q1416708
                              clear p1416711
                              have hF := FM.tr hF g1416709 rfl
                              refine lv_lstore (lv' := [(10, .long x1416710), (5, .int i1416690), (9, .int y1416683), (8, .int y1416642), (7, .int y1416620), (6, .int y1416622), (0, .ref h0), (1, .ref u1), (2, .int u2), (3, .int u3), (4, .int u4)]) hx hb dX0_ask_288 hl (by decide) rfl (fun ls hl => ?_)
                              refine lv_lload hx hb dX0_ask_290 (lv_at hl 0 rfl) ?_
                              refine lv_ldc2 (v := (-4000000000000000000)) hx hb hown (hts _ tw_721) dX0_ask_292 ?_
                              refine q_lcmp_ne (Y := -4000000000000000000) (tgt := 303) hx hb dX0_ask_295 dX0_ask_296 (by decide) rfl rfl (fun c1416712 => ?_) (fun c1416712 => ?_)
                              · refine lv_aload_n hx hb dX0_ask_303 rfl (lv_at hl 6 rfl) ?_
                                refine fg_RX0_57 E hW rh0 dX0_ask_304 (fun a1416713 m1416714 r1416715 => ?_)
                                obtain rfl : a1410930 = a1416713 := (((fm_R g1416709 rh0 rfl).trans m1416703)).symm.trans m1416714
                                refine lv_iload hx hb dX0_ask_307 (lv_at hl 1 rfl) ?_
                                refine lv_iconst (v := 1) hx hb dX0_ask_309 (by decide) ?_
                                refine q_isub (Y := 1) hx hb dX0_ask_310 rfl rfl (by omega) (fun x1416716 h1416717 => ?_)
                                refine lv_lload hx hb dX0_ask_311 (lv_at hl 0 rfl) ?_
                                refine gs_115 E hW r1410932 ⟨by omega, by omega⟩ dX0_ask_313 (fun f1416718 H locs e1416719 n1416720 g1416721 hW => ?_)
                                have hF := FM.tr hF g1416721 rfl
                                refine q_iinc hx hb dX0_ask_314 hl (k := 4) rfl rfl rfl (by omega) (by decide) (fun i1416722 ls h1416723 hl => ?_)
                                have hl : lv_has ls 12 [(7, .int i1416722), (10, .long x1416710), (5, .int i1416690), (9, .int y1416683), (8, .int y1416642), (6, .int y1416622), (0, .ref h0), (1, .ref u1), (2, .int u2), (3, .int u3), (4, .int u4)] := hl
                                refine lv_goto (tgt := 21) hx hb dX0_ask_317 (by decide) ?_
                                exact ih21 f1416718 i1416722 y1416622 i1416690 ((fm_R g1416721 rh0 rfl).trans m1416714) ((fm_R g1416721 ru1 rfl).trans ((fm_R g1416709 ru1 rfl).trans m1416619)) (by omega) (by omega) (by omega) _ _ _ hW hF (lv_sub hl [0, 5, 2, 6, 7, 8, 9, 10] rfl)
                              · refine lv_ldc2 (v := (-4000000000000000000)) hx hb hown (hts _ tw_721) dX0_ask_299 ?_
                                exact e_J E hW rfl ⟨⟨_, rfl, trivial⟩, hF⟩ dX0_ask_302
                            · refine lv_ldc2 (v := (-4000000000000000000)) hx hb hown (hts _ tw_721) dX0_ask_261 ?_
                              refine lv_goto (tgt := 288) hx hb dX0_ask_264 (by decide) ?_
                              refine lv_lstore (lv' := [(10, .long (-4000000000000000000)), (5, .int i1416690), (9, .int y1416683), (8, .int y1416642), (7, .int y1416620), (6, .int y1416622), (0, .ref h0), (1, .ref u1), (2, .int u2), (3, .int u3), (4, .int u4)]) hx hb dX0_ask_288 hl (by decide) rfl (fun ls hl => ?_)
                              refine lv_lload hx hb dX0_ask_290 (lv_at hl 0 rfl) ?_
                              refine lv_ldc2 (v := (-4000000000000000000)) hx hb hown (hts _ tw_721) dX0_ask_292 ?_
                              refine q_lcmp_ne (X := -4000000000000000000) (Y := -4000000000000000000) (tgt := 303) hx hb dX0_ask_295 dX0_ask_296 (by decide) rfl rfl (fun c => absurd c (by decide)) (fun _ => ?_)
                              refine lv_ldc2 (v := (-4000000000000000000)) hx hb hown (hts _ tw_721) dX0_ask_299 ?_
                              exact e_J E hW rfl ⟨⟨_, rfl, trivial⟩, hF⟩ dX0_ask_302
                        · refine lv_iload hx hb dX0_ask_227 (lv_at hl 0 rfl) ?_
                          refine q_if_ne (tgt := 244) hx hb dX0_ask_229 (by decide) rfl (fun c1416724 => ?_) (fun c1416724 => ?_)
                          · refine q_iinc hx hb dX0_ask_244 hl (k := 4) rfl rfl rfl (by omega) (by decide) (fun i1416725 ls h1416726 hl => ?_)
                            have hl : lv_has ls 12 [(5, .int i1416725), (9, .int y1416683), (8, .int y1416642), (7, .int y1416620), (6, .int y1416622), (0, .ref h0), (1, .ref u1), (2, .int u2), (3, .int u3), (4, .int u4)] := hl
                            refine lv_iload hx hb dX0_ask_247 (lv_at hl 2 rfl) ?_
                            refine lv_sipush (v := 256) hx hb dX0_ask_249 (by decide) ?_
                            refine q_icmp_ge (Y := 256) (tgt := 314) hx hb dX0_ask_252 (by decide) rfl rfl (fun c1416727 => ?_) (fun c1416727 => ?_)
                            · refine q_iinc hx hb dX0_ask_314 hl (k := 3) rfl rfl rfl (by omega) (by decide) (fun i1416728 ls h1416729 hl => ?_)
                              have hl : lv_has ls 12 [(7, .int i1416728), (5, .int i1416725), (9, .int y1416683), (8, .int y1416642), (6, .int y1416622), (0, .ref h0), (1, .ref u1), (2, .int u2), (3, .int u3), (4, .int u4)] := hl
                              refine lv_goto (tgt := 21) hx hb dX0_ask_317 (by decide) ?_
                              exact ih21 f1416617 i1416728 y1416622 i1416725 m1416678 m1416619 (by omega) (by omega) (by omega) _ _ _ hW hF (lv_sub hl [0, 4, 1, 5, 6, 7, 8, 9] rfl)
                            · exfalso; omega
                          · refine lv_aload_n hx hb dX0_ask_232 rfl (lv_at hl 6 rfl) ?_
                            refine fg_RX0_323 E hW ru1 dX0_ask_233 (fun a1416730 m1416731 r1416732 => ?_)
                            refine lv_iload hx hb dX0_ask_236 (lv_at hl 2 rfl) ?_
                            refine gl_649 E hW r1416732 (ix_arg hW ru1 m1416627 m1416731 ⟨by omega, by rw [fm_I hF ru1 rfl]; exact hcl⟩ m1416630 (by omega) (by omega)) dX0_ask_238 (fun y1416733 m1416734 => ?_)
                            refine lv_istore (lv' := [(6, .int y1416733), (9, .int y1416683), (8, .int y1416642), (7, .int y1416620), (5, .int y1416623), (0, .ref h0), (1, .ref u1), (2, .int u2), (3, .int u3), (4, .int u4)]) hx hb dX0_ask_239 hl (by decide) rfl (fun ls hl => ?_)
                            refine lv_goto (tgt := 314) hx hb dX0_ask_241 (by decide) ?_
                            refine q_iinc hx hb dX0_ask_314 hl (k := 3) rfl rfl rfl (by omega) (by decide) (fun i1416736 ls h1416737 hl => ?_)
                            have hl : lv_has ls 12 [(7, .int i1416736), (6, .int y1416733), (9, .int y1416683), (8, .int y1416642), (5, .int y1416623), (0, .ref h0), (1, .ref u1), (2, .int u2), (3, .int u3), (4, .int u4)] := hl
                            refine lv_goto (tgt := 21) hx hb dX0_ask_317 (by decide) ?_
                            exact ih21 f1416617 i1416736 y1416733 y1416623 m1416678 m1416619 (by omega) (by omega) (by omega) _ _ _ hW hF (lv_sub hl [0, 1, 4, 5, 6, 7, 8, 9] rfl)
                      · refine lv_iload hx hb dX0_ask_214 (lv_at hl 0 rfl) ?_
                        refine q_if_ne (tgt := 232) hx hb dX0_ask_216 (by decide) rfl (fun c1416738 => ?_) (fun c1416738 => ?_)
                        · refine lv_aload_n hx hb dX0_ask_232 rfl (lv_at hl 6 rfl) ?_
                          refine fg_RX0_323 E hW ru1 dX0_ask_233 (fun a1416739 m1416740 r1416741 => ?_)
                          refine lv_iload hx hb dX0_ask_236 (lv_at hl 2 rfl) ?_
                          refine gl_649 E hW r1416741 (ix_arg hW ru1 m1416627 m1416740 ⟨by omega, by rw [fm_I hF ru1 rfl]; exact hcl⟩ m1416630 (by omega) (by omega)) dX0_ask_238 (fun y1416742 m1416743 => ?_)
                          refine lv_istore (lv' := [(6, .int y1416742), (9, .int y1416683), (8, .int y1416642), (7, .int y1416620), (5, .int y1416623), (0, .ref h0), (1, .ref u1), (2, .int u2), (3, .int u3), (4, .int u4)]) hx hb dX0_ask_239 hl (by decide) rfl (fun ls hl => ?_)
                          refine lv_goto (tgt := 314) hx hb dX0_ask_241 (by decide) ?_
                          refine q_iinc hx hb dX0_ask_314 hl (k := 3) rfl rfl rfl (by omega) (by decide) (fun i1416745 ls h1416746 hl => ?_)
                          have hl : lv_has ls 12 [(7, .int i1416745), (6, .int y1416742), (9, .int y1416683), (8, .int y1416642), (5, .int y1416623), (0, .ref h0), (1, .ref u1), (2, .int u2), (3, .int u3), (4, .int u4)] := hl
                          refine lv_goto (tgt := 21) hx hb dX0_ask_317 (by decide) ?_
                          exact ih21 f1416617 i1416745 y1416742 y1416623 m1416678 m1416619 (by omega) (by omega) (by omega) _ _ _ hW hF (lv_sub hl [0, 1, 4, 5, 6, 7, 8, 9] rfl)
                        · refine lv_iload hx hb dX0_ask_219 (lv_at hl 1 rfl) ?_
                          refine lv_sipush (v := 266) hx hb dX0_ask_221 (by decide) ?_
                          refine q_icmp_ne (Y := 266) (tgt := 244) hx hb dX0_ask_224 (by decide) rfl rfl (fun c1416747 => ?_) (fun c1416747 => ?_)
                          · refine q_iinc hx hb dX0_ask_244 hl (k := 4) rfl rfl rfl (by omega) (by decide) (fun i1416748 ls h1416749 hl => ?_)
                            have hl : lv_has ls 12 [(5, .int i1416748), (9, .int y1416683), (8, .int y1416642), (7, .int y1416620), (6, .int y1416622), (0, .ref h0), (1, .ref u1), (2, .int u2), (3, .int u3), (4, .int u4)] := hl
                            refine lv_iload hx hb dX0_ask_247 (lv_at hl 2 rfl) ?_
                            refine lv_sipush (v := 256) hx hb dX0_ask_249 (by decide) ?_
                            refine q_icmp_ge (Y := 256) (tgt := 314) hx hb dX0_ask_252 (by decide) rfl rfl (fun c1416750 => ?_) (fun c1416750 => ?_)
                            · refine q_iinc hx hb dX0_ask_314 hl (k := 3) rfl rfl rfl (by omega) (by decide) (fun i1416751 ls h1416752 hl => ?_)
                              have hl : lv_has ls 12 [(7, .int i1416751), (5, .int i1416748), (9, .int y1416683), (8, .int y1416642), (6, .int y1416622), (0, .ref h0), (1, .ref u1), (2, .int u2), (3, .int u3), (4, .int u4)] := hl
                              refine lv_goto (tgt := 21) hx hb dX0_ask_317 (by decide) ?_
                              exact ih21 f1416617 i1416751 y1416622 i1416748 m1416678 m1416619 (by omega) (by omega) (by omega) _ _ _ hW hF (lv_sub hl [0, 4, 1, 5, 6, 7, 8, 9] rfl)
                            · exfalso; omega
                          · exfalso; omega
                    · refine lv_iload hx hb dX0_ask_197 (lv_at hl 0 rfl) ?_
                      refine q_if_ne (tgt := 206) hx hb dX0_ask_199 (by decide) rfl (fun c1416753 => ?_) (fun c1416753 => ?_)
                      · refine lv_iload hx hb dX0_ask_206 (lv_at hl 1 rfl) ?_
                        refine lv_sipush (v := 265) hx hb dX0_ask_208 (by decide) ?_
                        refine q_icmp_ne (Y := 265) (tgt := 219) hx hb dX0_ask_211 (by decide) rfl rfl (fun c1416754 => ?_) (fun c1416754 => ?_)
                        · refine lv_iload hx hb dX0_ask_219 (lv_at hl 1 rfl) ?_
                          refine lv_sipush (v := 266) hx hb dX0_ask_221 (by decide) ?_
                          refine q_icmp_ne (Y := 266) (tgt := 244) hx hb dX0_ask_224 (by decide) rfl rfl (fun c1416755 => ?_) (fun c1416755 => ?_)
                          · refine q_iinc hx hb dX0_ask_244 hl (k := 4) rfl rfl rfl (by omega) (by decide) (fun i1416756 ls h1416757 hl => ?_)
                            have hl : lv_has ls 12 [(5, .int i1416756), (9, .int y1416683), (8, .int y1416642), (7, .int y1416620), (6, .int y1416622), (0, .ref h0), (1, .ref u1), (2, .int u2), (3, .int u3), (4, .int u4)] := hl
                            refine lv_iload hx hb dX0_ask_247 (lv_at hl 2 rfl) ?_
                            refine lv_sipush (v := 256) hx hb dX0_ask_249 (by decide) ?_
                            refine q_icmp_ge (Y := 256) (tgt := 314) hx hb dX0_ask_252 (by decide) rfl rfl (fun c1416758 => ?_) (fun c1416758 => ?_)
                            · refine q_iinc hx hb dX0_ask_314 hl (k := 3) rfl rfl rfl (by omega) (by decide) (fun i1416759 ls h1416760 hl => ?_)
                              have hl : lv_has ls 12 [(7, .int i1416759), (5, .int i1416756), (9, .int y1416683), (8, .int y1416642), (6, .int y1416622), (0, .ref h0), (1, .ref u1), (2, .int u2), (3, .int u3), (4, .int u4)] := hl
                              refine lv_goto (tgt := 21) hx hb dX0_ask_317 (by decide) ?_
                              exact ih21 f1416617 i1416759 y1416622 i1416756 m1416678 m1416619 (by omega) (by omega) (by omega) _ _ _ hW hF (lv_sub hl [0, 4, 1, 5, 6, 7, 8, 9] rfl)
                            · exfalso; omega
                          · exfalso; omega
                        · exfalso; omega
                      · refine lv_ldc2 (v := (-4000000000000000000)) hx hb hown (hts _ tw_721) dX0_ask_202 ?_
                        exact e_J E hW rfl ⟨⟨_, rfl, trivial⟩, hF⟩ dX0_ask_205
                  · refine lv_aload_n hx hb dX0_ask_167 rfl (lv_at hl 5 rfl) ?_
                    refine fg_RX0_57 E hW rh0 dX0_ask_168 (fun a1416761 m1416762 r1416763 => ?_)
                    obtain rfl : a1410930 = a1416761 := (m1416678).symm.trans m1416762
                    refine lv_iload hx hb dX0_ask_171 (lv_at hl 4 rfl) ?_
                    refine lv_iconst (v := 1) hx hb dX0_ask_173 (by decide) ?_
                    refine q_isub (Y := 1) hx hb dX0_ask_174 rfl rfl (by omega) (fun x1416764 h1416765 => ?_)
                    refine lv_iload hx hb dX0_ask_175 (lv_at hl 0 rfl) ?_
                    have J1416768 : ∀ (y1416766 : Int64) (b1416767 : (0 : Int) ≤ y1416766.toInt ∧ y1416766.toInt ≤ 1) (H : Heap) (locs : List Loc) (ls : Array Slot), WS G cI cJ cZ cD cR cT A kp L f1416617 s H locs → FM kp L ms_X0_ask f0 f1416617 → lv_has ls 12 [(9, .int y1416683), (8, .int y1416642), (7, .int y1416620), (6, .int y1416622), (5, .int y1416623), (0, .ref h0), (1, .ref u1), (2, .int u2), (3, .int u3), (4, .int u4)] → W p l e ({ frames := 3, cells := 0, slots := 0, locals := 86 }) s m ([.ref h0, .ref u1, .int u2, .int u3, .int u4] : List Value).toArray below meth c H locs 0 0 (MQ below (QT (po_X0_ask kp L f0 h0 u1 u2 u3 u4) G cI cJ cZ cD cR cT A kp L) ([.ref h0, .ref u1, .int u2, .int u3, .int u4] : List Value).toArray s 0 0 A) (F0 m 185 ls [.long y1416766, .int x1416764, .ref a1410930]) := by
                      intro y1416766 b1416767 H locs ls hW hF hl
                      refine gs_115 E hW r1410932 ⟨by omega, by omega⟩ dX0_ask_185 (fun f1416769 H locs e1416770 n1416771 g1416772 hW => ?_)
                      have hF := FM.tr hF g1416772 rfl
                      refine lv_goto (tgt := 314) hx hb dX0_ask_186 (by decide) ?_
                      refine q_iinc hx hb dX0_ask_314 hl (k := 2) rfl rfl rfl (by omega) (by decide) (fun i1416773 ls h1416774 hl => ?_)
                      have hl : lv_has ls 12 [(7, .int i1416773), (9, .int y1416683), (8, .int y1416642), (6, .int y1416622), (5, .int y1416623), (0, .ref h0), (1, .ref u1), (2, .int u2), (3, .int u3), (4, .int u4)] := hl
                      refine lv_goto (tgt := 21) hx hb dX0_ask_317 (by decide) ?_
                      exact ih21 f1416769 i1416773 y1416622 y1416623 ((fm_R g1416772 rh0 rfl).trans m1416762) ((fm_R g1416772 ru1 rfl).trans m1416619) (by omega) (by omega) (by omega) _ _ _ hW hF (lv_sub hl [0, 3, 4, 5, 6, 7, 8, 9] rfl)
                    refine q_if_eq (tgt := 184) hx hb dX0_ask_177 (by decide) rfl (fun c1416775 => ?_) (fun c1416775 => ?_)
                    · refine lv_lconst (v := 1) hx hb dX0_ask_184 (by decide) ?_
                      exact J1416768 1 (by decide) _ _ _ hW hF (lv_sub hl [0, 1, 2, 3, 4, 5, 6, 7, 8, 9] rfl)
                    · refine lv_lconst (v := 0) hx hb dX0_ask_180 (by decide) ?_
                      refine lv_goto (tgt := 185) hx hb dX0_ask_181 (by decide) ?_
                      exact J1416768 0 (by decide) _ _ _ hW hF (lv_sub hl [0, 1, 2, 3, 4, 5, 6, 7, 8, 9] rfl)
                refine q_lcmp_eq (Y := 0) (tgt := 156) hx hb dX0_ask_148 dX0_ask_149 (by decide) rfl rfl (fun c1416776 => ?_) (fun c1416776 => ?_)
                · refine lv_iconst (v := 0) hx hb dX0_ask_156 (by decide) ?_
                  exact J1416685 0 (by decide) _ _ _ hW hF (lv_sub hl [0, 1, 2, 3, 4, 5, 6, 7, 8] rfl)
                · refine lv_iconst (v := 1) hx hb dX0_ask_152 (by decide) ?_
                  refine lv_goto (tgt := 157) hx hb dX0_ask_153 (by decide) ?_
                  exact J1416685 1 (by decide) _ _ _ hW hF (lv_sub hl [0, 1, 2, 3, 4, 5, 6, 7, 8] rfl)
              · refine lv_ldc2 (v := (-4000000000000000000)) hx hb hown (hts _ tw_721) dX0_ask_134 ?_
                exact e_J E hW rfl ⟨⟨_, rfl, trivial⟩, hF⟩ dX0_ask_137
            · refine lv_iload hx hb dX0_ask_67 (lv_at hl 0 rfl) ?_
              refine lv_sipush (v := 282) hx hb dX0_ask_69 (by decide) ?_
              refine q_icmp_gt (Y := 282) (tgt := 128) hx hb dX0_ask_72 (by decide) rfl rfl (fun c1416777 => ?_) (fun c1416777 => ?_)
              · refine lv_iload hx hb dX0_ask_128 (lv_at hl 3 rfl) ?_
                refine lv_iconst (v := 1) hx hb dX0_ask_130 (by decide) ?_
                refine q_icmp_ge (Y := 1) (tgt := 138) hx hb dX0_ask_131 (by decide) rfl rfl (fun c1416778 => ?_) (fun c1416778 => ?_)
                · refine lv_aload_n hx hb dX0_ask_138 rfl (lv_at hl 4 rfl) ?_
                  refine fg_RX0_57 E hW rh0 dX0_ask_139 (fun a1416779 m1416780 r1416781 => ?_)
                  obtain rfl : a1410930 = a1416779 := (m1416618).symm.trans m1416780
                  refine lv_iload hx hb dX0_ask_142 (lv_at hl 3 rfl) ?_
                  refine lv_iconst (v := 1) hx hb dX0_ask_144 (by decide) ?_
                  refine q_isub (Y := 1) hx hb dX0_ask_145 rfl rfl (by omega) (fun x1416782 h1416783 => ?_)
                  refine gl_115 E hW r1410932 ⟨by omega, by omega⟩ dX0_ask_146 (fun y1416784 _ => ?_)
                  refine lv_lconst (v := 0) hx hb dX0_ask_147 (by decide) ?_
                  have J1416787 : ∀ (y1416785 : Int32) (b1416786 : (0 : Int) ≤ y1416785.toInt ∧ y1416785.toInt ≤ 1) (H : Heap) (locs : List Loc) (ls : Array Slot), WS G cI cJ cZ cD cR cT A kp L f1416617 s H locs → FM kp L ms_X0_ask f0 f1416617 → lv_has ls 12 [(8, .int y1416642), (7, .int y1416620), (6, .int y1416622), (5, .int y1416623), (0, .ref h0), (1, .ref u1), (2, .int u2), (3, .int u3), (4, .int u4)] → W p l e ({ frames := 3, cells := 0, slots := 0, locals := 86 }) s m ([.ref h0, .ref u1, .int u2, .int u3, .int u4] : List Value).toArray below meth c H locs 0 0 (MQ below (QT (po_X0_ask kp L f0 h0 u1 u2 u3 u4) G cI cJ cZ cD cR cT A kp L) ([.ref h0, .ref u1, .int u2, .int u3, .int u4] : List Value).toArray s 0 0 A) (F0 m 157 ls [.int y1416785]) := by
                    intro y1416785 b1416786 H locs ls hW hF hl
                    refine lv_istore (lv' := [(9, .int y1416785), (8, .int y1416642), (7, .int y1416620), (6, .int y1416622), (5, .int y1416623), (0, .ref h0), (1, .ref u1), (2, .int u2), (3, .int u3), (4, .int u4)]) hx hb dX0_ask_157 hl (by decide) rfl (fun ls hl => ?_)
                    refine lv_iload hx hb dX0_ask_159 (lv_at hl 1 rfl) ?_
                    refine lv_sipush (v := 267) hx hb dX0_ask_161 (by decide) ?_
                    refine q_icmp_ne (Y := 267) (tgt := 189) hx hb dX0_ask_164 (by decide) rfl rfl (fun c1416788 => ?_) (fun c1416788 => ?_)
                    · refine lv_iload hx hb dX0_ask_189 (lv_at hl 1 rfl) ?_
                      refine lv_sipush (v := 259) hx hb dX0_ask_191 (by decide) ?_
                      refine q_icmp_ne (Y := 259) (tgt := 206) hx hb dX0_ask_194 (by decide) rfl rfl (fun c1416789 => ?_) (fun c1416789 => ?_)
                      · refine lv_iload hx hb dX0_ask_206 (lv_at hl 1 rfl) ?_
                        refine lv_sipush (v := 265) hx hb dX0_ask_208 (by decide) ?_
                        refine q_icmp_ne (Y := 265) (tgt := 219) hx hb dX0_ask_211 (by decide) rfl rfl (fun c1416790 => ?_) (fun c1416790 => ?_)
                        · refine lv_iload hx hb dX0_ask_219 (lv_at hl 1 rfl) ?_
                          refine lv_sipush (v := 266) hx hb dX0_ask_221 (by decide) ?_
                          refine q_icmp_ne (Y := 266) (tgt := 244) hx hb dX0_ask_224 (by decide) rfl rfl (fun c1416791 => ?_) (fun c1416791 => ?_)
                          · refine q_iinc hx hb dX0_ask_244 hl (k := 4) rfl rfl rfl (by omega) (by decide) (fun i1416792 ls h1416793 hl => ?_)
                            have hl : lv_has ls 12 [(5, .int i1416792), (9, .int y1416785), (8, .int y1416642), (7, .int y1416620), (6, .int y1416622), (0, .ref h0), (1, .ref u1), (2, .int u2), (3, .int u3), (4, .int u4)] := hl
                            refine lv_iload hx hb dX0_ask_247 (lv_at hl 2 rfl) ?_
                            refine lv_sipush (v := 256) hx hb dX0_ask_249 (by decide) ?_
                            refine q_icmp_ge (Y := 256) (tgt := 314) hx hb dX0_ask_252 (by decide) rfl rfl (fun c1416794 => ?_) (fun c1416794 => ?_)
                            · refine q_iinc hx hb dX0_ask_314 hl (k := 3) rfl rfl rfl (by omega) (by decide) (fun i1416795 ls h1416796 hl => ?_)
                              have hl : lv_has ls 12 [(7, .int i1416795), (5, .int i1416792), (9, .int y1416785), (8, .int y1416642), (6, .int y1416622), (0, .ref h0), (1, .ref u1), (2, .int u2), (3, .int u3), (4, .int u4)] := hl
                              refine lv_goto (tgt := 21) hx hb dX0_ask_317 (by decide) ?_
                              exact ih21 f1416617 i1416795 y1416622 i1416792 m1416780 m1416619 (by omega) (by omega) (by omega) _ _ _ hW hF (lv_sub hl [0, 4, 1, 5, 6, 7, 8, 9] rfl)
                            · exfalso; omega
                          · exfalso; omega
                        · exfalso; omega
                      · exfalso; omega
                    · exfalso; omega
                  refine q_lcmp_eq (Y := 0) (tgt := 156) hx hb dX0_ask_148 dX0_ask_149 (by decide) rfl rfl (fun c1416797 => ?_) (fun c1416797 => ?_)
                  · refine lv_iconst (v := 0) hx hb dX0_ask_156 (by decide) ?_
                    exact J1416787 0 (by decide) _ _ _ hW hF (lv_sub hl [0, 1, 2, 3, 4, 5, 6, 7, 8] rfl)
                  · refine lv_iconst (v := 1) hx hb dX0_ask_152 (by decide) ?_
                    refine lv_goto (tgt := 157) hx hb dX0_ask_153 (by decide) ?_
                    exact J1416787 1 (by decide) _ _ _ hW hF (lv_sub hl [0, 1, 2, 3, 4, 5, 6, 7, 8] rfl)
                · refine lv_ldc2 (v := (-4000000000000000000)) hx hb hown (hts _ tw_721) dX0_ask_134 ?_
                  exact e_J E hW rfl ⟨⟨_, rfl, trivial⟩, hF⟩ dX0_ask_137
              · refine lv_iload hx hb dX0_ask_75 (lv_at hl 3 rfl) ?_
                refine lv_bipush (v := 64) hx hb dX0_ask_77 (by decide) ?_
                refine q_icmp_lt (Y := 64) (tgt := 86) hx hb dX0_ask_79 (by decide) rfl rfl (fun c1416798 => ?_) (fun c1416798 => ?_)
                · refine lv_aload_n hx hb dX0_ask_86 rfl (lv_at hl 4 rfl) ?_
                  refine fg_RX0_57 E hW rh0 dX0_ask_87 (fun a1416799 m1416800 r1416801 => ?_)
                  obtain rfl : a1410930 = a1416799 := (m1416618).symm.trans m1416800
                  refine lv_iload hx hb dX0_ask_90 (lv_at hl 3 rfl) ?_
                  refine lv_iload hx hb dX0_ask_92 (lv_at hl 0 rfl) ?_
                  refine lv_sipush (v := 301) hx hb dX0_ask_94 (by decide) ?_
                  refine q_icmp_ne (Y := 301) (tgt := 111) hx hb dX0_ask_97 (by decide) rfl rfl (fun c1416810 => ?_) (fun c1416810 => ?_)
                  · refine lv_aload_n hx hb dX0_ask_111 rfl (lv_at hl 4 rfl) ?_
                    refine lv_iload hx hb dX0_ask_112 (lv_at hl 0 rfl) ?_
                    refine lv_iload_n hx hb dX0_ask_114 rfl (lv_at hl 7 rfl) ?_
                    refine lv_iload hx hb dX0_ask_115 (lv_at hl 8 rfl) ?_
                    refine t_callV (As := [.int y1416642, .int u3, .int u4]) (rest := [.int y1416623, .ref a1410930]) E hW (c_X0_wordOf l G cI cJ cZ cD cR cT kp L f1416617 hW.2.2.2 _ h0 y1416642 u3 u4 rh0 (by omega) (by omega) (by omega)) rh0 (by decide) rfl wk_X0_wordOf tw_722 rfl ⟨Nat.le_of_ble_eq_true rfl, Nat.le_of_ble_eq_true rfl⟩ ⟨rfl, rfl⟩ hl.1 rfl (Nat.le_of_ble_eq_true rfl) dX0_ask_117 ⟨Nat.le_of_ble_eq_true rfl, Nat.le_of_ble_eq_true rfl⟩ (fun v1416811 f1416812 H locs q1416813 hW => ?_)
                    obtain ⟨⟨x1416815, rfl, p1416816⟩, g1416814⟩ := q1416813
                    clear p1416816
                    have hF := FM.tr hF g1416814 rfl
                    refine q_i2l hx hb dX0_ask_120 rfl (fun x1416817 h1416818 => ?_)
                    refine gs_115 E hW r1410932 ⟨by omega, by omega⟩ dX0_ask_121 (fun f1416819 H locs e1416820 n1416821 g1416822 hW => ?_)
                    have hF := FM.tr hF g1416822 rfl
                    refine q_iinc hx hb dX0_ask_122 hl (k := 3) rfl rfl rfl (by omega) (by decide) (fun i1416823 ls h1416824 hl => ?_)
                    have hl : lv_has ls 12 [(5, .int i1416823), (8, .int y1416642), (7, .int y1416620), (6, .int y1416622), (0, .ref h0), (1, .ref u1), (2, .int u2), (3, .int u3), (4, .int u4)] := hl
                    refine lv_goto (tgt := 314) hx hb dX0_ask_125 (by decide) ?_
                    refine q_iinc hx hb dX0_ask_314 hl (k := 2) rfl rfl rfl (by omega) (by decide) (fun i1416825 ls h1416826 hl => ?_)
                    have hl : lv_has ls 12 [(7, .int i1416825), (5, .int i1416823), (8, .int y1416642), (6, .int y1416622), (0, .ref h0), (1, .ref u1), (2, .int u2), (3, .int u3), (4, .int u4)] := hl
                    refine lv_goto (tgt := 21) hx hb dX0_ask_317 (by decide) ?_
                    exact ih21 f1416819 i1416825 y1416622 i1416823 ((fm_R g1416822 rh0 rfl).trans ((fm_R g1416814 rh0 rfl).trans m1416800)) ((fm_R g1416822 ru1 rfl).trans ((fm_R g1416814 ru1 rfl).trans m1416619)) (by omega) (by omega) (by omega) _ _ _ hW hF (lv_sub hl [0, 3, 1, 4, 5, 6, 7, 8] rfl)
                  · exfalso; omega
                · refine lv_ldc2 (v := (-4000000000000000000)) hx hb hown (hts _ tw_721) dX0_ask_82 ?_
                  exact e_J E hW rfl ⟨⟨_, rfl, trivial⟩, hF⟩ dX0_ask_85
        · have hb1416827 : y1416620.toInt ≤ 2147483646 := by have := i32_b y1416622; omega
          refine lv_goto (tgt := 314) hx hb dX0_ask_39 (by decide) ?_
          refine q_iinc hx hb dX0_ask_314 hl (k := 0) rfl rfl rfl (by omega) (by decide) (fun i1416828 ls h1416829 hl => ?_)
          have hl : lv_has ls 12 [(7, .int i1416828), (6, .int y1416622), (5, .int y1416623), (0, .ref h0), (1, .ref u1), (2, .int u2), (3, .int u3), (4, .int u4)] := hl
          refine lv_goto (tgt := 21) hx hb dX0_ask_317 (by decide) ?_
          exact ih21 f1416617 i1416828 y1416622 y1416623 m1416618 m1416619 (by omega) (by omega) (by omega) _ _ _ hW hF (lv_sub hl [0, 1, 2, 3, 4, 5, 6, 7] rfl)
  have hk1416830 : (0 : Int32).toInt = 0 := rfl
  have hk1416831 : (0 : Int32).toInt = 0 := rfl
  exact L1416625 2147483648 f1410933 y1410940 0 0 ((fm_R g1410936 rh0 rfl).trans m1410931) m1410938 (by omega) (by decide) (by omega) _ _ _ hW hF (lv_sub hl [0, 1, 2, 3, 4, 5, 6, 7] rfl)
def ms_X0_anyHolds : List (Nat × Nat) := [(115, 0)]
def po_X0_anyHolds (kp : Nat → Nat) (L : List Nat) (f0 : Nat → va_E) (h0 : Nat) (u1 : Int32) (u2 : Int32) (u3 : Int32) : Option Value → (Nat → va_E) → Prop := fun v f => (∃ r : Int32, v = some (.int r) ∧ ((0 : Int) ≤ r.toInt ∧ r.toInt ≤ 1)) ∧ FM kp L ms_X0_anyHolds f0 f
set_option maxHeartbeats 4000000 in
set_option maxRecDepth 100000 in
theorem c_X0_anyHolds (l : Launch) (G : va_G) (cI cJ cZ cD cR cT : ClassId) (kp : Nat → Nat) (L : List Nat) (f0 : Nat → va_E) (hTH : TH cI cJ cZ cD cR cT kp L f0) (sz : Nat) (h0 : Nat) (u1 : Int32) (u2 : Int32) (u3 : Int32) (rh0 : RK kp L h0 0) (pu1 : (262 : Int) ≤ u1.toInt ∧ u1.toInt ≤ 264) (pu2 : (0 : Int) ≤ u2.toInt ∧ u2.toInt ≤ 39) (pu3 : (-1 : Int) ≤ u3.toInt ∧ u3.toInt ≤ 39) : Met l yX0_anyHolds (Cond.code yX0_anyHolds cX0_anyHolds 7 (some .boolean) :: wTab) ({ frames := 4, cells := 0, slots := 0, locals := 117 }) (va_Pc [.ref h0, .int u1, .int u2, .int u3] (PreW G (tys6 cI cJ cZ cD cR cT) (va_pl L f0) sz)) (QT (po_X0_anyHolds kp L f0 h0 u1 u2 u3) G cI cJ cZ cD cR cT (va_A (va_pl L f0) sz) kp L) 0 0 (va_A (va_pl L f0) sz) := by
  refine metT (by decide) (Nat.le_of_ble_eq_true rfl) hTH ?_
  intro p e s m below meth c A ls E hW hl
  obtain ⟨hx, hb, -, hml, hown, hts, -, -, -⟩ := id E
  have hF : FM kp L ms_X0_anyHolds f0 f0 := FM.rf
  have hl : lv_has ls 7 [(0, .ref h0), (1, .int u1), (2, .int u2), (3, .int u3)] := hl
  refine lv_iconst (v := 0) hx hb dX0_anyHolds_0 (by decide) ?_
  refine lv_istore (lv' := [(4, .int 0), (0, .ref h0), (1, .int u1), (2, .int u2), (3, .int u3)]) hx hb dX0_anyHolds_1 hl (by decide) rfl (fun ls hl => ?_)
  have L1425779 : ∀ (n : Nat), ∀ (f1425776 : Nat → va_E) (y1425777 : Int32) (b1425778 : (0 : Int) ≤ y1425777.toInt ∧ y1425777.toInt ≤ 20) (hm : (21 : Int) - y1425777.toInt ≤ n) (H : Heap) (locs : List Loc) (ls : Array Slot), WS G cI cJ cZ cD cR cT A kp L f1425776 s H locs → FM kp L ms_X0_anyHolds f0 f1425776 → lv_has ls 7 [(4, .int y1425777), (0, .ref h0), (1, .int u1), (2, .int u2), (3, .int u3)] → W p l e ({ frames := 4, cells := 0, slots := 0, locals := 117 }) s m ([.ref h0, .int u1, .int u2, .int u3] : List Value).toArray below meth c H locs 0 0 (MQ below (QT (po_X0_anyHolds kp L f0 h0 u1 u2 u3) G cI cJ cZ cD cR cT A kp L) ([.ref h0, .int u1, .int u2, .int u3] : List Value).toArray s 0 0 A) (F0 m 3 ls []) := by
    intro n
    induction n with
    | zero =>
      intro f1425776 y1425777 b1425778 hm H locs ls hW hF hl
      have hz := i32_b y1425777
      exfalso; omega
    | succ n ih =>
      intro f1425776 y1425777 b1425778 hm H locs ls hW hF hl
      have ih3 := ih
      refine lv_iload hx hb dX0_anyHolds_3 (lv_at hl 0 rfl) ?_
      refine lv_aload_n hx hb dX0_anyHolds_5 rfl (lv_at hl 1 rfl) ?_
      refine fg_RX0_42 E hW rh0 dX0_anyHolds_6 (fun a1425780 m1425781 r1425782 => ?_)
      refine fg_RX0_286 E hW r1425782 dX0_anyHolds_9 (fun y1425783 m1425784 b1425785 => ?_)
      refine q_icmp_ge (tgt := 102) hx hb dX0_anyHolds_12 (by decide) rfl rfl (fun c1425786 => ?_) (fun c1425786 => ?_)
      · refine lv_iconst (v := 0) hx hb dX0_anyHolds_102 (by decide) ?_
        exact e_Z E hW rfl (by decide) ⟨⟨_, rfl, (by have hk : (0 : Int32).toInt = 0 := rfl; first | decide | omega)⟩, hF⟩ dX0_anyHolds_103
      · refine lv_aload_n hx hb dX0_anyHolds_15 rfl (lv_at hl 1 rfl) ?_
        refine fg_RX0_42 E hW rh0 dX0_anyHolds_16 (fun a1425787 m1425788 r1425789 => ?_)
        obtain rfl : a1425780 = a1425787 := (m1425781).symm.trans m1425788
        refine fg_RX0_287 E hW r1425782 dX0_anyHolds_19 (fun a1425790 m1425791 r1425792 => ?_)
        refine lv_iload hx hb dX0_anyHolds_22 (lv_at hl 0 rfl) ?_
        refine gl_221 E hW r1425792 ⟨by omega, by omega⟩ dX0_anyHolds_24 (fun o1425793 m1425795 k1425794 => ?_)
        rcases o1425793 with _ | a1425796
        · have hl : lv_has ls 7 [(4, .int y1425777), (0, .ref h0), (1, .int u1), (2, .int u2), (3, .int u3)] := hl
          show W p l e ({ frames := 4, cells := 0, slots := 0, locals := 117 }) s m ([.ref h0, .int u1, .int u2, .int u3] : List Value).toArray below meth c _ _ 0 0 (MQ below (QT (po_X0_anyHolds kp L f0 h0 u1 u2 u3) G cI cJ cZ cD cR cT A kp L) ([.ref h0, .int u1, .int u2, .int u3] : List Value).toArray s 0 0 A) (F0 m 25 ls [.null])
          refine lv_astoreN (lv' := [(5, .null), (4, .int y1425777), (0, .ref h0), (1, .int u1), (2, .int u2), (3, .int u3)]) hx hb dX0_anyHolds_25 hl (by decide) rfl (fun ls hl => ?_)
          refine lv_iconst (v := 0) hx hb dX0_anyHolds_27 (by decide) ?_
          refine lv_istore (lv' := [(6, .int 0), (5, .null), (4, .int y1425777), (0, .ref h0), (1, .int u1), (2, .int u2), (3, .int u3)]) hx hb dX0_anyHolds_28 hl (by decide) rfl (fun ls hl => ?_)
          have L1425810 : ∀ (n : Nat), ∀ (f1425804 : Nat → va_E) (y1425808 : Int32) (m1425805 : oI (f1425804 a1425780) 0 = y1425783) (m1425806 : oR (f1425804 a1425780) 1 = a1425790) (m1425807 : oR (f1425804 h0) 4 = a1425780) (b1425809 : (0 : Int) ≤ y1425808.toInt ∧ y1425808.toInt ≤ 0) (hm : (1 : Int) ≤ n) (H : Heap) (locs : List Loc) (ls : Array Slot), WS G cI cJ cZ cD cR cT A kp L f1425804 s H locs → FM kp L ms_X0_anyHolds f0 f1425804 → lv_has ls 7 [(6, .int y1425808), (5, .null), (4, .int y1425777), (0, .ref h0), (1, .int u1), (2, .int u2), (3, .int u3)] → W p l e ({ frames := 4, cells := 0, slots := 0, locals := 117 }) s m ([.ref h0, .int u1, .int u2, .int u3] : List Value).toArray below meth c H locs 0 0 (MQ below (QT (po_X0_anyHolds kp L f0 h0 u1 u2 u3) G cI cJ cZ cD cR cT A kp L) ([.ref h0, .int u1, .int u2, .int u3] : List Value).toArray s 0 0 A) (F0 m 30 ls []) := by
            intro n
            induction n with
            | zero =>
              intro f1425804 y1425808 m1425805 m1425806 m1425807 b1425809 hm H locs ls hW hF hl
              exfalso; omega
            | succ n ih =>
              intro f1425804 y1425808 m1425805 m1425806 m1425807 b1425809 hm H locs ls hW hF hl
              have ih30 := ih
              refine lv_aloadN hx hb dX0_anyHolds_30 (lv_at hl 1 rfl) ?_
              refine lv_ifnullN (tgt := 96) hx hb dX0_anyHolds_32 (by decide) ?_
              refine q_iinc hx hb dX0_anyHolds_96 hl (k := 2) rfl rfl rfl (by omega) (by decide) (fun i1425811 ls h1425812 hl => ?_)
              have hl : lv_has ls 7 [(4, .int i1425811), (6, .int y1425808), (5, .null), (0, .ref h0), (1, .int u1), (2, .int u2), (3, .int u3)] := hl
              refine lv_goto (tgt := 3) hx hb dX0_anyHolds_99 (by decide) ?_
              exact ih3 f1425804 i1425811 (by omega) (by omega) _ _ _ hW hF (lv_sub hl [0, 3, 4, 5, 6] rfl)
          have hk1425813 : (0 : Int32).toInt = 0 := rfl
          exact L1425810 1 f1425776 0 m1425784 m1425791 m1425788 (by decide) (by omega) _ _ _ hW hF (lv_sub hl [0, 1, 2, 3, 4, 5, 6] rfl)
        · have r1425797 : RK kp L a1425796 9 := k1425794 _ rfl
          have hl : lv_has ls 7 [(4, .int y1425777), (0, .ref h0), (1, .int u1), (2, .int u2), (3, .int u3)] := hl
          show W p l e ({ frames := 4, cells := 0, slots := 0, locals := 117 }) s m ([.ref h0, .int u1, .int u2, .int u3] : List Value).toArray below meth c _ _ 0 0 (MQ below (QT (po_X0_anyHolds kp L f0 h0 u1 u2 u3) G cI cJ cZ cD cR cT A kp L) ([.ref h0, .int u1, .int u2, .int u3] : List Value).toArray s 0 0 A) (F0 m 25 ls [.ref a1425796])
          refine lv_astore (lv' := [(5, .ref a1425796), (4, .int y1425777), (0, .ref h0), (1, .int u1), (2, .int u2), (3, .int u3)]) hx hb dX0_anyHolds_25 hl (by decide) rfl (fun ls hl => ?_)
          refine lv_iconst (v := 0) hx hb dX0_anyHolds_27 (by decide) ?_
          refine lv_istore (lv' := [(6, .int 0), (5, .ref a1425796), (4, .int y1425777), (0, .ref h0), (1, .int u1), (2, .int u2), (3, .int u3)]) hx hb dX0_anyHolds_28 hl (by decide) rfl (fun ls hl => ?_)
          have L1426300 : ∀ (n : Nat), ∀ (f1426294 : Nat → va_E) (y1426298 : Int32) (m1426295 : oI (f1426294 a1425780) 0 = y1425783) (m1426296 : oR (f1426294 a1425780) 1 = a1425790) (m1426297 : oR (f1426294 h0) 4 = a1425780) (b1426299 : (0 : Int) ≤ y1426298.toInt ∧ y1426298.toInt ≤ 12) (hm : (13 : Int) - y1426298.toInt ≤ n) (H : Heap) (locs : List Loc) (ls : Array Slot), WS G cI cJ cZ cD cR cT A kp L f1426294 s H locs → FM kp L ms_X0_anyHolds f0 f1426294 → lv_has ls 7 [(6, .int y1426298), (5, .ref a1425796), (4, .int y1425777), (0, .ref h0), (1, .int u1), (2, .int u2), (3, .int u3)] → W p l e ({ frames := 4, cells := 0, slots := 0, locals := 117 }) s m ([.ref h0, .int u1, .int u2, .int u3] : List Value).toArray below meth c H locs 0 0 (MQ below (QT (po_X0_anyHolds kp L f0 h0 u1 u2 u3) G cI cJ cZ cD cR cT A kp L) ([.ref h0, .int u1, .int u2, .int u3] : List Value).toArray s 0 0 A) (F0 m 30 ls []) := by
            intro n
            induction n with
            | zero =>
              intro f1426294 y1426298 m1426295 m1426296 m1426297 b1426299 hm H locs ls hW hF hl
              have hz := i32_b y1426298
              exfalso; omega
            | succ n ih =>
              intro f1426294 y1426298 m1426295 m1426296 m1426297 b1426299 hm H locs ls hW hF hl
              have ih30 := ih
              refine lv_aload hx hb dX0_anyHolds_30 (lv_at hl 1 rfl) ?_
              refine lv_ifnull hx hb dX0_anyHolds_32 ?_
              refine lv_iload hx hb dX0_anyHolds_35 (lv_at hl 0 rfl) ?_
              refine lv_aload hx hb dX0_anyHolds_37 (lv_at hl 1 rfl) ?_
              refine fg_RX0_291 E hW r1425797 dX0_anyHolds_39 (fun y1426301 m1426302 b1426303 => ?_)
              refine q_icmp_ge (tgt := 96) hx hb dX0_anyHolds_42 (by decide) rfl rfl (fun c1426304 => ?_) (fun c1426304 => ?_)
              · refine q_iinc hx hb dX0_anyHolds_96 hl (k := 2) rfl rfl rfl (by omega) (by decide) (fun i1426305 ls h1426306 hl => ?_)
                have hl : lv_has ls 7 [(4, .int i1426305), (6, .int y1426298), (5, .ref a1425796), (0, .ref h0), (1, .int u1), (2, .int u2), (3, .int u3)] := hl
                refine lv_goto (tgt := 3) hx hb dX0_anyHolds_99 (by decide) ?_
                exact ih3 f1426294 i1426305 (by omega) (by omega) _ _ _ hW hF (lv_sub hl [0, 3, 4, 5, 6] rfl)
              · refine lv_aload hx hb dX0_anyHolds_45 (lv_at hl 1 rfl) ?_
                refine fg_RX0_296 E hW r1425797 dX0_anyHolds_47 (fun a1426307 m1426308 r1426309 => ?_)
                refine lv_iload hx hb dX0_anyHolds_50 (lv_at hl 0 rfl) ?_
                refine gl_643 E hW r1426309 ⟨by omega, by omega⟩ dX0_anyHolds_52 (fun y1426310 m1426311 => ?_)
                refine lv_iload_n hx hb dX0_anyHolds_53 rfl (lv_at hl 4 rfl) ?_
                refine q_icmp_ne (tgt := 90) hx hb dX0_anyHolds_54 (by decide) rfl rfl (fun c1426313 => ?_) (fun c1426313 => ?_)
                · refine q_iinc hx hb dX0_anyHolds_90 hl (k := 0) rfl rfl rfl (by omega) (by decide) (fun i1426314 ls h1426315 hl => ?_)
                  have hl : lv_has ls 7 [(6, .int i1426314), (5, .ref a1425796), (4, .int y1425777), (0, .ref h0), (1, .int u1), (2, .int u2), (3, .int u3)] := hl
                  refine lv_goto (tgt := 30) hx hb dX0_anyHolds_93 (by decide) ?_
                  exact ih30 f1426294 i1426314 m1426295 m1426296 m1426297 (by omega) (by omega) _ _ _ hW hF (lv_sub hl [0, 1, 2, 3, 4, 5, 6] rfl)
                · refine lv_aload_n hx hb dX0_anyHolds_57 rfl (lv_at hl 3 rfl) ?_
                  refine fg_RX0_42 E hW rh0 dX0_anyHolds_58 (fun a1426316 m1426317 r1426318 => ?_)
                  obtain rfl : a1425780 = a1426316 := (m1426297).symm.trans m1426317
                  refine lv_iload hx hb dX0_anyHolds_61 (lv_at hl 2 rfl) ?_
                  refine lv_iload hx hb dX0_anyHolds_63 (lv_at hl 0 rfl) ?_
                  refine t_callV (As := [.int y1425777, .int y1426298]) (rest := []) E hW (c_X2_isInForce l G cI cJ cZ cD cR cT kp L f1426294 hW.2.2.2 _ a1425780 y1425777 y1426298 r1425782 (by omega) (by omega)) r1425782 (by decide) rfl wk_X2_isInForce tw_716 rfl ⟨Nat.le_of_ble_eq_true rfl, Nat.le_of_ble_eq_true rfl⟩ ⟨rfl, rfl⟩ hl.1 rfl (Nat.le_of_ble_eq_true rfl) dX0_anyHolds_65 ⟨Nat.le_of_ble_eq_true rfl, Nat.le_of_ble_eq_true rfl⟩ (fun v1426319 f1426320 H locs q1426321 hW => ?_)
                  obtain ⟨⟨x1426323, rfl, p1426324⟩, g1426322⟩ := q1426321
                  have hF := FM.tr hF g1426322 rfl
                  refine q_if_eq (tgt := 90) hx hb dX0_anyHolds_68 (by decide) rfl (fun c1426325 => ?_) (fun c1426325 => ?_)
                  · refine q_iinc hx hb dX0_anyHolds_90 hl (k := 0) rfl rfl rfl (by omega) (by decide) (fun i1426326 ls h1426327 hl => ?_)
                    have hl : lv_has ls 7 [(6, .int i1426326), (5, .ref a1425796), (4, .int y1425777), (0, .ref h0), (1, .int u1), (2, .int u2), (3, .int u3)] := hl
                    refine lv_goto (tgt := 30) hx hb dX0_anyHolds_93 (by decide) ?_
                    exact ih30 f1426320 i1426326 ((fm_I g1426322 r1425782 rfl).trans m1426295) ((fm_R g1426322 r1425782 rfl).trans m1426296) ((fm_R g1426322 rh0 rfl).trans m1426317) (by omega) (by omega) _ _ _ hW hF (lv_sub hl [0, 1, 2, 3, 4, 5, 6] rfl)
                  · refine lv_aload_n hx hb dX0_anyHolds_71 rfl (lv_at hl 3 rfl) ?_
                    refine lv_aload hx hb dX0_anyHolds_72 (lv_at hl 1 rfl) ?_
                    refine lv_iload hx hb dX0_anyHolds_74 (lv_at hl 0 rfl) ?_
                    refine lv_iload_n hx hb dX0_anyHolds_76 rfl (lv_at hl 5 rfl) ?_
                    refine lv_iload_n hx hb dX0_anyHolds_77 rfl (lv_at hl 6 rfl) ?_
                    refine t_callV (As := [.ref a1425796, .int y1426298, .int u2, .int u3]) (rest := []) E hW (c_X0_ask l G cI cJ cZ cD cR cT kp L f1426320 hW.2.2.2 _ h0 a1425796 y1426298 u2 u3 rh0 r1425797 (by omega) (by omega) (by omega) (by rw [((fm_I g1426322 r1425797 rfl).trans m1426302)]; omega)) rh0 (by decide) rfl wk_X0_ask tw_717 rfl ⟨Nat.le_of_ble_eq_true rfl, Nat.le_of_ble_eq_true rfl⟩ ⟨rfl, rfl⟩ hl.1 rfl (Nat.le_of_ble_eq_true rfl) dX0_anyHolds_78 ⟨Nat.le_of_ble_eq_true rfl, Nat.le_of_ble_eq_true rfl⟩ (fun v1426328 f1426329 H locs q1426330 hW => ?_)
                    obtain ⟨⟨x1426332, rfl, p1426333⟩, g1426331⟩ := q1426330
                    clear p1426333
                    have hF := FM.tr hF g1426331 rfl
                    refine lv_ldc2 (v := (-4000000000000000000)) hx hb hown (hts _ tw_721) dX0_anyHolds_81 ?_
                    refine q_lcmp_eq (Y := -4000000000000000000) (tgt := 90) hx hb dX0_anyHolds_84 dX0_anyHolds_85 (by decide) rfl rfl (fun c1426334 => ?_) (fun c1426334 => ?_)
                    · refine q_iinc hx hb dX0_anyHolds_90 hl (k := 0) rfl rfl rfl (by omega) (by decide) (fun i1426335 ls h1426336 hl => ?_)
                      have hl : lv_has ls 7 [(6, .int i1426335), (5, .ref a1425796), (4, .int y1425777), (0, .ref h0), (1, .int u1), (2, .int u2), (3, .int u3)] := hl
                      refine lv_goto (tgt := 30) hx hb dX0_anyHolds_93 (by decide) ?_
                      exact ih30 f1426329 i1426335 ((fm_I g1426331 r1425782 rfl).trans ((fm_I g1426322 r1425782 rfl).trans m1426295)) ((fm_R g1426331 r1425782 rfl).trans ((fm_R g1426322 r1425782 rfl).trans m1426296)) ((fm_R g1426331 rh0 rfl).trans ((fm_R g1426322 rh0 rfl).trans m1426317)) (by omega) (by omega) _ _ _ hW hF (lv_sub hl [0, 1, 2, 3, 4, 5, 6] rfl)
                    · refine lv_iconst (v := 1) hx hb dX0_anyHolds_88 (by decide) ?_
                      exact e_Z E hW rfl (by decide) ⟨⟨_, rfl, (by have hk : (1 : Int32).toInt = 1 := rfl; first | decide | omega)⟩, hF⟩ dX0_anyHolds_89
          have hk1426337 : (0 : Int32).toInt = 0 := rfl
          exact L1426300 13 f1425776 0 m1425784 m1425791 m1425788 (by decide) (by omega) _ _ _ hW hF (lv_sub hl [0, 1, 2, 3, 4, 5, 6] rfl)
  have hk1426338 : (0 : Int32).toInt = 0 := rfl
  exact L1425779 21 f0 0 (by decide) (by omega) _ _ _ hW hF (lv_sub hl [0, 1, 2, 3, 4] rfl)
def ms_X0_clauseHolds : List (Nat × Nat) := [(115, 0)]
def po_X0_clauseHolds (kp : Nat → Nat) (L : List Nat) (f0 : Nat → va_E) (h0 : Nat) (u1 : Int32) (u2 : Int32) (u3 : Int32) (u4 : Int32) : Option Value → (Nat → va_E) → Prop := fun v f => (∃ r : Int32, v = some (.int r) ∧ ((0 : Int) ≤ r.toInt ∧ r.toInt ≤ 1)) ∧ FM kp L ms_X0_clauseHolds f0 f
set_option maxHeartbeats 4000000 in
set_option maxRecDepth 100000 in
theorem c_X0_clauseHolds (l : Launch) (G : va_G) (cI cJ cZ cD cR cT : ClassId) (kp : Nat → Nat) (L : List Nat) (f0 : Nat → va_E) (hTH : TH cI cJ cZ cD cR cT kp L f0) (sz : Nat) (h0 : Nat) (u1 : Int32) (u2 : Int32) (u3 : Int32) (u4 : Int32) (rh0 : RK kp L h0 0) (pu1 : (0 : Int) ≤ u1.toInt ∧ u1.toInt ≤ 19) (pu2 : (0 : Int) ≤ u2.toInt ∧ u2.toInt ≤ 11) (pu3 : (-1 : Int) ≤ u3.toInt ∧ u3.toInt ≤ 39) (pu4 : (-1 : Int) ≤ u4.toInt ∧ u4.toInt ≤ 39) (hcl : ∀ T : Nat, aQ (f0 (oR (f0 (oR (f0 h0) 4)) 1)) u1.toNatClampNeg = some T → u2.toInt < (oI (f0 T) 1).toInt) : Met l yX0_clauseHolds (Cond.code yX0_clauseHolds cX0_clauseHolds 7 (some .boolean) :: wTab) ({ frames := 4, cells := 0, slots := 0, locals := 117 }) (va_Pc [.ref h0, .int u1, .int u2, .int u3, .int u4] (PreW G (tys6 cI cJ cZ cD cR cT) (va_pl L f0) sz)) (QT (po_X0_clauseHolds kp L f0 h0 u1 u2 u3 u4) G cI cJ cZ cD cR cT (va_A (va_pl L f0) sz) kp L) 0 0 (va_A (va_pl L f0) sz) := by
  refine metT (by decide) (Nat.le_of_ble_eq_true rfl) hTH ?_
  intro p e s m below meth c A ls E hW hl
  obtain ⟨hx, hb, -, hml, hown, hts, -, -, -⟩ := id E
  have hF : FM kp L ms_X0_clauseHolds f0 f0 := FM.rf
  have hl : lv_has ls 7 [(0, .ref h0), (1, .int u1), (2, .int u2), (3, .int u3), (4, .int u4)] := hl
  refine lv_aload_n hx hb dX0_clauseHolds_0 rfl (lv_at hl 0 rfl) ?_
  refine fg_RX0_42 E hW rh0 dX0_clauseHolds_1 (fun a1426339 m1426340 r1426341 => ?_)
  refine fg_RX0_287 E hW r1426341 dX0_clauseHolds_4 (fun a1426342 m1426343 r1426344 => ?_)
  refine lv_iload_n hx hb dX0_clauseHolds_7 rfl (lv_at hl 1 rfl) ?_
  refine gl_221 E hW r1426344 ⟨by omega, by omega⟩ dX0_clauseHolds_8 (fun o1426345 m1426347 k1426346 => ?_)
  rcases o1426345 with _ | a1426348
  · have hl : lv_has ls 7 [(0, .ref h0), (1, .int u1), (2, .int u2), (3, .int u3), (4, .int u4)] := hl
    show W p l e ({ frames := 4, cells := 0, slots := 0, locals := 117 }) s m ([.ref h0, .int u1, .int u2, .int u3, .int u4] : List Value).toArray below meth c _ _ 0 0 (MQ below (QT (po_X0_clauseHolds kp L f0 h0 u1 u2 u3 u4) G cI cJ cZ cD cR cT A kp L) ([.ref h0, .int u1, .int u2, .int u3, .int u4] : List Value).toArray s 0 0 A) (F0 m 9 ls [.null])
    refine lv_astoreN (lv' := [(5, .null), (0, .ref h0), (1, .int u1), (2, .int u2), (3, .int u3), (4, .int u4)]) hx hb dX0_clauseHolds_9 hl (by decide) rfl (fun ls hl => ?_)
    refine lv_aloadN hx hb dX0_clauseHolds_11 (lv_at hl 0 rfl) ?_
    refine lv_ifnullN (tgt := 28) hx hb dX0_clauseHolds_13 (by decide) ?_
    refine lv_iconst (v := 0) hx hb dX0_clauseHolds_28 (by decide) ?_
    exact e_Z E hW rfl (by decide) ⟨⟨_, rfl, (by have hk : (0 : Int32).toInt = 0 := rfl; first | decide | omega)⟩, hF⟩ dX0_clauseHolds_29
  · have r1426349 : RK kp L a1426348 9 := k1426346 _ rfl
    have hl : lv_has ls 7 [(0, .ref h0), (1, .int u1), (2, .int u2), (3, .int u3), (4, .int u4)] := hl
    show W p l e ({ frames := 4, cells := 0, slots := 0, locals := 117 }) s m ([.ref h0, .int u1, .int u2, .int u3, .int u4] : List Value).toArray below meth c _ _ 0 0 (MQ below (QT (po_X0_clauseHolds kp L f0 h0 u1 u2 u3 u4) G cI cJ cZ cD cR cT A kp L) ([.ref h0, .int u1, .int u2, .int u3, .int u4] : List Value).toArray s 0 0 A) (F0 m 9 ls [.ref a1426348])
    refine lv_astore (lv' := [(5, .ref a1426348), (0, .ref h0), (1, .int u1), (2, .int u2), (3, .int u3), (4, .int u4)]) hx hb dX0_clauseHolds_9 hl (by decide) rfl (fun ls hl => ?_)
    refine lv_aload hx hb dX0_clauseHolds_11 (lv_at hl 0 rfl) ?_
    refine lv_ifnull hx hb dX0_clauseHolds_13 ?_
    refine lv_aload_n hx hb dX0_clauseHolds_16 rfl (lv_at hl 1 rfl) ?_
    refine fg_RX0_42 E hW rh0 dX0_clauseHolds_17 (fun a1426350 m1426351 r1426352 => ?_)
    obtain rfl : a1426339 = a1426350 := (m1426340).symm.trans m1426351
    refine lv_iload_n hx hb dX0_clauseHolds_20 rfl (lv_at hl 2 rfl) ?_
    refine lv_iload_n hx hb dX0_clauseHolds_21 rfl (lv_at hl 3 rfl) ?_
    refine t_callV (As := [.int u1, .int u2]) (rest := []) E hW (c_X2_isInForce l G cI cJ cZ cD cR cT kp L f0 hW.2.2.2 _ a1426339 u1 u2 r1426341 (by omega) (by omega)) r1426341 (by decide) rfl wk_X2_isInForce tw_716 rfl ⟨Nat.le_of_ble_eq_true rfl, Nat.le_of_ble_eq_true rfl⟩ ⟨rfl, rfl⟩ hl.1 rfl (Nat.le_of_ble_eq_true rfl) dX0_clauseHolds_22 ⟨Nat.le_of_ble_eq_true rfl, Nat.le_of_ble_eq_true rfl⟩ (fun v1426353 f1426354 H locs q1426355 hW => ?_)
    obtain ⟨⟨x1426357, rfl, p1426358⟩, g1426356⟩ := q1426355
    have hF := FM.tr hF g1426356 rfl
    refine q_if_ne (tgt := 30) hx hb dX0_clauseHolds_25 (by decide) rfl (fun c1426359 => ?_) (fun c1426359 => ?_)
    · refine lv_aload hx hb dX0_clauseHolds_30 (lv_at hl 0 rfl) ?_
      refine fg_RX0_296 E hW r1426349 dX0_clauseHolds_32 (fun a1426360 m1426361 r1426362 => ?_)
      refine lv_iload_n hx hb dX0_clauseHolds_35 rfl (lv_at hl 3 rfl) ?_
      refine gl_643 E hW r1426362 ⟨by omega, by omega⟩ dX0_clauseHolds_36 (fun y1426363 m1426364 => ?_)
      refine lv_istore (lv' := [(6, .int y1426363), (5, .ref a1426348), (0, .ref h0), (1, .int u1), (2, .int u2), (3, .int u3), (4, .int u4)]) hx hb dX0_clauseHolds_37 hl (by decide) rfl (fun ls hl => ?_)
      refine lv_iload hx hb dX0_clauseHolds_39 (lv_at hl 0 rfl) ?_
      refine lv_sipush (v := 256) hx hb dX0_clauseHolds_41 (by decide) ?_
      have J1426380 : ∀ (f1426374 : Nat → va_E) (y1426378 : Int32) (m1426375 : oR (f1426374 a1426339) 1 = a1426342) (m1426376 : oR (f1426374 a1426348) 3 = a1426360) (m1426377 : oR (f1426374 h0) 4 = a1426339) (b1426379 : (0 : Int) ≤ y1426378.toInt ∧ y1426378.toInt ≤ 1) (H : Heap) (locs : List Loc) (ls : Array Slot), WS G cI cJ cZ cD cR cT A kp L f1426374 s H locs → FM kp L ms_X0_clauseHolds f0 f1426374 → lv_has ls 7 [(6, .int y1426363), (5, .ref a1426348), (0, .ref h0), (1, .int u1), (2, .int u2), (3, .int u3), (4, .int u4)] → W p l e ({ frames := 4, cells := 0, slots := 0, locals := 117 }) s m ([.ref h0, .int u1, .int u2, .int u3, .int u4] : List Value).toArray below meth c H locs 0 0 (MQ below (QT (po_X0_clauseHolds kp L f0 h0 u1 u2 u3 u4) G cI cJ cZ cD cR cT A kp L) ([.ref h0, .int u1, .int u2, .int u3, .int u4] : List Value).toArray s 0 0 A) (F0 m 77 ls [.int y1426378]) := by
        intro f1426374 y1426378 m1426375 m1426376 m1426377 b1426379 H locs ls hW hF hl
        clear p1426358 c1426359
        exact e_Z E hW rfl (by omega) ⟨⟨_, rfl, (by first | omega | trivial)⟩, hF⟩ dX0_clauseHolds_77
      refine q_icmp_eq (Y := 256) (tgt := 76) hx hb dX0_clauseHolds_44 (by decide) rfl rfl (fun c1426381 => ?_) (fun c1426381 => ?_)
      · refine lv_iconst (v := 0) hx hb dX0_clauseHolds_76 (by decide) ?_
        exact J1426380 f1426354 0 ((fm_R g1426356 r1426341 rfl).trans m1426343) m1426361 ((fm_R g1426356 rh0 rfl).trans m1426351) (by decide) _ _ _ hW hF (lv_sub hl [0, 1, 2, 3, 4, 5, 6] rfl)
      · refine lv_iload hx hb dX0_clauseHolds_47 (lv_at hl 0 rfl) ?_
        refine lv_sipush (v := 258) hx hb dX0_clauseHolds_49 (by decide) ?_
        refine q_icmp_eq (Y := 258) (tgt := 76) hx hb dX0_clauseHolds_52 (by decide) rfl rfl (fun c1426382 => ?_) (fun c1426382 => ?_)
        · refine lv_iconst (v := 0) hx hb dX0_clauseHolds_76 (by decide) ?_
          exact J1426380 f1426354 0 ((fm_R g1426356 r1426341 rfl).trans m1426343) m1426361 ((fm_R g1426356 rh0 rfl).trans m1426351) (by decide) _ _ _ hW hF (lv_sub hl [0, 1, 2, 3, 4, 5, 6] rfl)
        · refine lv_aload_n hx hb dX0_clauseHolds_55 rfl (lv_at hl 2 rfl) ?_
          refine lv_aload hx hb dX0_clauseHolds_56 (lv_at hl 1 rfl) ?_
          refine lv_iload_n hx hb dX0_clauseHolds_58 rfl (lv_at hl 4 rfl) ?_
          refine lv_iload_n hx hb dX0_clauseHolds_59 rfl (lv_at hl 5 rfl) ?_
          refine lv_iload hx hb dX0_clauseHolds_60 (lv_at hl 6 rfl) ?_
          refine t_callV (As := [.ref a1426348, .int u2, .int u3, .int u4]) (rest := []) E hW (c_X0_ask l G cI cJ cZ cD cR cT kp L f1426354 hW.2.2.2 _ h0 a1426348 u2 u3 u4 rh0 r1426349 (by omega) (by omega) (by omega) (by rw [fm_I hF r1426349 rfl]; exact hcl _ (by rw [m1426340, m1426343]; exact m1426347))) rh0 (by decide) rfl wk_X0_ask tw_717 rfl ⟨Nat.le_of_ble_eq_true rfl, Nat.le_of_ble_eq_true rfl⟩ ⟨rfl, rfl⟩ hl.1 rfl (Nat.le_of_ble_eq_true rfl) dX0_clauseHolds_62 ⟨Nat.le_of_ble_eq_true rfl, Nat.le_of_ble_eq_true rfl⟩ (fun v1426383 f1426384 H locs q1426385 hW => ?_)
          obtain ⟨⟨x1426387, rfl, p1426388⟩, g1426386⟩ := q1426385
          clear p1426388
          have hF := FM.tr hF g1426386 rfl
          refine lv_ldc2 (v := (-4000000000000000000)) hx hb hown (hts _ tw_721) dX0_clauseHolds_65 ?_
          refine q_lcmp_eq (Y := -4000000000000000000) (tgt := 76) hx hb dX0_clauseHolds_68 dX0_clauseHolds_69 (by decide) rfl rfl (fun c1426389 => ?_) (fun c1426389 => ?_)
          · refine lv_iconst (v := 0) hx hb dX0_clauseHolds_76 (by decide) ?_
            exact J1426380 f1426384 0 ((fm_R g1426386 r1426341 rfl).trans ((fm_R g1426356 r1426341 rfl).trans m1426343)) ((fm_R g1426386 r1426349 rfl).trans m1426361) ((fm_R g1426386 rh0 rfl).trans ((fm_R g1426356 rh0 rfl).trans m1426351)) (by decide) _ _ _ hW hF (lv_sub hl [0, 1, 2, 3, 4, 5, 6] rfl)
          · refine lv_iconst (v := 1) hx hb dX0_clauseHolds_72 (by decide) ?_
            refine lv_goto (tgt := 77) hx hb dX0_clauseHolds_73 (by decide) ?_
            exact J1426380 f1426384 1 ((fm_R g1426386 r1426341 rfl).trans ((fm_R g1426356 r1426341 rfl).trans m1426343)) ((fm_R g1426386 r1426349 rfl).trans m1426361) ((fm_R g1426386 rh0 rfl).trans ((fm_R g1426356 rh0 rfl).trans m1426351)) (by decide) _ _ _ hW hF (lv_sub hl [0, 1, 2, 3, 4, 5, 6] rfl)
    · refine lv_iconst (v := 0) hx hb dX0_clauseHolds_28 (by decide) ?_
      exact e_Z E hW rfl (by decide) ⟨⟨_, rfl, (by have hk : (0 : Int32).toInt = 0 := rfl; first | decide | omega)⟩, hF⟩ dX0_clauseHolds_29
def ms_X0_fairOf : List (Nat × Nat) := [(115, 0)]
def po_X0_fairOf (kp : Nat → Nat) (L : List Nat) (f0 : Nat → va_E) (h0 : Nat) (u1 : Int32) : Option Value → (Nat → va_E) → Prop := fun v f => (∃ r : Int32, v = some (.int r) ∧ ((0 : Int) ≤ r.toInt)) ∧ FM kp L ms_X0_fairOf f0 f
set_option maxHeartbeats 4000000 in
set_option maxRecDepth 100000 in
theorem c_X0_fairOf (l : Launch) (G : va_G) (cI cJ cZ cD cR cT : ClassId) (kp : Nat → Nat) (L : List Nat) (f0 : Nat → va_E) (hTH : TH cI cJ cZ cD cR cT kp L f0) (sz : Nat) (h0 : Nat) (u1 : Int32) (rh0 : RK kp L h0 0) (pu1 : (0 : Int) ≤ u1.toInt ∧ u1.toInt ≤ 39) : Met l yX0_fairOf (Cond.code yX0_fairOf cX0_fairOf 8 (some .int) :: wTab) ({ frames := 4, cells := 0, slots := 0, locals := 117 }) (va_Pc [.ref h0, .int u1] (PreW G (tys6 cI cJ cZ cD cR cT) (va_pl L f0) sz)) (QT (po_X0_fairOf kp L f0 h0 u1) G cI cJ cZ cD cR cT (va_A (va_pl L f0) sz) kp L) 0 0 (va_A (va_pl L f0) sz) := by
  refine metT (by decide) (Nat.le_of_ble_eq_true rfl) hTH ?_
  intro p e s m below meth c A ls E hW hl
  obtain ⟨hx, hb, -, hml, hown, hts, -, -, -⟩ := id E
  have hF : FM kp L ms_X0_fairOf f0 f0 := FM.rf
  have hl : lv_has ls 8 [(0, .ref h0), (1, .int u1)] := hl
  refine lv_aload_n hx hb dX0_fairOf_0 rfl (lv_at hl 0 rfl) ?_
  refine fg_RX0_21 E hW rh0 dX0_fairOf_1 (fun a1426390 m1426391 r1426392 => ?_)
  refine lv_iload_n hx hb dX0_fairOf_4 rfl (lv_at hl 1 rfl) ?_
  refine t_callV (As := [.int u1]) (rest := []) E hW (c_X1_rentOf l G cI cJ cZ cD cR cT kp L f0 hW.2.2.2 _ a1426390 u1 r1426392 (by omega)) r1426392 (by decide) rfl wk_X1_rentOf tw_709 rfl ⟨Nat.le_of_ble_eq_true rfl, Nat.le_of_ble_eq_true rfl⟩ ⟨rfl, rfl⟩ hl.1 rfl (Nat.le_of_ble_eq_true rfl) dX0_fairOf_5 ⟨Nat.le_of_ble_eq_true rfl, Nat.le_of_ble_eq_true rfl⟩ (fun v1426393 f1426394 H locs q1426395 hW => ?_)
  obtain ⟨⟨x1426397, rfl, p1426398⟩, g1426396⟩ := q1426395
  have hF := FM.tr hF g1426396 rfl
  refine lv_istore_n (lv' := [(2, .int x1426397), (0, .ref h0), (1, .int u1)]) hx hb dX0_fairOf_8 rfl hl (by decide) rfl (fun ls hl => ?_)
  refine lv_aload_n hx hb dX0_fairOf_9 rfl (lv_at hl 1 rfl) ?_
  refine fg_RX0_42 E hW rh0 dX0_fairOf_10 (fun a1426399 m1426400 r1426401 => ?_)
  refine fg_RX0_286 E hW r1426401 dX0_fairOf_13 (fun y1426402 m1426403 b1426404 => ?_)
  refine lv_iconst (v := 1) hx hb dX0_fairOf_16 (by decide) ?_
  refine q_isub (Y := 1) hx hb dX0_fairOf_17 rfl rfl (by omega) (fun x1426405 h1426406 => ?_)
  refine lv_istore_n (lv' := [(3, .int x1426405), (2, .int x1426397), (0, .ref h0), (1, .int u1)]) hx hb dX0_fairOf_18 rfl hl (by decide) rfl (fun ls hl => ?_)
  have L1426570 : ∀ (n : Nat), ∀ (f1426564 : Nat → va_E) (y1426568 : Int32) (m1426565 : oI (f1426564 a1426399) 0 = y1426402) (m1426566 : oR (f1426564 h0) 1 = a1426390) (m1426567 : oR (f1426564 h0) 4 = a1426399) (b1426569 : (-1 : Int) ≤ y1426568.toInt ∧ y1426568.toInt ≤ 19) (hm : y1426568.toInt - (-2 : Int) ≤ n) (H : Heap) (locs : List Loc) (ls : Array Slot), WS G cI cJ cZ cD cR cT A kp L f1426564 s H locs → FM kp L ms_X0_fairOf f0 f1426564 → lv_has ls 8 [(3, .int y1426568), (2, .int x1426397), (0, .ref h0), (1, .int u1)] → W p l e ({ frames := 4, cells := 0, slots := 0, locals := 117 }) s m ([.ref h0, .int u1] : List Value).toArray below meth c H locs 0 0 (MQ below (QT (po_X0_fairOf kp L f0 h0 u1) G cI cJ cZ cD cR cT A kp L) ([.ref h0, .int u1] : List Value).toArray s 0 0 A) (F0 m 19 ls []) := by
    intro n
    induction n with
    | zero =>
      intro f1426564 y1426568 m1426565 m1426566 m1426567 b1426569 hm H locs ls hW hF hl
      have hz := i32_b y1426568
      exfalso; omega
    | succ n ih =>
      intro f1426564 y1426568 m1426565 m1426566 m1426567 b1426569 hm H locs ls hW hF hl
      have ih19 := ih
      refine lv_iload_n hx hb dX0_fairOf_19 rfl (lv_at hl 0 rfl) ?_
      refine q_if_lt (tgt := 141) hx hb dX0_fairOf_20 (by decide) rfl (fun c1426571 => ?_) (fun c1426571 => ?_)
      · refine lv_iload_n hx hb dX0_fairOf_141 rfl (lv_at hl 1 rfl) ?_
        exact e_I E hW rfl ⟨⟨_, rfl, (by first | omega | trivial)⟩, hF⟩ dX0_fairOf_142
      · refine lv_aload_n hx hb dX0_fairOf_23 rfl (lv_at hl 2 rfl) ?_
        refine fg_RX0_42 E hW rh0 dX0_fairOf_24 (fun a1426572 m1426573 r1426574 => ?_)
        obtain rfl : a1426399 = a1426572 := (m1426567).symm.trans m1426573
        refine fg_RX0_287 E hW r1426401 dX0_fairOf_27 (fun a1426575 m1426576 r1426577 => ?_)
        refine lv_iload_n hx hb dX0_fairOf_30 rfl (lv_at hl 0 rfl) ?_
        refine gl_221 E hW r1426577 ⟨by omega, by omega⟩ dX0_fairOf_31 (fun o1426578 m1426580 k1426579 => ?_)
        rcases o1426578 with _ | a1426581
        · have hl : lv_has ls 8 [(3, .int y1426568), (2, .int x1426397), (0, .ref h0), (1, .int u1)] := hl
          show W p l e ({ frames := 4, cells := 0, slots := 0, locals := 117 }) s m ([.ref h0, .int u1] : List Value).toArray below meth c _ _ 0 0 (MQ below (QT (po_X0_fairOf kp L f0 h0 u1) G cI cJ cZ cD cR cT A kp L) ([.ref h0, .int u1] : List Value).toArray s 0 0 A) (F0 m 32 ls [.null])
          refine lv_astoreN (lv' := [(4, .null), (3, .int y1426568), (2, .int x1426397), (0, .ref h0), (1, .int u1)]) hx hb dX0_fairOf_32 hl (by decide) rfl (fun ls hl => ?_)
          refine lv_aloadN hx hb dX0_fairOf_34 (lv_at hl 0 rfl) ?_
          refine lv_ifnonnullN hx hb dX0_fairOf_36 ?_
          refine lv_iconst (v := (-1)) hx hb dX0_fairOf_39 (by decide) ?_
          refine lv_goto (tgt := 50) hx hb dX0_fairOf_40 (by decide) ?_
          refine lv_istore (lv' := [(5, .int (-1)), (4, .null), (3, .int y1426568), (2, .int x1426397), (0, .ref h0), (1, .int u1)]) hx hb dX0_fairOf_50 hl (by decide) rfl (fun ls hl => ?_)
          have L1426598 : ∀ (n : Nat), ∀ (f1426591 : Nat → va_E) (y1426596 : Int32) (m1426592 : oI (f1426591 a1426399) 0 = y1426402) (m1426593 : oR (f1426591 a1426399) 1 = a1426575) (m1426594 : oR (f1426591 h0) 1 = a1426390) (m1426595 : oR (f1426591 h0) 4 = a1426399) (b1426597 : (-1 : Int) ≤ y1426596.toInt ∧ y1426596.toInt ≤ -1) (hm : (1 : Int) ≤ n) (H : Heap) (locs : List Loc) (ls : Array Slot), WS G cI cJ cZ cD cR cT A kp L f1426591 s H locs → FM kp L ms_X0_fairOf f0 f1426591 → lv_has ls 8 [(5, .int y1426596), (4, .null), (3, .int y1426568), (2, .int x1426397), (0, .ref h0), (1, .int u1)] → W p l e ({ frames := 4, cells := 0, slots := 0, locals := 117 }) s m ([.ref h0, .int u1] : List Value).toArray below meth c H locs 0 0 (MQ below (QT (po_X0_fairOf kp L f0 h0 u1) G cI cJ cZ cD cR cT A kp L) ([.ref h0, .int u1] : List Value).toArray s 0 0 A) (F0 m 52 ls []) := by
            intro n
            induction n with
            | zero =>
              intro f1426591 y1426596 m1426592 m1426593 m1426594 m1426595 b1426597 hm H locs ls hW hF hl
              exfalso; omega
            | succ n ih =>
              intro f1426591 y1426596 m1426592 m1426593 m1426594 m1426595 b1426597 hm H locs ls hW hF hl
              have ih52 := ih
              refine lv_iload hx hb dX0_fairOf_52 (lv_at hl 0 rfl) ?_
              refine q_if_lt (tgt := 135) hx hb dX0_fairOf_54 (by decide) rfl (fun c1426599 => ?_) (fun c1426599 => ?_)
              · refine q_iinc hx hb dX0_fairOf_135 hl (k := 2) rfl rfl rfl (by omega) (by decide) (fun i1426600 ls h1426601 hl => ?_)
                have hl : lv_has ls 8 [(3, .int i1426600), (5, .int y1426596), (4, .null), (2, .int x1426397), (0, .ref h0), (1, .int u1)] := hl
                refine lv_goto (tgt := 19) hx hb dX0_fairOf_138 (by decide) ?_
                exact ih19 f1426591 i1426600 m1426592 m1426594 m1426595 (by omega) (by omega) _ _ _ hW hF (lv_sub hl [0, 3, 4, 5] rfl)
              · exfalso; omega
          have hk1426602 : ((-1) : Int32).toInt = -1 := rfl
          exact L1426598 1 f1426564 (-1) m1426565 m1426576 m1426566 m1426573 (by decide) (by omega) _ _ _ hW hF (lv_sub hl [0, 1, 2, 3, 4, 5] rfl)
        · have r1426582 : RK kp L a1426581 9 := k1426579 _ rfl
          have hl : lv_has ls 8 [(3, .int y1426568), (2, .int x1426397), (0, .ref h0), (1, .int u1)] := hl
          show W p l e ({ frames := 4, cells := 0, slots := 0, locals := 117 }) s m ([.ref h0, .int u1] : List Value).toArray below meth c _ _ 0 0 (MQ below (QT (po_X0_fairOf kp L f0 h0 u1) G cI cJ cZ cD cR cT A kp L) ([.ref h0, .int u1] : List Value).toArray s 0 0 A) (F0 m 32 ls [.ref a1426581])
          refine lv_astore (lv' := [(4, .ref a1426581), (3, .int y1426568), (2, .int x1426397), (0, .ref h0), (1, .int u1)]) hx hb dX0_fairOf_32 hl (by decide) rfl (fun ls hl => ?_)
          refine lv_aload hx hb dX0_fairOf_34 (lv_at hl 0 rfl) ?_
          refine lv_ifnonnull (tgt := 43) hx hb dX0_fairOf_36 (by decide) ?_
          refine lv_aload hx hb dX0_fairOf_43 (lv_at hl 0 rfl) ?_
          refine fg_RX0_291 E hW r1426582 dX0_fairOf_45 (fun y1426603 m1426604 b1426605 => ?_)
          refine lv_iconst (v := 1) hx hb dX0_fairOf_48 (by decide) ?_
          refine q_isub (Y := 1) hx hb dX0_fairOf_49 rfl rfl (by omega) (fun x1426606 h1426607 => ?_)
          refine lv_istore (lv' := [(5, .int x1426606), (4, .ref a1426581), (3, .int y1426568), (2, .int x1426397), (0, .ref h0), (1, .int u1)]) hx hb dX0_fairOf_50 hl (by decide) rfl (fun ls hl => ?_)
          have L1426672 : ∀ (n : Nat), ∀ (f1426664 : Nat → va_E) (y1426670 : Int32) (m1426665 : oI (f1426664 a1426399) 0 = y1426402) (m1426666 : oR (f1426664 a1426399) 1 = a1426575) (m1426667 : oI (f1426664 a1426581) 1 = y1426603) (m1426668 : oR (f1426664 h0) 1 = a1426390) (m1426669 : oR (f1426664 h0) 4 = a1426399) (b1426671 : (-1 : Int) ≤ y1426670.toInt ∧ y1426670.toInt ≤ 11) (hm : y1426670.toInt - (-2 : Int) ≤ n) (H : Heap) (locs : List Loc) (ls : Array Slot), WS G cI cJ cZ cD cR cT A kp L f1426664 s H locs → FM kp L ms_X0_fairOf f0 f1426664 → lv_has ls 8 [(5, .int y1426670), (4, .ref a1426581), (3, .int y1426568), (2, .int x1426397), (0, .ref h0), (1, .int u1)] → W p l e ({ frames := 4, cells := 0, slots := 0, locals := 117 }) s m ([.ref h0, .int u1] : List Value).toArray below meth c H locs 0 0 (MQ below (QT (po_X0_fairOf kp L f0 h0 u1) G cI cJ cZ cD cR cT A kp L) ([.ref h0, .int u1] : List Value).toArray s 0 0 A) (F0 m 52 ls []) := by
            intro n
            induction n with
            | zero =>
              intro f1426664 y1426670 m1426665 m1426666 m1426667 m1426668 m1426669 b1426671 hm H locs ls hW hF hl
              have hz := i32_b y1426670
              exfalso; omega
            | succ n ih =>
              intro f1426664 y1426670 m1426665 m1426666 m1426667 m1426668 m1426669 b1426671 hm H locs ls hW hF hl
              have ih52 := ih
              refine lv_iload hx hb dX0_fairOf_52 (lv_at hl 0 rfl) ?_
              refine q_if_lt (tgt := 135) hx hb dX0_fairOf_54 (by decide) rfl (fun c1426673 => ?_) (fun c1426673 => ?_)
              · refine q_iinc hx hb dX0_fairOf_135 hl (k := 2) rfl rfl rfl (by omega) (by decide) (fun i1426674 ls h1426675 hl => ?_)
                have hl : lv_has ls 8 [(3, .int i1426674), (5, .int y1426670), (4, .ref a1426581), (2, .int x1426397), (0, .ref h0), (1, .int u1)] := hl
                refine lv_goto (tgt := 19) hx hb dX0_fairOf_138 (by decide) ?_
                exact ih19 f1426664 i1426674 m1426665 m1426668 m1426669 (by omega) (by omega) _ _ _ hW hF (lv_sub hl [0, 3, 4, 5] rfl)
              · refine lv_aload hx hb dX0_fairOf_57 (lv_at hl 1 rfl) ?_
                refine fg_RX0_296 E hW r1426582 dX0_fairOf_59 (fun a1426676 m1426677 r1426678 => ?_)
                refine lv_iload hx hb dX0_fairOf_62 (lv_at hl 0 rfl) ?_
                refine gl_643 E hW r1426678 ⟨by omega, by omega⟩ dX0_fairOf_64 (fun y1426679 m1426680 => ?_)
                refine lv_sipush (v := 260) hx hb dX0_fairOf_65 (by decide) ?_
                refine q_icmp_ne (Y := 260) (tgt := 129) hx hb dX0_fairOf_68 (by decide) rfl rfl (fun c1426682 => ?_) (fun c1426682 => ?_)
                · refine q_iinc hx hb dX0_fairOf_129 hl (k := 0) rfl rfl rfl (by omega) (by decide) (fun i1426683 ls h1426684 hl => ?_)
                  have hl : lv_has ls 8 [(5, .int i1426683), (4, .ref a1426581), (3, .int y1426568), (2, .int x1426397), (0, .ref h0), (1, .int u1)] := hl
                  refine lv_goto (tgt := 52) hx hb dX0_fairOf_132 (by decide) ?_
                  exact ih52 f1426664 i1426683 m1426665 m1426666 m1426667 m1426668 m1426669 (by omega) (by omega) _ _ _ hW hF (lv_sub hl [0, 1, 2, 3, 4, 5] rfl)
                · refine lv_aload_n hx hb dX0_fairOf_71 rfl (lv_at hl 4 rfl) ?_
                  refine fg_RX0_42 E hW rh0 dX0_fairOf_72 (fun a1426685 m1426686 r1426687 => ?_)
                  obtain rfl : a1426399 = a1426685 := (m1426669).symm.trans m1426686
                  refine lv_iload_n hx hb dX0_fairOf_75 rfl (lv_at hl 2 rfl) ?_
                  refine lv_iload hx hb dX0_fairOf_76 (lv_at hl 0 rfl) ?_
                  refine t_callV (As := [.int y1426568, .int y1426670]) (rest := []) E hW (c_X2_isInForce l G cI cJ cZ cD cR cT kp L f1426664 hW.2.2.2 _ a1426399 y1426568 y1426670 r1426401 (by omega) (by omega)) r1426401 (by decide) rfl wk_X2_isInForce tw_716 rfl ⟨Nat.le_of_ble_eq_true rfl, Nat.le_of_ble_eq_true rfl⟩ ⟨rfl, rfl⟩ hl.1 rfl (Nat.le_of_ble_eq_true rfl) dX0_fairOf_78 ⟨Nat.le_of_ble_eq_true rfl, Nat.le_of_ble_eq_true rfl⟩ (fun v1426688 f1426689 H locs q1426690 hW => ?_)
                  obtain ⟨⟨x1426692, rfl, p1426693⟩, g1426691⟩ := q1426690
                  have hF := FM.tr hF g1426691 rfl
                  refine q_if_ne (tgt := 87) hx hb dX0_fairOf_81 (by decide) rfl (fun c1426694 => ?_) (fun c1426694 => ?_)
                  · refine lv_aload_n hx hb dX0_fairOf_87 rfl (lv_at hl 4 rfl) ?_
                    refine lv_aload hx hb dX0_fairOf_88 (lv_at hl 1 rfl) ?_
                    refine lv_iload hx hb dX0_fairOf_90 (lv_at hl 0 rfl) ?_
                    refine lv_aload_n hx hb dX0_fairOf_92 rfl (lv_at hl 4 rfl) ?_
                    refine fg_RX0_21 E hW rh0 dX0_fairOf_93 (fun a1426695 m1426696 r1426697 => ?_)
                    obtain rfl : a1426390 = a1426695 := (((fm_R g1426691 rh0 rfl).trans m1426668)).symm.trans m1426696
                    refine fg_RX0_124 E hW r1426392 dX0_fairOf_96 (fun a1426698 m1426699 r1426700 => ?_)
                    refine lv_iload_n hx hb dX0_fairOf_99 rfl (lv_at hl 5 rfl) ?_
                    refine gl_164 E hW r1426700 ⟨by omega, by omega⟩ dX0_fairOf_100 (fun y1426701 m1426702 b1426703 => ?_)
                    refine lv_iload_n hx hb dX0_fairOf_101 rfl (lv_at hl 5 rfl) ?_
                    refine t_callV (As := [.ref a1426581, .int y1426670, .int y1426701, .int u1]) (rest := []) E hW (c_X0_ask l G cI cJ cZ cD cR cT kp L f1426689 hW.2.2.2 _ h0 a1426581 y1426670 y1426701 u1 rh0 r1426582 (by omega) (by omega) (by omega) (by rw [((fm_I g1426691 r1426582 rfl).trans m1426667)]; omega)) rh0 (by decide) rfl wk_X0_ask tw_717 rfl ⟨Nat.le_of_ble_eq_true rfl, Nat.le_of_ble_eq_true rfl⟩ ⟨rfl, rfl⟩ hl.1 rfl (Nat.le_of_ble_eq_true rfl) dX0_fairOf_102 ⟨Nat.le_of_ble_eq_true rfl, Nat.le_of_ble_eq_true rfl⟩ (fun v1426704 f1426705 H locs q1426706 hW => ?_)
                    obtain ⟨⟨x1426708, rfl, p1426709⟩, g1426707⟩ := q1426706
                    clear p1426709
                    have hF := FM.tr hF g1426707 rfl
                    refine lv_lstore (lv' := [(6, .long x1426708), (5, .int y1426670), (4, .ref a1426581), (3, .int y1426568), (2, .int x1426397), (0, .ref h0), (1, .int u1)]) hx hb dX0_fairOf_105 hl (by decide) rfl (fun ls hl => ?_)
                    refine lv_lload hx hb dX0_fairOf_107 (lv_at hl 0 rfl) ?_
                    refine lv_ldc2 (v := (-4000000000000000000)) hx hb hown (hts _ tw_721) dX0_fairOf_109 ?_
                    refine q_lcmp_eq (Y := -4000000000000000000) (tgt := 129) hx hb dX0_fairOf_112 dX0_fairOf_113 (by decide) rfl rfl (fun c1426710 => ?_) (fun c1426710 => ?_)
                    · refine q_iinc hx hb dX0_fairOf_129 hl (k := 1) rfl rfl rfl (by omega) (by decide) (fun i1426711 ls h1426712 hl => ?_)
                      have hl : lv_has ls 8 [(5, .int i1426711), (6, .long x1426708), (4, .ref a1426581), (3, .int y1426568), (2, .int x1426397), (0, .ref h0), (1, .int u1)] := hl
                      refine lv_goto (tgt := 52) hx hb dX0_fairOf_132 (by decide) ?_
                      exact ih52 f1426705 i1426711 ((fm_I g1426707 r1426401 rfl).trans ((fm_I g1426691 r1426401 rfl).trans m1426665)) ((fm_R g1426707 r1426401 rfl).trans ((fm_R g1426691 r1426401 rfl).trans m1426666)) ((fm_I g1426707 r1426582 rfl).trans ((fm_I g1426691 r1426582 rfl).trans m1426667)) ((fm_R g1426707 rh0 rfl).trans m1426696) ((fm_R g1426707 rh0 rfl).trans ((fm_R g1426691 rh0 rfl).trans m1426686)) (by omega) (by omega) _ _ _ hW hF (lv_sub hl [0, 2, 3, 4, 5, 6] rfl)
                    · refine lv_lconst (v := 0) hx hb dX0_fairOf_116 (by decide) ?_
                      refine lv_lload hx hb dX0_fairOf_117 (lv_at hl 0 rfl) ?_
                      refine lv_iload_n hx hb dX0_fairOf_119 rfl (lv_at hl 4 rfl) ?_
                      refine q_i2l hx hb dX0_fairOf_120 rfl (fun x1426713 h1426714 => ?_)
                      refine t_min_long (own := RX0) E tw_742 ⟨tw_743, tw_115, tw_744⟩ hl.1 ⟨Nat.le_of_ble_eq_true rfl, Nat.le_of_ble_eq_true rfl⟩ ⟨Nat.le_of_ble_eq_true rfl, Nat.le_of_ble_eq_true rfl⟩ rfl rfl dX0_fairOf_121 (fun x1426715 h1426716 => ?_)
                      refine t_max_long (X := 0) (own := RX0) E tw_745 ⟨tw_746, tw_115, tw_747⟩ hl.1 ⟨Nat.le_of_ble_eq_true rfl, Nat.le_of_ble_eq_true rfl⟩ ⟨Nat.le_of_ble_eq_true rfl, Nat.le_of_ble_eq_true rfl⟩ rfl rfl dX0_fairOf_124 (fun x1426717 h1426718 => ?_)
                      refine q_l2i hx hb dX0_fairOf_127 rfl (by omega) (fun x1426719 h1426720 => ?_)
                      exact e_I E hW rfl ⟨⟨_, rfl, (by first | omega | trivial)⟩, hF⟩ dX0_fairOf_128
                  · refine lv_goto (tgt := 129) hx hb dX0_fairOf_84 (by decide) ?_
                    refine q_iinc hx hb dX0_fairOf_129 hl (k := 0) rfl rfl rfl (by omega) (by decide) (fun i1426721 ls h1426722 hl => ?_)
                    have hl : lv_has ls 8 [(5, .int i1426721), (4, .ref a1426581), (3, .int y1426568), (2, .int x1426397), (0, .ref h0), (1, .int u1)] := hl
                    refine lv_goto (tgt := 52) hx hb dX0_fairOf_132 (by decide) ?_
                    exact ih52 f1426689 i1426721 ((fm_I g1426691 r1426401 rfl).trans m1426665) ((fm_R g1426691 r1426401 rfl).trans m1426666) ((fm_I g1426691 r1426582 rfl).trans m1426667) ((fm_R g1426691 rh0 rfl).trans m1426668) ((fm_R g1426691 rh0 rfl).trans m1426686) (by omega) (by omega) _ _ _ hW hF (lv_sub hl [0, 1, 2, 3, 4, 5] rfl)
          exact L1426672 13 f1426564 x1426606 m1426565 m1426576 m1426604 m1426566 m1426573 (by omega) (by omega) _ _ _ hW hF (lv_sub hl [0, 1, 2, 3, 4, 5] rfl)
  exact L1426570 21 f1426394 x1426405 m1426403 ((fm_R g1426396 rh0 rfl).trans m1426391) m1426400 (by omega) (by omega) _ _ _ hW hF (lv_sub hl [0, 1, 2, 3] rfl)
def ms_X0_pay : List (Nat × Nat) := [(342, 0), (345, 0)]
def po_X0_pay (kp : Nat → Nat) (L : List Nat) (f0 : Nat → va_E) (h0 : Nat) (u1 : Int32) (u2 : Int32) : Option Value → (Nat → va_E) → Prop := fun v f => (∃ r : Int32, v = some (.int r) ∧ (True)) ∧ FM kp L ms_X0_pay f0 f
set_option maxHeartbeats 4000000 in
set_option maxRecDepth 100000 in
theorem c_X0_pay (l : Launch) (G : va_G) (cI cJ cZ cD cR cT : ClassId) (kp : Nat → Nat) (L : List Nat) (f0 : Nat → va_E) (hTH : TH cI cJ cZ cD cR cT kp L f0) (sz : Nat) (h0 : Nat) (u1 : Int32) (u2 : Int32) (rh0 : RK kp L h0 0) (pu1 : (0 : Int) ≤ u1.toInt ∧ u1.toInt ≤ 39) : Met l yX0_pay (Cond.code yX0_pay cX0_pay 5 (some .int) :: wTab) ({ frames := 1, cells := 0, slots := 0, locals := 60 }) (va_Pc [.ref h0, .int u1, .int u2] (PreW G (tys6 cI cJ cZ cD cR cT) (va_pl L f0) sz)) (QT (po_X0_pay kp L f0 h0 u1 u2) G cI cJ cZ cD cR cT (va_A (va_pl L f0) sz) kp L) 0 0 (va_A (va_pl L f0) sz) := by
  refine metT (by decide) (Nat.le_of_ble_eq_true rfl) hTH ?_
  intro p e s m below meth c A ls E hW hl
  obtain ⟨hx, hb, -, hml, hown, hts, -, -, -⟩ := id E
  have hF : FM kp L ms_X0_pay f0 f0 := FM.rf
  have hl : lv_has ls 5 [(0, .ref h0), (1, .int u1), (2, .int u2)] := hl
  refine lv_iload_n hx hb dX0_pay_0 rfl (lv_at hl 2 rfl) ?_
  refine lv_aload_n hx hb dX0_pay_1 rfl (lv_at hl 0 rfl) ?_
  refine fg_RX0_12 E hW rh0 dX0_pay_2 (fun a1426723 m1426724 r1426725 => ?_)
  refine fg_RX0_213 E hW r1426725 dX0_pay_5 (fun a1426726 m1426727 r1426728 => ?_)
  refine lv_iload_n hx hb dX0_pay_8 rfl (lv_at hl 1 rfl) ?_
  refine gl_342 E hW r1426728 ⟨by omega, by omega⟩ dX0_pay_9 (fun y1426729 m1426730 => ?_)
  refine u_isub hx hb dX0_pay_10 (fun x1426732 => ?_)
  refine lv_istore_n (lv' := [(3, .int x1426732), (0, .ref h0), (1, .int u1), (2, .int u2)]) hx hb dX0_pay_11 rfl hl (by decide) rfl (fun ls hl => ?_)
  refine lv_iload_n hx hb dX0_pay_12 rfl (lv_at hl 0 rfl) ?_
  have J1426792 : ∀ (f1426789 : Nat → va_E) (m1426790 : oR (f1426789 a1426723) 2 = a1426726) (m1426791 : oR (f1426789 h0) 0 = a1426723) (H : Heap) (locs : List Loc) (ls : Array Slot), WS G cI cJ cZ cD cR cT A kp L f1426789 s H locs → FM kp L ms_X0_pay f0 f1426789 → lv_has ls 5 [(3, .int x1426732), (0, .ref h0), (1, .int u1), (2, .int u2)] → W p l e ({ frames := 1, cells := 0, slots := 0, locals := 60 }) s m ([.ref h0, .int u1, .int u2] : List Value).toArray below meth c H locs 0 0 (MQ below (QT (po_X0_pay kp L f0 h0 u1 u2) G cI cJ cZ cD cR cT A kp L) ([.ref h0, .int u1, .int u2] : List Value).toArray s 0 0 A) (F0 m 83 ls []) := by
    intro f1426789 m1426790 m1426791 H locs ls hW hF hl
    refine lv_iload_n hx hb dX0_pay_83 rfl (lv_at hl 3 rfl) ?_
    refine lv_aload_n hx hb dX0_pay_84 rfl (lv_at hl 1 rfl) ?_
    refine fg_RX0_12 E hW rh0 dX0_pay_85 (fun a1426793 m1426794 r1426795 => ?_)
    obtain rfl : a1426723 = a1426793 := (m1426791).symm.trans m1426794
    refine fg_RX0_213 E hW r1426725 dX0_pay_88 (fun a1426796 m1426797 r1426798 => ?_)
    obtain rfl : a1426726 = a1426796 := (m1426790).symm.trans m1426797
    refine lv_iload_n hx hb dX0_pay_91 rfl (lv_at hl 2 rfl) ?_
    refine gl_342 E hW r1426728 ⟨by omega, by omega⟩ dX0_pay_92 (fun y1426799 m1426800 => ?_)
    refine t_min (own := RX0) E tw_1133 ⟨tw_637, tw_115, tw_638⟩ hl.1 ⟨Nat.le_of_ble_eq_true rfl, Nat.le_of_ble_eq_true rfl⟩ ⟨Nat.le_of_ble_eq_true rfl, Nat.le_of_ble_eq_true rfl⟩ rfl rfl dX0_pay_93 (fun x1426802 h1426803 => ?_)
    refine lv_istore (lv' := [(4, .int x1426802), (3, .int x1426732), (0, .ref h0), (1, .int u1), (2, .int u2)]) hx hb dX0_pay_96 hl (by decide) rfl (fun ls hl => ?_)
    refine lv_aload_n hx hb dX0_pay_98 rfl (lv_at hl 2 rfl) ?_
    refine fg_RX0_12 E hW rh0 dX0_pay_99 (fun a1426804 m1426805 r1426806 => ?_)
    obtain rfl : a1426723 = a1426804 := (m1426794).symm.trans m1426805
    refine fg_RX0_213 E hW r1426725 dX0_pay_102 (fun a1426807 m1426808 r1426809 => ?_)
    obtain rfl : a1426726 = a1426807 := (m1426797).symm.trans m1426808
    refine lv_iload_n hx hb dX0_pay_105 rfl (lv_at hl 3 rfl) ?_
    refine lv_dup2_11 hx hb dX0_pay_106 rfl rfl ?_
    refine gl_342 E hW r1426728 ⟨by omega, by omega⟩ dX0_pay_107 (fun y1426810 m1426811 => ?_)
    obtain rfl : y1426799 = y1426810 := (m1426800).symm.trans m1426811
    refine lv_iload hx hb dX0_pay_108 (lv_at hl 0 rfl) ?_
    refine u_isub hx hb dX0_pay_110 (fun x1426813 => ?_)
    refine gs_342 E hW r1426728 ⟨by omega, by omega⟩ dX0_pay_111 (fun f1426814 H locs e1426815 n1426816 g1426817 hW => ?_)
    have hF := FM.tr hF g1426817 rfl
    refine lv_iload hx hb dX0_pay_112 (lv_at hl 0 rfl) ?_
    exact e_I E hW rfl ⟨⟨_, rfl, trivial⟩, hF⟩ dX0_pay_114
  refine q_if_le (tgt := 83) hx hb dX0_pay_13 (by decide) rfl (fun c1426818 => ?_) (fun c1426818 => ?_)
  · exact J1426792 f0 m1426727 m1426724 _ _ _ hW hF (lv_sub hl [0, 1, 2, 3] rfl)
  · refine lv_aload_n hx hb dX0_pay_16 rfl (lv_at hl 1 rfl) ?_
    refine fg_RX0_121 E hW rh0 dX0_pay_17 (fun y1426819 m1426820 => ?_)
    refine q_if_le (tgt := 83) hx hb dX0_pay_20 (by decide) rfl (fun c1426822 => ?_) (fun c1426822 => ?_)
    · exact J1426792 f0 m1426727 m1426724 _ _ _ hW hF (lv_sub hl [0, 1, 2, 3] rfl)
    · refine lv_iload_n hx hb dX0_pay_23 rfl (lv_at hl 0 rfl) ?_
      refine lv_aload_n hx hb dX0_pay_24 rfl (lv_at hl 1 rfl) ?_
      refine fg_RX0_121 E hW rh0 dX0_pay_25 (fun y1426823 m1426824 => ?_)
      obtain rfl : y1426819 = y1426823 := (m1426820).symm.trans m1426824
      refine u_iadd hx hb dX0_pay_28 (fun x1426826 => ?_)
      refine lv_iconst (v := 1) hx hb dX0_pay_29 (by decide) ?_
      refine u_isub hx hb dX0_pay_30 (fun x1426827 => ?_)
      refine lv_aload_n hx hb dX0_pay_31 rfl (lv_at hl 1 rfl) ?_
      refine fg_RX0_121 E hW rh0 dX0_pay_32 (fun y1426828 m1426829 => ?_)
      obtain rfl : y1426819 = y1426828 := (m1426824).symm.trans m1426829
      refine u_idiv hx hb dX0_pay_35 (by omega) (fun x1426831 => ?_)
      refine lv_aload_n hx hb dX0_pay_36 rfl (lv_at hl 1 rfl) ?_
      refine fg_RX0_12 E hW rh0 dX0_pay_37 (fun a1426832 m1426833 r1426834 => ?_)
      obtain rfl : a1426723 = a1426832 := (m1426724).symm.trans m1426833
      refine fg_RX0_179 E hW r1426725 dX0_pay_40 (fun a1426835 m1426836 r1426837 => ?_)
      refine lv_iload_n hx hb dX0_pay_43 rfl (lv_at hl 2 rfl) ?_
      refine gl_345 E hW r1426837 ⟨by omega, by omega⟩ dX0_pay_44 (fun y1426838 m1426839 => ?_)
      refine t_min (own := RX0) E tw_1133 ⟨tw_637, tw_115, tw_638⟩ hl.1 ⟨Nat.le_of_ble_eq_true rfl, Nat.le_of_ble_eq_true rfl⟩ ⟨Nat.le_of_ble_eq_true rfl, Nat.le_of_ble_eq_true rfl⟩ rfl rfl dX0_pay_45 (fun x1426841 h1426842 => ?_)
      refine lv_istore (lv' := [(4, .int x1426841), (3, .int x1426732), (0, .ref h0), (1, .int u1), (2, .int u2)]) hx hb dX0_pay_48 hl (by decide) rfl (fun ls hl => ?_)
      refine lv_aload_n hx hb dX0_pay_50 rfl (lv_at hl 2 rfl) ?_
      refine fg_RX0_12 E hW rh0 dX0_pay_51 (fun a1426843 m1426844 r1426845 => ?_)
      obtain rfl : a1426723 = a1426843 := (m1426833).symm.trans m1426844
      refine fg_RX0_179 E hW r1426725 dX0_pay_54 (fun a1426846 m1426847 r1426848 => ?_)
      obtain rfl : a1426835 = a1426846 := (m1426836).symm.trans m1426847
      refine lv_iload_n hx hb dX0_pay_57 rfl (lv_at hl 3 rfl) ?_
      refine lv_dup2_11 hx hb dX0_pay_58 rfl rfl ?_
      refine gl_345 E hW r1426837 ⟨by omega, by omega⟩ dX0_pay_59 (fun y1426849 m1426850 => ?_)
      obtain rfl : y1426838 = y1426849 := (m1426839).symm.trans m1426850
      refine lv_iload hx hb dX0_pay_60 (lv_at hl 0 rfl) ?_
      refine u_isub hx hb dX0_pay_62 (fun x1426852 => ?_)
      refine gs_345 E hW r1426837 ⟨by omega, by omega⟩ dX0_pay_63 (fun f1426853 H locs e1426854 n1426855 g1426856 hW => ?_)
      have hF := FM.tr hF g1426856 rfl
      refine lv_aload_n hx hb dX0_pay_64 rfl (lv_at hl 2 rfl) ?_
      refine fg_RX0_12 E hW rh0 dX0_pay_65 (fun a1426857 m1426858 r1426859 => ?_)
      obtain rfl : a1426723 = a1426857 := (((fm_R g1426856 rh0 rfl).trans m1426844)).symm.trans m1426858
      refine fg_RX0_213 E hW r1426725 dX0_pay_68 (fun a1426860 m1426861 r1426862 => ?_)
      obtain rfl : a1426726 = a1426860 := (((fm_R g1426856 r1426725 rfl).trans m1426727)).symm.trans m1426861
      refine lv_iload_n hx hb dX0_pay_71 rfl (lv_at hl 3 rfl) ?_
      refine lv_dup2_11 hx hb dX0_pay_72 rfl rfl ?_
      refine gl_342 E hW r1426728 ⟨by omega, by omega⟩ dX0_pay_73 (fun y1426863 m1426864 => ?_)
      obtain rfl : y1426729 = y1426863 := (((congrArg (fun z => aI z (u1 : Int32).toNatClampNeg) (fm_A g1426856 r1426728 (by decide) rfl)).trans m1426730)).symm.trans m1426864
      refine lv_iload hx hb dX0_pay_74 (lv_at hl 0 rfl) ?_
      refine lv_aload_n hx hb dX0_pay_76 rfl (lv_at hl 2 rfl) ?_
      refine fg_RX0_121 E hW rh0 dX0_pay_77 (fun y1426866 m1426867 => ?_)
      obtain rfl : y1426819 = y1426866 := (((fm_I g1426856 rh0 rfl).trans m1426829)).symm.trans m1426867
      refine u_imul hx hb dX0_pay_80 (fun x1426869 => ?_)
      refine u_iadd hx hb dX0_pay_81 (fun x1426870 => ?_)
      refine gs_342 E hW r1426728 ⟨by omega, by omega⟩ dX0_pay_82 (fun f1426871 H locs e1426872 n1426873 g1426874 hW => ?_)
      have hF := FM.tr hF g1426874 rfl
      exact J1426792 f1426871 ((fm_R g1426874 r1426725 rfl).trans m1426861) ((fm_R g1426874 rh0 rfl).trans m1426858) _ _ _ hW hF (lv_sub hl [1, 2, 3, 4] rfl)
def ms_X0_collectRents : List (Nat × Nat) := [(0, 13), (115, 0), (165, 0), (169, 0), (342, 0), (345, 0)]
def po_X0_collectRents (kp : Nat → Nat) (L : List Nat) (f0 : Nat → va_E) (h0 : Nat) : Option Value → (Nat → va_E) → Prop := fun v f => v = none ∧ FM kp L ms_X0_collectRents f0 f
set_option maxHeartbeats 4000000 in
set_option maxRecDepth 100000 in
theorem c_X0_collectRents (l : Launch) (G : va_G) (cI cJ cZ cD cR cT : ClassId) (kp : Nat → Nat) (L : List Nat) (f0 : Nat → va_E) (hTH : TH cI cJ cZ cD cR cT kp L f0) (sz : Nat) (h0 : Nat) (rh0 : RK kp L h0 0) : Met l yX0_collectRents (Cond.code yX0_collectRents cX0_collectRents 7 none :: wTab) ({ frames := 5, cells := 0, slots := 0, locals := 144 }) (va_Pc [.ref h0] (PreW G (tys6 cI cJ cZ cD cR cT) (va_pl L f0) sz)) (QT (po_X0_collectRents kp L f0 h0) G cI cJ cZ cD cR cT (va_A (va_pl L f0) sz) kp L) 0 0 (va_A (va_pl L f0) sz) := by
  refine metT (by decide) (Nat.le_of_ble_eq_true rfl) hTH ?_
  intro p e s m below meth c A ls E hW hl
  obtain ⟨hx, hb, -, hml, hown, hts, -, -, -⟩ := id E
  have hF : FM kp L ms_X0_collectRents f0 f0 := FM.rf
  have hl : lv_has ls 7 [(0, .ref h0)] := hl
  refine lv_iconst (v := 0) hx hb dX0_collectRents_0 (by decide) ?_
  refine lv_istore_n (lv' := [(1, .int 0), (0, .ref h0)]) hx hb dX0_collectRents_1 rfl hl (by decide) rfl (fun ls hl => ?_)
  have L1432977 : ∀ (n : Nat), ∀ (f1432974 : Nat → va_E) (y1432975 : Int32) (b1432976 : (0 : Int) ≤ y1432975.toInt ∧ y1432975.toInt ≤ 40) (hm : (41 : Int) - y1432975.toInt ≤ n) (H : Heap) (locs : List Loc) (ls : Array Slot), WS G cI cJ cZ cD cR cT A kp L f1432974 s H locs → FM kp L ms_X0_collectRents f0 f1432974 → lv_has ls 7 [(1, .int y1432975), (0, .ref h0)] → W p l e ({ frames := 5, cells := 0, slots := 0, locals := 144 }) s m ([.ref h0] : List Value).toArray below meth c H locs 0 0 (MQ below (QT (po_X0_collectRents kp L f0 h0) G cI cJ cZ cD cR cT A kp L) ([.ref h0] : List Value).toArray s 0 0 A) (F0 m 2 ls []) := by
    intro n
    induction n with
    | zero =>
      intro f1432974 y1432975 b1432976 hm H locs ls hW hF hl
      have hz := i32_b y1432975
      exfalso; omega
    | succ n ih =>
      intro f1432974 y1432975 b1432976 hm H locs ls hW hF hl
      have ih2 := ih
      refine lv_iload_n hx hb dX0_collectRents_2 rfl (lv_at hl 0 rfl) ?_
      refine lv_aload_n hx hb dX0_collectRents_3 rfl (lv_at hl 1 rfl) ?_
      refine fg_RX0_21 E hW rh0 dX0_collectRents_4 (fun a1432978 m1432979 r1432980 => ?_)
      refine fg_RX0_171 E hW r1432980 dX0_collectRents_7 (fun y1432981 m1432982 b1432983 => ?_)
      refine q_icmp_ge (tgt := 181) hx hb dX0_collectRents_10 (by decide) rfl rfl (fun c1433295 => ?_) (fun c1433295 => ?_)
      · exact e_V E hW rfl ⟨rfl, hF⟩ dX0_collectRents_181
      · refine lv_aload_n hx hb dX0_collectRents_13 rfl (lv_at hl 1 rfl) ?_
        refine fg_RX0_21 E hW rh0 dX0_collectRents_14 (fun a1433296 m1433297 r1433298 => ?_)
        obtain rfl : a1432978 = a1433296 := (m1432979).symm.trans m1433297
        refine fg_RX0_124 E hW r1432980 dX0_collectRents_17 (fun a1433299 m1433300 r1433301 => ?_)
        refine lv_iload_n hx hb dX0_collectRents_20 rfl (lv_at hl 0 rfl) ?_
        refine gl_164 E hW r1433301 ⟨by omega, by omega⟩ dX0_collectRents_21 (fun y1433302 m1433303 b1433304 => ?_)
        refine lv_istore_n (lv' := [(2, .int y1433302), (1, .int y1432975), (0, .ref h0)]) hx hb dX0_collectRents_22 rfl hl (by decide) rfl (fun ls hl => ?_)
        refine lv_iload_n hx hb dX0_collectRents_23 rfl (lv_at hl 0 rfl) ?_
        refine lv_iconst (v := (-1)) hx hb dX0_collectRents_24 (by decide) ?_
        have J1433456 : ∀ (f1433452 : Nat → va_E) (m1433453 : oI (f1433452 a1432978) 0 = y1432981) (m1433454 : oR (f1433452 a1432978) 4 = a1433299) (m1433455 : oR (f1433452 h0) 1 = a1432978) (H : Heap) (locs : List Loc) (ls : Array Slot), WS G cI cJ cZ cD cR cT A kp L f1433452 s H locs → FM kp L ms_X0_collectRents f0 f1433452 → lv_has ls 7 [(2, .int y1433302), (1, .int y1432975), (0, .ref h0)] → W p l e ({ frames := 5, cells := 0, slots := 0, locals := 144 }) s m ([.ref h0] : List Value).toArray below meth c H locs 0 0 (MQ below (QT (po_X0_collectRents kp L f0 h0) G cI cJ cZ cD cR cT A kp L) ([.ref h0] : List Value).toArray s 0 0 A) (F0 m 175 ls []) := by
          intro f1433452 m1433453 m1433454 m1433455 H locs ls hW hF hl
          refine q_iinc hx hb dX0_collectRents_175 hl (k := 1) rfl rfl rfl (by omega) (by decide) (fun i1433457 ls h1433458 hl => ?_)
          have hl : lv_has ls 7 [(1, .int i1433457), (2, .int y1433302), (0, .ref h0)] := hl
          refine lv_goto (tgt := 2) hx hb dX0_collectRents_178 (by decide) ?_
          exact ih2 f1433452 i1433457 (by omega) (by omega) _ _ _ hW hF (lv_sub hl [0, 2] rfl)
        refine q_icmp_eq (Y := -1) (tgt := 175) hx hb dX0_collectRents_25 (by decide) rfl rfl (fun c1433459 => ?_) (fun c1433459 => ?_)
        · exact J1433456 f1432974 m1432982 m1433300 m1433297 _ _ _ hW hF (lv_sub hl [0, 1, 2] rfl)
        · refine lv_aload_n hx hb dX0_collectRents_28 rfl (lv_at hl 2 rfl) ?_
          refine fg_RX0_12 E hW rh0 dX0_collectRents_29 (fun a1433460 m1433461 r1433462 => ?_)
          refine fg_RX0_182 E hW r1433462 dX0_collectRents_32 (fun a1433463 m1433464 r1433465 => ?_)
          refine lv_iload_n hx hb dX0_collectRents_35 rfl (lv_at hl 0 rfl) ?_
          refine gl_346 E hW r1433465 ⟨by omega, by omega⟩ dX0_collectRents_36 (fun y1433466 m1433467 => ?_)
          refine q_if_ne (tgt := 175) hx hb dX0_collectRents_37 (by decide) rfl (fun c1433469 => ?_) (fun c1433469 => ?_)
          · exact J1433456 f1432974 m1432982 m1433300 m1433297 _ _ _ hW hF (lv_sub hl [0, 1, 2] rfl)
          · refine lv_aload_n hx hb dX0_collectRents_40 rfl (lv_at hl 2 rfl) ?_
            refine fg_RX0_21 E hW rh0 dX0_collectRents_41 (fun a1433470 m1433471 r1433472 => ?_)
            obtain rfl : a1432978 = a1433470 := (m1433297).symm.trans m1433471
            refine lv_iload_n hx hb dX0_collectRents_44 rfl (lv_at hl 1 rfl) ?_
            refine t_callV (As := [.int y1432975]) (rest := []) E hW (c_X1_rentOf l G cI cJ cZ cD cR cT kp L f1432974 hW.2.2.2 _ a1432978 y1432975 r1432980 (by omega)) r1432980 (by decide) rfl wk_X1_rentOf tw_709 rfl ⟨Nat.le_of_ble_eq_true rfl, Nat.le_of_ble_eq_true rfl⟩ ⟨rfl, rfl⟩ hl.1 rfl (Nat.le_of_ble_eq_true rfl) dX0_collectRents_45 ⟨Nat.le_of_ble_eq_true rfl, Nat.le_of_ble_eq_true rfl⟩ (fun v1433473 f1433474 H locs q1433475 hW => ?_)
            obtain ⟨⟨x1433477, rfl, p1433478⟩, g1433476⟩ := q1433475
            have hF := FM.tr hF g1433476 rfl
            refine lv_aload_n hx hb dX0_collectRents_48 rfl (lv_at hl 2 rfl) ?_
            refine fg_RX0_21 E hW rh0 dX0_collectRents_49 (fun a1433479 m1433480 r1433481 => ?_)
            obtain rfl : a1432978 = a1433479 := (((fm_R g1433476 rh0 rfl).trans m1433471)).symm.trans m1433480
            refine fg_RX0_188 E hW r1432980 dX0_collectRents_52 (fun a1433482 m1433483 r1433484 => ?_)
            refine lv_iload_n hx hb dX0_collectRents_55 rfl (lv_at hl 1 rfl) ?_
            refine gl_165 E hW r1433484 ⟨by omega, by omega⟩ dX0_collectRents_56 (fun y1433485 m1433486 => ?_)
            refine u_iadd hx hb dX0_collectRents_57 (fun x1433488 => ?_)
            refine lv_istore_n (lv' := [(3, .int x1433488), (2, .int y1433302), (1, .int y1432975), (0, .ref h0)]) hx hb dX0_collectRents_58 rfl hl (by decide) rfl (fun ls hl => ?_)
            refine lv_aload_n hx hb dX0_collectRents_59 rfl (lv_at hl 3 rfl) ?_
            refine fg_RX0_53 E hW rh0 dX0_collectRents_60 (fun a1433489 m1433490 r1433491 => ?_)
            refine lv_iload_n hx hb dX0_collectRents_63 rfl (lv_at hl 2 rfl) ?_
            refine gl_108 E hW r1433491 ⟨by omega, by omega⟩ dX0_collectRents_64 (fun y1433492 m1433493 => ?_)
            refine lv_iconst (v := (-1)) hx hb dX0_collectRents_65 (by decide) ?_
            have J1433518 : ∀ (f1433508 : Nat → va_E) (y1433516 : Int32) (m1433509 : oI (f1433508 a1432978) 0 = y1432981) (m1433510 : oR (f1433508 a1432978) 4 = a1433299) (m1433511 : oR (f1433508 a1432978) 5 = a1433482) (m1433512 : oR (f1433508 a1433460) 6 = a1433463) (m1433513 : oR (f1433508 h0) 0 = a1433460) (m1433514 : oR (f1433508 h0) 1 = a1432978) (m1433515 : oR (f1433508 h0) 8 = a1433489) (b1433517 : (0 : Int) ≤ y1433516.toInt ∧ y1433516.toInt ≤ 1) (H : Heap) (locs : List Loc) (ls : Array Slot), WS G cI cJ cZ cD cR cT A kp L f1433508 s H locs → FM kp L ms_X0_collectRents f0 f1433508 → lv_has ls 7 [(3, .int x1433488), (2, .int y1433302), (1, .int y1432975), (0, .ref h0)] → W p l e ({ frames := 5, cells := 0, slots := 0, locals := 144 }) s m ([.ref h0] : List Value).toArray below meth c H locs 0 0 (MQ below (QT (po_X0_collectRents kp L f0 h0) G cI cJ cZ cD cR cT A kp L) ([.ref h0] : List Value).toArray s 0 0 A) (F0 m 96 ls [.int y1433516]) := by
              intro f1433508 y1433516 m1433509 m1433510 m1433511 m1433512 m1433513 m1433514 m1433515 b1433517 H locs ls hW hF hl
              clear c1433469 p1433478
              refine lv_istore (lv' := [(4, .int y1433516), (3, .int x1433488), (2, .int y1433302), (1, .int y1432975), (0, .ref h0)]) hx hb dX0_collectRents_96 hl (by decide) rfl (fun ls hl => ?_)
              refine lv_iload hx hb dX0_collectRents_98 (lv_at hl 0 rfl) ?_
              have J1433534 : ∀ (f1433525 : Nat → va_E) (y1433533 : Int32) (m1433526 : oI (f1433525 a1432978) 0 = y1432981) (m1433527 : oR (f1433525 a1432978) 4 = a1433299) (m1433528 : oR (f1433525 a1432978) 5 = a1433482) (m1433529 : oR (f1433525 a1433460) 6 = a1433463) (m1433530 : oR (f1433525 h0) 0 = a1433460) (m1433531 : oR (f1433525 h0) 1 = a1432978) (m1433532 : oR (f1433525 h0) 8 = a1433489) (H : Heap) (locs : List Loc) (ls : Array Slot), WS G cI cJ cZ cD cR cT A kp L f1433525 s H locs → FM kp L ms_X0_collectRents f0 f1433525 → lv_has ls 7 [(4, .int y1433516), (3, .int x1433488), (2, .int y1433302), (1, .int y1432975), (0, .ref h0)] → W p l e ({ frames := 5, cells := 0, slots := 0, locals := 144 }) s m ([.ref h0] : List Value).toArray below meth c H locs 0 0 (MQ below (QT (po_X0_collectRents kp L f0 h0) G cI cJ cZ cD cR cT A kp L) ([.ref h0] : List Value).toArray s 0 0 A) (F0 m 112 ls [.int y1433533]) := by
                intro f1433525 y1433533 m1433526 m1433527 m1433528 m1433529 m1433530 m1433531 m1433532 H locs ls hW hF hl
                refine lv_istore (lv' := [(5, .int y1433533), (4, .int y1433516), (3, .int x1433488), (2, .int y1433302), (1, .int y1432975), (0, .ref h0)]) hx hb dX0_collectRents_112 hl (by decide) rfl (fun ls hl => ?_)
                refine lv_aload_n hx hb dX0_collectRents_114 rfl (lv_at hl 5 rfl) ?_
                refine lv_iload_n hx hb dX0_collectRents_115 rfl (lv_at hl 3 rfl) ?_
                refine lv_iload hx hb dX0_collectRents_116 (lv_at hl 0 rfl) ?_
                refine t_callV (As := [.int y1433302, .int y1433533]) (rest := []) E hW (c_X0_pay l G cI cJ cZ cD cR cT kp L f1433525 hW.2.2.2 _ h0 y1433302 y1433533 rh0 (by omega)) rh0 (by decide) rfl wk_X0_pay tw_1129 rfl ⟨Nat.le_of_ble_eq_true rfl, Nat.le_of_ble_eq_true rfl⟩ ⟨rfl, rfl⟩ hl.1 rfl (Nat.le_of_ble_eq_true rfl) dX0_collectRents_118 ⟨Nat.le_of_ble_eq_true rfl, Nat.le_of_ble_eq_true rfl⟩ (fun v1433535 f1433536 H locs q1433537 hW => ?_)
                obtain ⟨⟨x1433539, rfl, p1433540⟩, g1433538⟩ := q1433537
                clear p1433540
                have hF := FM.tr hF g1433538 rfl
                refine lv_istore (lv' := [(6, .int x1433539), (5, .int y1433533), (4, .int y1433516), (3, .int x1433488), (2, .int y1433302), (1, .int y1432975), (0, .ref h0)]) hx hb dX0_collectRents_121 hl (by decide) rfl (fun ls hl => ?_)
                refine lv_aload_n hx hb dX0_collectRents_123 rfl (lv_at hl 6 rfl) ?_
                refine fg_RX0_21 E hW rh0 dX0_collectRents_124 (fun a1433541 m1433542 r1433543 => ?_)
                obtain rfl : a1432978 = a1433541 := (((fm_R g1433538 rh0 rfl).trans m1433531)).symm.trans m1433542
                refine fg_RX0_201 E hW r1432980 dX0_collectRents_127 (fun a1433544 m1433545 r1433546 => ?_)
                refine lv_aload_n hx hb dX0_collectRents_130 rfl (lv_at hl 6 rfl) ?_
                refine fg_RX0_21 E hW rh0 dX0_collectRents_131 (fun a1433547 m1433548 r1433549 => ?_)
                obtain rfl : a1432978 = a1433547 := (m1433542).symm.trans m1433548
                refine fg_RX0_204 E hW r1432980 dX0_collectRents_134 (fun a1433550 m1433551 r1433552 => ?_)
                refine lv_iload_n hx hb dX0_collectRents_137 rfl (lv_at hl 5 rfl) ?_
                refine gl_161 E hW r1433552 ⟨by omega, by omega⟩ dX0_collectRents_138 (fun y1433553 m1433554 b1433555 => ?_)
                refine lv_dup2_11 hx hb dX0_collectRents_139 rfl rfl ?_
                refine gl_169 E hW r1433546 ⟨by omega, by omega⟩ dX0_collectRents_140 (fun y1433556 m1433557 => ?_)
                refine lv_iload hx hb dX0_collectRents_141 (lv_at hl 0 rfl) ?_
                refine u_iadd hx hb dX0_collectRents_143 (fun x1433559 => ?_)
                refine gs_169 E hW r1433546 ⟨by omega, by omega⟩ dX0_collectRents_144 (fun f1433560 H locs e1433561 n1433562 g1433563 hW => ?_)
                have hF := FM.tr hF g1433563 rfl
                refine lv_aload_n hx hb dX0_collectRents_145 rfl (lv_at hl 6 rfl) ?_
                refine lv_dup hx hb dX0_collectRents_146 rfl ?_
                refine fg_RX0_103 E hW rh0 dX0_collectRents_147 (fun y1433564 m1433565 => ?_)
                refine lv_iload hx hb dX0_collectRents_150 (lv_at hl 0 rfl) ?_
                refine q_i2l hx hb dX0_collectRents_152 rfl (fun x1433566 h1433567 => ?_)
                refine u_ladd hx hb dX0_collectRents_153 (fun x1433568 => ?_)
                refine fp_RX0_103 E hW rh0 dX0_collectRents_154 (fun f1433569 H locs e1433570 n1433571 g1433572 hW => ?_)
                have hF := FM.tr hF g1433572 rfl
                refine lv_aload_n hx hb dX0_collectRents_157 rfl (lv_at hl 6 rfl) ?_
                refine fg_RX0_21 E hW rh0 dX0_collectRents_158 (fun a1433573 m1433574 r1433575 => ?_)
                obtain rfl : a1432978 = a1433573 := (((fm_R g1433572 rh0 rfl).trans ((fm_R g1433563 rh0 rfl).trans m1433548))).symm.trans m1433574
                refine fg_RX0_188 E hW r1432980 dX0_collectRents_161 (fun a1433576 m1433577 r1433578 => ?_)
                obtain rfl : a1433482 = a1433576 := (((fm_R g1433572 r1432980 rfl).trans ((fm_R g1433563 r1432980 rfl).trans ((fm_R g1433538 r1432980 rfl).trans m1433528)))).symm.trans m1433577
                refine lv_iload_n hx hb dX0_collectRents_164 rfl (lv_at hl 5 rfl) ?_
                refine lv_iload_n hx hb dX0_collectRents_165 rfl (lv_at hl 3 rfl) ?_
                refine lv_iload hx hb dX0_collectRents_166 (lv_at hl 0 rfl) ?_
                refine u_isub hx hb dX0_collectRents_168 (fun x1433579 => ?_)
                refine lv_ldc (v := 10000000) hx hb hown (hts _ tw_1134) dX0_collectRents_169 ?_
                refine t_min (Y := 10000000) (own := RX0) E tw_1133 ⟨tw_637, tw_115, tw_638⟩ hl.1 ⟨Nat.le_of_ble_eq_true rfl, Nat.le_of_ble_eq_true rfl⟩ ⟨Nat.le_of_ble_eq_true rfl, Nat.le_of_ble_eq_true rfl⟩ rfl rfl dX0_collectRents_171 (fun x1433580 h1433581 => ?_)
                refine gs_165 E hW r1433484 ⟨by omega, by omega⟩ dX0_collectRents_174 (fun f1433582 H locs e1433583 n1433584 g1433585 hW => ?_)
                have hF := FM.tr hF g1433585 rfl
                exact J1433456 f1433582 ((fm_I g1433585 r1432980 rfl).trans ((fm_I g1433572 r1432980 rfl).trans ((fm_I g1433563 r1432980 rfl).trans ((fm_I g1433538 r1432980 rfl).trans m1433526)))) ((fm_R g1433585 r1432980 rfl).trans ((fm_R g1433572 r1432980 rfl).trans ((fm_R g1433563 r1432980 rfl).trans ((fm_R g1433538 r1432980 rfl).trans m1433527)))) ((fm_R g1433585 rh0 rfl).trans m1433574) _ _ _ hW hF (lv_sub hl [4, 5, 6] rfl)
              refine q_if_eq (tgt := 111) hx hb dX0_collectRents_100 (by decide) rfl (fun c1433586 => ?_) (fun c1433586 => ?_)
              · refine lv_iload_n hx hb dX0_collectRents_111 rfl (lv_at hl 1 rfl) ?_
                exact J1433534 f1433508 x1433488 m1433509 m1433510 m1433511 m1433512 m1433513 m1433514 m1433515 _ _ _ hW hF (lv_sub hl [0, 1, 2, 3, 4] rfl)
              · refine lv_aload_n hx hb dX0_collectRents_103 rfl (lv_at hl 4 rfl) ?_
                refine lv_iload_n hx hb dX0_collectRents_104 rfl (lv_at hl 3 rfl) ?_
                refine t_callV (As := [.int y1432975]) (rest := []) E hW (c_X0_fairOf l G cI cJ cZ cD cR cT kp L f1433508 hW.2.2.2 _ h0 y1432975 rh0 (by omega)) rh0 (by decide) rfl wk_X0_fairOf tw_1128 rfl ⟨Nat.le_of_ble_eq_true rfl, Nat.le_of_ble_eq_true rfl⟩ ⟨rfl, rfl⟩ hl.1 rfl (Nat.le_of_ble_eq_true rfl) dX0_collectRents_105 ⟨Nat.le_of_ble_eq_true rfl, Nat.le_of_ble_eq_true rfl⟩ (fun v1433587 f1433588 H locs q1433589 hW => ?_)
                obtain ⟨⟨x1433591, rfl, p1433592⟩, g1433590⟩ := q1433589
                have hF := FM.tr hF g1433590 rfl
                refine lv_goto (tgt := 112) hx hb dX0_collectRents_108 (by decide) ?_
                exact J1433534 f1433588 x1433591 ((fm_I g1433590 r1432980 rfl).trans m1433509) ((fm_R g1433590 r1432980 rfl).trans m1433510) ((fm_R g1433590 r1432980 rfl).trans m1433511) ((fm_R g1433590 r1433462 rfl).trans m1433512) ((fm_R g1433590 rh0 rfl).trans m1433513) ((fm_R g1433590 rh0 rfl).trans m1433514) ((fm_R g1433590 rh0 rfl).trans m1433515) _ _ _ hW hF (lv_sub hl [0, 1, 2, 3, 4] rfl)
            refine q_icmp_ne (Y := -1) (tgt := 81) hx hb dX0_collectRents_66 (by decide) rfl rfl (fun c1433593 => ?_) (fun c1433593 => ?_)
            · refine lv_aload_n hx hb dX0_collectRents_81 rfl (lv_at hl 3 rfl) ?_
              refine fg_RX0_53 E hW rh0 dX0_collectRents_82 (fun a1433594 m1433595 r1433596 => ?_)
              obtain rfl : a1433489 = a1433594 := (m1433490).symm.trans m1433595
              refine lv_iload_n hx hb dX0_collectRents_85 rfl (lv_at hl 2 rfl) ?_
              refine gl_108 E hW r1433491 ⟨by omega, by omega⟩ dX0_collectRents_86 (fun y1433597 m1433598 => ?_)
              obtain rfl : y1433492 = y1433597 := (m1433493).symm.trans m1433598
              refine lv_iconst (v := 1) hx hb dX0_collectRents_87 (by decide) ?_
              refine q_icmp_ne (Y := 1) (tgt := 95) hx hb dX0_collectRents_88 (by decide) rfl rfl (fun c1433600 => ?_) (fun c1433600 => ?_)
              · refine lv_iconst (v := 0) hx hb dX0_collectRents_95 (by decide) ?_
                exact J1433518 f1433474 0 ((fm_I g1433476 r1432980 rfl).trans m1432982) ((fm_R g1433476 r1432980 rfl).trans m1433300) m1433483 ((fm_R g1433476 r1433462 rfl).trans m1433464) ((fm_R g1433476 rh0 rfl).trans m1433461) m1433480 m1433595 (by decide) _ _ _ hW hF (lv_sub hl [0, 1, 2, 3] rfl)
              · refine lv_iconst (v := 1) hx hb dX0_collectRents_91 (by decide) ?_
                refine lv_goto (tgt := 96) hx hb dX0_collectRents_92 (by decide) ?_
                exact J1433518 f1433474 1 ((fm_I g1433476 r1432980 rfl).trans m1432982) ((fm_R g1433476 r1432980 rfl).trans m1433300) m1433483 ((fm_R g1433476 r1433462 rfl).trans m1433464) ((fm_R g1433476 rh0 rfl).trans m1433461) m1433480 m1433595 (by decide) _ _ _ hW hF (lv_sub hl [0, 1, 2, 3] rfl)
            · refine lv_aload_n hx hb dX0_collectRents_69 rfl (lv_at hl 3 rfl) ?_
              refine lv_sipush (v := 262) hx hb dX0_collectRents_70 (by decide) ?_
              refine lv_iload_n hx hb dX0_collectRents_73 rfl (lv_at hl 1 rfl) ?_
              refine lv_iload_n hx hb dX0_collectRents_74 rfl (lv_at hl 2 rfl) ?_
              refine t_callV (As := [.int 262, .int y1433302, .int y1432975]) (rest := []) E hW (c_X0_anyHolds l G cI cJ cZ cD cR cT kp L f1433474 hW.2.2.2 _ h0 262 y1433302 y1432975 rh0 (by decide) (by omega) (by omega)) rh0 (by decide) rfl wk_X0_anyHolds tw_752 rfl ⟨Nat.le_of_ble_eq_true rfl, Nat.le_of_ble_eq_true rfl⟩ ⟨rfl, rfl⟩ hl.1 rfl (Nat.le_of_ble_eq_true rfl) dX0_collectRents_75 ⟨Nat.le_of_ble_eq_true rfl, Nat.le_of_ble_eq_true rfl⟩ (fun v1433601 f1433602 H locs q1433603 hW => ?_)
              obtain ⟨⟨x1433605, rfl, p1433606⟩, g1433604⟩ := q1433603
              have p1433606 : (0 : Int) ≤ x1433605.toInt ∧ x1433605.toInt ≤ 1 := p1433606
              have hF := FM.tr hF g1433604 rfl
              refine lv_goto (tgt := 96) hx hb dX0_collectRents_78 (by decide) ?_
              exact J1433518 f1433602 x1433605 ((fm_I g1433604 r1432980 rfl).trans ((fm_I g1433476 r1432980 rfl).trans m1432982)) ((fm_R g1433604 r1432980 rfl).trans ((fm_R g1433476 r1432980 rfl).trans m1433300)) ((fm_R g1433604 r1432980 rfl).trans m1433483) ((fm_R g1433604 r1433462 rfl).trans ((fm_R g1433476 r1433462 rfl).trans m1433464)) ((fm_R g1433604 rh0 rfl).trans ((fm_R g1433476 rh0 rfl).trans m1433461)) ((fm_R g1433604 rh0 rfl).trans m1433480) ((fm_R g1433604 rh0 rfl).trans m1433490) (by omega) _ _ _ hW hF (lv_sub hl [0, 1, 2, 3] rfl)
  have hk1433607 : (0 : Int32).toInt = 0 := rfl
  exact L1432977 41 f0 0 (by decide) (by omega) _ _ _ hW hF (lv_sub hl [0, 1] rfl)
def ms_X0_copyFrom : List (Nat × Nat) := [(0, 6), (0, 9), (0, 12), (0, 13), (1, 0), (1, 8), (1, 12), (1, 13), (1, 14), (2, 0), (3, 0), (3, 1), (3, 2), (3, 3), (4, 0), (10, 0), (10, 7), (108, 0), (161, 0), (162, 0), (163, 0), (164, 0), (165, 0), (166, 0), (167, 0), (169, 0), (170, 0), (171, 0), (221, 0), (284, 0), (285, 0), (341, 0), (342, 0), (343, 0), (344, 0), (345, 0), (346, 0), (347, 0), (348, 0), (520, 0), (521, 0), (701, 0), (702, 0), (703, 0), (704, 0), (705, 0), (706, 0), (708, 0), (709, 0), (710, 0)]
def po_X0_copyFrom (kp : Nat → Nat) (L : List Nat) (f0 : Nat → va_E) (h0 : Nat) (u1 : Nat) : Option Value → (Nat → va_E) → Prop := fun v f => v = none ∧ FM kp L ms_X0_copyFrom f0 f
set_option maxHeartbeats 4000000 in
set_option maxRecDepth 100000 in
theorem c_X0_copyFrom (l : Launch) (G : va_G) (cI cJ cZ cD cR cT : ClassId) (kp : Nat → Nat) (L : List Nat) (f0 : Nat → va_E) (hTH : TH cI cJ cZ cD cR cT kp L f0) (sz : Nat) (h0 : Nat) (u1 : Nat) (rh0 : RK kp L h0 0) (ru1 : RK kp L u1 0) : Met l yX0_copyFrom (Cond.code yX0_copyFrom cX0_copyFrom 2 none :: wTab) ({ frames := 2, cells := 0, slots := 0, locals := 82 }) (va_Pc [.ref h0, .ref u1] (PreW G (tys6 cI cJ cZ cD cR cT) (va_pl L f0) sz)) (QT (po_X0_copyFrom kp L f0 h0 u1) G cI cJ cZ cD cR cT (va_A (va_pl L f0) sz) kp L) 0 0 (va_A (va_pl L f0) sz) := by
  refine metT (by decide) (Nat.le_of_ble_eq_true rfl) hTH ?_
  intro p e s m below meth c A ls E hW hl
  obtain ⟨hx, hb, -, hml, hown, hts, -, -, -⟩ := id E
  have hF : FM kp L ms_X0_copyFrom f0 f0 := FM.rf
  have hl : lv_has ls 2 [(0, .ref h0), (1, .ref u1)] := hl
  refine lv_aload_n hx hb dX0_copyFrom_0 rfl (lv_at hl 0 rfl) ?_
  refine fg_RX0_12 E hW rh0 dX0_copyFrom_1 (fun a1433608 m1433609 r1433610 => ?_)
  refine lv_aload_n hx hb dX0_copyFrom_4 rfl (lv_at hl 1 rfl) ?_
  refine fg_RX0_12 E hW ru1 dX0_copyFrom_5 (fun a1433611 m1433612 r1433613 => ?_)
  refine t_callV (As := [.ref a1433611]) (rest := []) E hW (c_X4_copyFrom l G cI cJ cZ cD cR cT kp L f0 hW.2.2.2 _ a1433608 a1433611 r1433610 r1433613) r1433610 (by decide) rfl wk_X4_copyFrom tw_1289 rfl ⟨Nat.le_of_ble_eq_true rfl, Nat.le_of_ble_eq_true rfl⟩ ⟨rfl, rfl⟩ hl.1 rfl (Nat.le_of_ble_eq_true rfl) dX0_copyFrom_8 ⟨Nat.le_of_ble_eq_true rfl, Nat.le_of_ble_eq_true rfl⟩ (fun v1433614 f1433615 H locs q1433616 hW => ?_)
  obtain ⟨rfl, g1433617⟩ := q1433616
  have hF := FM.tr hF g1433617 rfl
  refine lv_aload_n hx hb dX0_copyFrom_11 rfl (lv_at hl 0 rfl) ?_
  refine fg_RX0_21 E hW rh0 dX0_copyFrom_12 (fun a1433618 m1433619 r1433620 => ?_)
  refine lv_aload_n hx hb dX0_copyFrom_15 rfl (lv_at hl 1 rfl) ?_
  refine fg_RX0_21 E hW ru1 dX0_copyFrom_16 (fun a1433621 m1433622 r1433623 => ?_)
  refine t_callV (As := [.ref a1433621]) (rest := []) E hW (c_X1_copyFrom l G cI cJ cZ cD cR cT kp L f1433615 hW.2.2.2 _ a1433618 a1433621 r1433620 r1433623) r1433620 (by decide) rfl wk_X1_copyFrom tw_1294 rfl ⟨Nat.le_of_ble_eq_true rfl, Nat.le_of_ble_eq_true rfl⟩ ⟨rfl, rfl⟩ hl.1 rfl (Nat.le_of_ble_eq_true rfl) dX0_copyFrom_19 ⟨Nat.le_of_ble_eq_true rfl, Nat.le_of_ble_eq_true rfl⟩ (fun v1433624 f1433625 H locs q1433626 hW => ?_)
  obtain ⟨rfl, g1433627⟩ := q1433626
  have hF := FM.tr hF g1433627 rfl
  refine lv_aload_n hx hb dX0_copyFrom_22 rfl (lv_at hl 0 rfl) ?_
  refine fg_RX0_28 E hW rh0 dX0_copyFrom_23 (fun a1433628 m1433629 r1433630 => ?_)
  refine lv_aload_n hx hb dX0_copyFrom_26 rfl (lv_at hl 1 rfl) ?_
  refine fg_RX0_28 E hW ru1 dX0_copyFrom_27 (fun a1433631 m1433632 r1433633 => ?_)
  refine t_callV (As := [.ref a1433631]) (rest := []) E hW (c_X10_copyFrom l G cI cJ cZ cD cR cT kp L f1433625 hW.2.2.2 _ a1433628 a1433631 r1433630 r1433633) r1433630 (by decide) rfl wk_X10_copyFrom tw_1299 rfl ⟨Nat.le_of_ble_eq_true rfl, Nat.le_of_ble_eq_true rfl⟩ ⟨rfl, rfl⟩ hl.1 rfl (Nat.le_of_ble_eq_true rfl) dX0_copyFrom_30 ⟨Nat.le_of_ble_eq_true rfl, Nat.le_of_ble_eq_true rfl⟩ (fun v1433634 f1433635 H locs q1433636 hW => ?_)
  obtain ⟨rfl, g1433637⟩ := q1433636
  have hF := FM.tr hF g1433637 rfl
  refine lv_aload_n hx hb dX0_copyFrom_33 rfl (lv_at hl 0 rfl) ?_
  refine fg_RX0_35 E hW rh0 dX0_copyFrom_34 (fun a1433638 m1433639 r1433640 => ?_)
  refine lv_aload_n hx hb dX0_copyFrom_37 rfl (lv_at hl 1 rfl) ?_
  refine fg_RX0_35 E hW ru1 dX0_copyFrom_38 (fun a1433641 m1433642 r1433643 => ?_)
  refine t_callV (As := [.ref a1433641]) (rest := []) E hW (c_X7_copyFrom l G cI cJ cZ cD cR cT kp L f1433635 hW.2.2.2 _ a1433638 a1433641 r1433640 r1433643) r1433640 (by decide) rfl wk_X7_copyFrom tw_1304 rfl ⟨Nat.le_of_ble_eq_true rfl, Nat.le_of_ble_eq_true rfl⟩ ⟨rfl, rfl⟩ hl.1 rfl (Nat.le_of_ble_eq_true rfl) dX0_copyFrom_41 ⟨Nat.le_of_ble_eq_true rfl, Nat.le_of_ble_eq_true rfl⟩ (fun v1433644 f1433645 H locs q1433646 hW => ?_)
  obtain ⟨rfl, g1433647⟩ := q1433646
  have hF := FM.tr hF g1433647 rfl
  refine lv_aload_n hx hb dX0_copyFrom_44 rfl (lv_at hl 0 rfl) ?_
  refine fg_RX0_42 E hW rh0 dX0_copyFrom_45 (fun a1433648 m1433649 r1433650 => ?_)
  refine lv_aload_n hx hb dX0_copyFrom_48 rfl (lv_at hl 1 rfl) ?_
  refine fg_RX0_42 E hW ru1 dX0_copyFrom_49 (fun a1433651 m1433652 r1433653 => ?_)
  refine t_callV (As := [.ref a1433651]) (rest := []) E hW (c_X2_copyFrom l G cI cJ cZ cD cR cT kp L f1433645 hW.2.2.2 _ a1433648 a1433651 r1433650 r1433653) r1433650 (by decide) rfl wk_X2_copyFrom tw_1309 rfl ⟨Nat.le_of_ble_eq_true rfl, Nat.le_of_ble_eq_true rfl⟩ ⟨rfl, rfl⟩ hl.1 rfl (Nat.le_of_ble_eq_true rfl) dX0_copyFrom_52 ⟨Nat.le_of_ble_eq_true rfl, Nat.le_of_ble_eq_true rfl⟩ (fun v1433654 f1433655 H locs q1433656 hW => ?_)
  obtain ⟨rfl, g1433657⟩ := q1433656
  have hF := FM.tr hF g1433657 rfl
  refine lv_aload_n hx hb dX0_copyFrom_55 rfl (lv_at hl 0 rfl) ?_
  refine fg_RX0_49 E hW rh0 dX0_copyFrom_56 (fun a1433658 m1433659 r1433660 => ?_)
  refine lv_aload_n hx hb dX0_copyFrom_59 rfl (lv_at hl 1 rfl) ?_
  refine fg_RX0_49 E hW ru1 dX0_copyFrom_60 (fun a1433661 m1433662 r1433663 => ?_)
  refine t_callV (As := [.ref a1433661]) (rest := []) E hW (c_X3_copyFrom l G cI cJ cZ cD cR cT kp L f1433655 hW.2.2.2 _ a1433658 a1433661 r1433660 r1433663) r1433660 (by decide) rfl wk_X3_copyFrom tw_1313 rfl ⟨Nat.le_of_ble_eq_true rfl, Nat.le_of_ble_eq_true rfl⟩ ⟨rfl, rfl⟩ hl.1 rfl (Nat.le_of_ble_eq_true rfl) dX0_copyFrom_63 ⟨Nat.le_of_ble_eq_true rfl, Nat.le_of_ble_eq_true rfl⟩ (fun v1433664 f1433665 H locs q1433666 hW => ?_)
  obtain ⟨rfl, g1433667⟩ := q1433666
  have hF := FM.tr hF g1433667 rfl
  refine lv_aload_n hx hb dX0_copyFrom_66 rfl (lv_at hl 0 rfl) ?_
  refine lv_aload_n hx hb dX0_copyFrom_67 rfl (lv_at hl 1 rfl) ?_
  refine fg_RX0_93 E hW ru1 dX0_copyFrom_68 (fun y1433668 m1433669 b1433670 => ?_)
  refine fp_RX0_93 E hW rh0 (by omega) dX0_copyFrom_71 (fun f1433671 H locs e1433672 n1433673 g1433674 hW => ?_)
  have hF := FM.tr hF g1433674 rfl
  refine lv_aload_n hx hb dX0_copyFrom_74 rfl (lv_at hl 0 rfl) ?_
  refine fg_RX0_53 E hW rh0 dX0_copyFrom_75 (fun a1433675 m1433676 r1433677 => ?_)
  refine lv_iconst (v := (-1)) hx hb dX0_copyFrom_78 (by decide) ?_
  refine t_callS (As := [.ref a1433675, .int (-1)]) (rest := []) E hW (c_fill l G cI cJ cZ cD cR cT kp L f1433671 hW.2.2.2 _ a1433675 (-1) 108 r1433677 (by decide) rfl (by decide) (fun _ _ _ => trivial) (by decide)) wk_J7_fill_53178 tw_390 rfl ⟨Nat.le_of_ble_eq_true rfl, Nat.le_of_ble_eq_true rfl⟩ ⟨rfl, rfl⟩ hl.1 rfl (Nat.le_of_ble_eq_true rfl) dX0_copyFrom_79 ⟨Nat.le_of_ble_eq_true rfl, Nat.le_of_ble_eq_true rfl⟩ (fun v1433681 f1433678 H locs q1433680 hW => ?_)
  obtain ⟨rfl, g1433679⟩ := q1433680
  have hF := FM.tr hF g1433679 rfl
  refine lv_aload_n hx hb dX0_copyFrom_82 rfl (lv_at hl 0 rfl) ?_
  refine lv_iconst (v := 0) hx hb dX0_copyFrom_83 (by decide) ?_
  refine fp_RX0_97 E hW rh0 (by decide) dX0_copyFrom_84 (fun f1433682 H locs e1433683 n1433684 g1433685 hW => ?_)
  have hF := FM.tr hF g1433685 rfl
  refine lv_aload_n hx hb dX0_copyFrom_87 rfl (lv_at hl 0 rfl) ?_
  refine lv_iconst (v := 0) hx hb dX0_copyFrom_88 (by decide) ?_
  refine fp_RX0_100 E hW rh0 dX0_copyFrom_89 (fun f1433686 H locs e1433687 n1433688 g1433689 hW => ?_)
  have hF := FM.tr hF g1433689 rfl
  refine lv_aload_n hx hb dX0_copyFrom_92 rfl (lv_at hl 0 rfl) ?_
  refine lv_lconst (v := 0) hx hb dX0_copyFrom_93 (by decide) ?_
  refine fp_RX0_103 E hW rh0 dX0_copyFrom_94 (fun f1433690 H locs e1433691 n1433692 g1433693 hW => ?_)
  have hF := FM.tr hF g1433693 rfl
  exact e_V E hW rfl ⟨rfl, hF⟩ dX0_copyFrom_97
def ms_X0_drawOf : List (Nat × Nat) := [(115, 0)]
def po_X0_drawOf (kp : Nat → Nat) (L : List Nat) (f0 : Nat → va_E) (h0 : Nat) (u1 : Int32) : Option Value → (Nat → va_E) → Prop := fun v f => (∃ r : Int64, v = some (.long r) ∧ (True)) ∧ FM kp L ms_X0_drawOf f0 f
set_option maxHeartbeats 4000000 in
set_option maxRecDepth 100000 in
theorem c_X0_drawOf (l : Launch) (G : va_G) (cI cJ cZ cD cR cT : ClassId) (kp : Nat → Nat) (L : List Nat) (f0 : Nat → va_E) (hTH : TH cI cJ cZ cD cR cT kp L f0) (sz : Nat) (h0 : Nat) (u1 : Int32) (rh0 : RK kp L h0 0) (pu1 : (0 : Int) ≤ u1.toInt ∧ u1.toInt ≤ 39) : Met l yX0_drawOf (Cond.code yX0_drawOf cX0_drawOf 9 (some .long) :: wTab) ({ frames := 4, cells := 0, slots := 0, locals := 117 }) (va_Pc [.ref h0, .int u1] (PreW G (tys6 cI cJ cZ cD cR cT) (va_pl L f0) sz)) (QT (po_X0_drawOf kp L f0 h0 u1) G cI cJ cZ cD cR cT (va_A (va_pl L f0) sz) kp L) 0 0 (va_A (va_pl L f0) sz) := by
  refine metT (by decide) (Nat.le_of_ble_eq_true rfl) hTH ?_
  intro p e s m below meth c A ls E hW hl
  obtain ⟨hx, hb, -, hml, hown, hts, -, -, -⟩ := id E
  have hF : FM kp L ms_X0_drawOf f0 f0 := FM.rf
  have hl : lv_has ls 9 [(0, .ref h0), (1, .int u1)] := hl
  refine lv_lconst (v := 0) hx hb dX0_drawOf_0 (by decide) ?_
  refine lv_lstore_n (lv' := [(2, .long 0), (0, .ref h0), (1, .int u1)]) hx hb dX0_drawOf_1 rfl hl (by decide) rfl (fun ls hl => ?_)
  refine lv_iconst (v := 0) hx hb dX0_drawOf_2 (by decide) ?_
  refine lv_istore (lv' := [(4, .int 0), (2, .long 0), (0, .ref h0), (1, .int u1)]) hx hb dX0_drawOf_3 hl (by decide) rfl (fun ls hl => ?_)
  have L1449432 : ∀ (n : Nat), ∀ (f1449428 : Nat → va_E) (y1449429 : Int32) (y1449431 : Int64) (b1449430 : (0 : Int) ≤ y1449429.toInt ∧ y1449429.toInt ≤ 20) (hm : (21 : Int) - y1449429.toInt ≤ n) (H : Heap) (locs : List Loc) (ls : Array Slot), WS G cI cJ cZ cD cR cT A kp L f1449428 s H locs → FM kp L ms_X0_drawOf f0 f1449428 → lv_has ls 9 [(4, .int y1449429), (2, .long y1449431), (0, .ref h0), (1, .int u1)] → W p l e ({ frames := 4, cells := 0, slots := 0, locals := 117 }) s m ([.ref h0, .int u1] : List Value).toArray below meth c H locs 0 0 (MQ below (QT (po_X0_drawOf kp L f0 h0 u1) G cI cJ cZ cD cR cT A kp L) ([.ref h0, .int u1] : List Value).toArray s 0 0 A) (F0 m 5 ls []) := by
    intro n
    induction n with
    | zero =>
      intro f1449428 y1449429 y1449431 b1449430 hm H locs ls hW hF hl
      have hz := i32_b y1449429
      exfalso; omega
    | succ n ih =>
      intro f1449428 y1449429 y1449431 b1449430 hm H locs ls hW hF hl
      have ih5 := ih
      refine lv_iload hx hb dX0_drawOf_5 (lv_at hl 0 rfl) ?_
      refine lv_aload_n hx hb dX0_drawOf_7 rfl (lv_at hl 2 rfl) ?_
      refine fg_RX0_42 E hW rh0 dX0_drawOf_8 (fun a1449433 m1449434 r1449435 => ?_)
      refine fg_RX0_286 E hW r1449435 dX0_drawOf_11 (fun y1449436 m1449437 b1449438 => ?_)
      refine q_icmp_ge (tgt := 117) hx hb dX0_drawOf_14 (by decide) rfl rfl (fun c1450411 => ?_) (fun c1450411 => ?_)
      · refine lv_lload_n hx hb dX0_drawOf_117 rfl (lv_at hl 1 rfl) ?_
        exact e_J E hW rfl ⟨⟨_, rfl, trivial⟩, hF⟩ dX0_drawOf_118
      · refine lv_aload_n hx hb dX0_drawOf_17 rfl (lv_at hl 2 rfl) ?_
        refine fg_RX0_42 E hW rh0 dX0_drawOf_18 (fun a1450412 m1450413 r1450414 => ?_)
        obtain rfl : a1449433 = a1450412 := (m1449434).symm.trans m1450413
        refine fg_RX0_287 E hW r1449435 dX0_drawOf_21 (fun a1450415 m1450416 r1450417 => ?_)
        refine lv_iload hx hb dX0_drawOf_24 (lv_at hl 0 rfl) ?_
        refine gl_221 E hW r1450417 ⟨by omega, by omega⟩ dX0_drawOf_26 (fun o1450418 m1450420 k1450419 => ?_)
        rcases o1450418 with _ | a1450421
        · have hl : lv_has ls 9 [(4, .int y1449429), (2, .long y1449431), (0, .ref h0), (1, .int u1)] := hl
          show W p l e ({ frames := 4, cells := 0, slots := 0, locals := 117 }) s m ([.ref h0, .int u1] : List Value).toArray below meth c _ _ 0 0 (MQ below (QT (po_X0_drawOf kp L f0 h0 u1) G cI cJ cZ cD cR cT A kp L) ([.ref h0, .int u1] : List Value).toArray s 0 0 A) (F0 m 27 ls [.null])
          refine lv_astoreN (lv' := [(5, .null), (4, .int y1449429), (2, .long y1449431), (0, .ref h0), (1, .int u1)]) hx hb dX0_drawOf_27 hl (by decide) rfl (fun ls hl => ?_)
          refine lv_iconst (v := 0) hx hb dX0_drawOf_29 (by decide) ?_
          refine lv_istore (lv' := [(6, .int 0), (5, .null), (4, .int y1449429), (2, .long y1449431), (0, .ref h0), (1, .int u1)]) hx hb dX0_drawOf_30 hl (by decide) rfl (fun ls hl => ?_)
          have L1450437 : ∀ (n : Nat), ∀ (f1450430 : Nat → va_E) (y1450434 : Int32) (y1450436 : Int64) (m1450431 : oI (f1450430 a1449433) 0 = y1449436) (m1450432 : oR (f1450430 a1449433) 1 = a1450415) (m1450433 : oR (f1450430 h0) 4 = a1449433) (b1450435 : (0 : Int) ≤ y1450434.toInt ∧ y1450434.toInt ≤ 0) (hm : (1 : Int) ≤ n) (H : Heap) (locs : List Loc) (ls : Array Slot), WS G cI cJ cZ cD cR cT A kp L f1450430 s H locs → FM kp L ms_X0_drawOf f0 f1450430 → lv_has ls 9 [(6, .int y1450434), (5, .null), (4, .int y1449429), (2, .long y1450436), (0, .ref h0), (1, .int u1)] → W p l e ({ frames := 4, cells := 0, slots := 0, locals := 117 }) s m ([.ref h0, .int u1] : List Value).toArray below meth c H locs 0 0 (MQ below (QT (po_X0_drawOf kp L f0 h0 u1) G cI cJ cZ cD cR cT A kp L) ([.ref h0, .int u1] : List Value).toArray s 0 0 A) (F0 m 32 ls []) := by
            intro n
            induction n with
            | zero =>
              intro f1450430 y1450434 y1450436 m1450431 m1450432 m1450433 b1450435 hm H locs ls hW hF hl
              exfalso; omega
            | succ n ih =>
              intro f1450430 y1450434 y1450436 m1450431 m1450432 m1450433 b1450435 hm H locs ls hW hF hl
              have ih32 := ih
              refine lv_aloadN hx hb dX0_drawOf_32 (lv_at hl 1 rfl) ?_
              refine lv_ifnullN (tgt := 111) hx hb dX0_drawOf_34 (by decide) ?_
              refine q_iinc hx hb dX0_drawOf_111 hl (k := 2) rfl rfl rfl (by omega) (by decide) (fun i1450438 ls h1450439 hl => ?_)
              have hl : lv_has ls 9 [(4, .int i1450438), (6, .int y1450434), (5, .null), (2, .long y1450436), (0, .ref h0), (1, .int u1)] := hl
              refine lv_goto (tgt := 5) hx hb dX0_drawOf_114 (by decide) ?_
              exact ih5 f1450430 i1450438 y1450436 (by omega) (by omega) _ _ _ hW hF (lv_sub hl [0, 3, 4, 5] rfl)
          have hk1450440 : (0 : Int32).toInt = 0 := rfl
          exact L1450437 1 f1449428 0 y1449431 m1449437 m1450416 m1450413 (by decide) (by omega) _ _ _ hW hF (lv_sub hl [0, 1, 2, 3, 4, 5] rfl)
        · have r1450422 : RK kp L a1450421 9 := k1450419 _ rfl
          have hl : lv_has ls 9 [(4, .int y1449429), (2, .long y1449431), (0, .ref h0), (1, .int u1)] := hl
          show W p l e ({ frames := 4, cells := 0, slots := 0, locals := 117 }) s m ([.ref h0, .int u1] : List Value).toArray below meth c _ _ 0 0 (MQ below (QT (po_X0_drawOf kp L f0 h0 u1) G cI cJ cZ cD cR cT A kp L) ([.ref h0, .int u1] : List Value).toArray s 0 0 A) (F0 m 27 ls [.ref a1450421])
          refine lv_astore (lv' := [(5, .ref a1450421), (4, .int y1449429), (2, .long y1449431), (0, .ref h0), (1, .int u1)]) hx hb dX0_drawOf_27 hl (by decide) rfl (fun ls hl => ?_)
          refine lv_iconst (v := 0) hx hb dX0_drawOf_29 (by decide) ?_
          refine lv_istore (lv' := [(6, .int 0), (5, .ref a1450421), (4, .int y1449429), (2, .long y1449431), (0, .ref h0), (1, .int u1)]) hx hb dX0_drawOf_30 hl (by decide) rfl (fun ls hl => ?_)
          have L1451264 : ∀ (n : Nat), ∀ (f1451257 : Nat → va_E) (y1451261 : Int32) (y1451263 : Int64) (m1451258 : oI (f1451257 a1449433) 0 = y1449436) (m1451259 : oR (f1451257 a1449433) 1 = a1450415) (m1451260 : oR (f1451257 h0) 4 = a1449433) (b1451262 : (0 : Int) ≤ y1451261.toInt ∧ y1451261.toInt ≤ 12) (hm : (13 : Int) - y1451261.toInt ≤ n) (H : Heap) (locs : List Loc) (ls : Array Slot), WS G cI cJ cZ cD cR cT A kp L f1451257 s H locs → FM kp L ms_X0_drawOf f0 f1451257 → lv_has ls 9 [(6, .int y1451261), (5, .ref a1450421), (4, .int y1449429), (2, .long y1451263), (0, .ref h0), (1, .int u1)] → W p l e ({ frames := 4, cells := 0, slots := 0, locals := 117 }) s m ([.ref h0, .int u1] : List Value).toArray below meth c H locs 0 0 (MQ below (QT (po_X0_drawOf kp L f0 h0 u1) G cI cJ cZ cD cR cT A kp L) ([.ref h0, .int u1] : List Value).toArray s 0 0 A) (F0 m 32 ls []) := by
            intro n
            induction n with
            | zero =>
              intro f1451257 y1451261 y1451263 m1451258 m1451259 m1451260 b1451262 hm H locs ls hW hF hl
              have hz := i32_b y1451261
              exfalso; omega
            | succ n ih =>
              intro f1451257 y1451261 y1451263 m1451258 m1451259 m1451260 b1451262 hm H locs ls hW hF hl
              have ih32 := ih
              refine lv_aload hx hb dX0_drawOf_32 (lv_at hl 1 rfl) ?_
              refine lv_ifnull hx hb dX0_drawOf_34 ?_
              refine lv_iload hx hb dX0_drawOf_37 (lv_at hl 0 rfl) ?_
              refine lv_aload hx hb dX0_drawOf_39 (lv_at hl 1 rfl) ?_
              refine fg_RX0_291 E hW r1450422 dX0_drawOf_41 (fun y1451265 m1451266 b1451267 => ?_)
              refine q_icmp_ge (tgt := 111) hx hb dX0_drawOf_44 (by decide) rfl rfl (fun c1451325 => ?_) (fun c1451325 => ?_)
              · refine q_iinc hx hb dX0_drawOf_111 hl (k := 2) rfl rfl rfl (by omega) (by decide) (fun i1451326 ls h1451327 hl => ?_)
                have hl : lv_has ls 9 [(4, .int i1451326), (6, .int y1451261), (5, .ref a1450421), (2, .long y1451263), (0, .ref h0), (1, .int u1)] := hl
                refine lv_goto (tgt := 5) hx hb dX0_drawOf_114 (by decide) ?_
                exact ih5 f1451257 i1451326 y1451263 (by omega) (by omega) _ _ _ hW hF (lv_sub hl [0, 3, 4, 5] rfl)
              · refine lv_aload hx hb dX0_drawOf_47 (lv_at hl 1 rfl) ?_
                refine fg_RX0_296 E hW r1450422 dX0_drawOf_49 (fun a1451328 m1451329 r1451330 => ?_)
                refine lv_iload hx hb dX0_drawOf_52 (lv_at hl 0 rfl) ?_
                refine gl_643 E hW r1451330 ⟨by omega, by omega⟩ dX0_drawOf_54 (fun y1451331 m1451332 => ?_)
                refine lv_sipush (v := 261) hx hb dX0_drawOf_55 (by decide) ?_
                have J1451361 : ∀ (f1451354 : Nat → va_E) (y1451360 : Int64) (m1451355 : oI (f1451354 a1449433) 0 = y1449436) (m1451356 : oR (f1451354 a1449433) 1 = a1450415) (m1451357 : oI (f1451354 a1450421) 1 = y1451265) (m1451358 : oR (f1451354 a1450421) 3 = a1451328) (m1451359 : oR (f1451354 h0) 4 = a1449433) (H : Heap) (locs : List Loc) (ls : Array Slot), WS G cI cJ cZ cD cR cT A kp L f1451354 s H locs → FM kp L ms_X0_drawOf f0 f1451354 → lv_has ls 9 [(6, .int y1451261), (5, .ref a1450421), (4, .int y1449429), (2, .long y1451360), (0, .ref h0), (1, .int u1)] → W p l e ({ frames := 4, cells := 0, slots := 0, locals := 117 }) s m ([.ref h0, .int u1] : List Value).toArray below meth c H locs 0 0 (MQ below (QT (po_X0_drawOf kp L f0 h0 u1) G cI cJ cZ cD cR cT A kp L) ([.ref h0, .int u1] : List Value).toArray s 0 0 A) (F0 m 105 ls []) := by
                  intro f1451354 y1451360 m1451355 m1451356 m1451357 m1451358 m1451359 H locs ls hW hF hl
                  refine q_iinc hx hb dX0_drawOf_105 hl (k := 0) rfl rfl rfl (by omega) (by decide) (fun i1451362 ls h1451363 hl => ?_)
                  have hl : lv_has ls 9 [(6, .int i1451362), (5, .ref a1450421), (4, .int y1449429), (2, .long y1451360), (0, .ref h0), (1, .int u1)] := hl
                  refine lv_goto (tgt := 32) hx hb dX0_drawOf_108 (by decide) ?_
                  exact ih32 f1451354 i1451362 y1451360 m1451355 m1451356 m1451359 (by omega) (by omega) _ _ _ hW hF (lv_sub hl [0, 1, 2, 3, 4, 5] rfl)
                refine q_icmp_ne (Y := 261) (tgt := 105) hx hb dX0_drawOf_58 (by decide) rfl rfl (fun c1451364 => ?_) (fun c1451364 => ?_)
                · exact J1451361 f1451257 y1451263 m1451258 m1451259 m1451266 m1451329 m1451260 _ _ _ hW hF (lv_sub hl [0, 1, 2, 3, 4, 5] rfl)
                · refine lv_aload_n hx hb dX0_drawOf_61 rfl (lv_at hl 4 rfl) ?_
                  refine fg_RX0_42 E hW rh0 dX0_drawOf_62 (fun a1451365 m1451366 r1451367 => ?_)
                  obtain rfl : a1449433 = a1451365 := (m1451260).symm.trans m1451366
                  refine lv_iload hx hb dX0_drawOf_65 (lv_at hl 2 rfl) ?_
                  refine lv_iload hx hb dX0_drawOf_67 (lv_at hl 0 rfl) ?_
                  refine t_callV (As := [.int y1449429, .int y1451261]) (rest := []) E hW (c_X2_isInForce l G cI cJ cZ cD cR cT kp L f1451257 hW.2.2.2 _ a1449433 y1449429 y1451261 r1449435 (by omega) (by omega)) r1449435 (by decide) rfl wk_X2_isInForce tw_716 rfl ⟨Nat.le_of_ble_eq_true rfl, Nat.le_of_ble_eq_true rfl⟩ ⟨rfl, rfl⟩ hl.1 rfl (Nat.le_of_ble_eq_true rfl) dX0_drawOf_69 ⟨Nat.le_of_ble_eq_true rfl, Nat.le_of_ble_eq_true rfl⟩ (fun v1451368 f1451369 H locs q1451370 hW => ?_)
                  obtain ⟨⟨x1451372, rfl, p1451373⟩, g1451371⟩ := q1451370
                  have hF := FM.tr hF g1451371 rfl
                  refine q_if_eq (tgt := 105) hx hb dX0_drawOf_72 (by decide) rfl (fun c1451374 => ?_) (fun c1451374 => ?_)
                  · exact J1451361 f1451369 y1451263 ((fm_I g1451371 r1449435 rfl).trans m1451258) ((fm_R g1451371 r1449435 rfl).trans m1451259) ((fm_I g1451371 r1450422 rfl).trans m1451266) ((fm_R g1451371 r1450422 rfl).trans m1451329) ((fm_R g1451371 rh0 rfl).trans m1451366) _ _ _ hW hF (lv_sub hl [0, 1, 2, 3, 4, 5] rfl)
                  · refine lv_aload_n hx hb dX0_drawOf_75 rfl (lv_at hl 4 rfl) ?_
                    refine lv_aload hx hb dX0_drawOf_76 (lv_at hl 1 rfl) ?_
                    refine lv_iload hx hb dX0_drawOf_78 (lv_at hl 0 rfl) ?_
                    refine lv_iload_n hx hb dX0_drawOf_80 rfl (lv_at hl 5 rfl) ?_
                    refine lv_iconst (v := (-1)) hx hb dX0_drawOf_81 (by decide) ?_
                    refine t_callV (As := [.ref a1450421, .int y1451261, .int u1, .int (-1)]) (rest := []) E hW (c_X0_ask l G cI cJ cZ cD cR cT kp L f1451369 hW.2.2.2 _ h0 a1450421 y1451261 u1 (-1) rh0 r1450422 (by omega) (by omega) (by decide) (by rw [((fm_I g1451371 r1450422 rfl).trans m1451266)]; omega)) rh0 (by decide) rfl wk_X0_ask tw_717 rfl ⟨Nat.le_of_ble_eq_true rfl, Nat.le_of_ble_eq_true rfl⟩ ⟨rfl, rfl⟩ hl.1 rfl (Nat.le_of_ble_eq_true rfl) dX0_drawOf_82 ⟨Nat.le_of_ble_eq_true rfl, Nat.le_of_ble_eq_true rfl⟩ (fun v1451375 f1451376 H locs q1451377 hW => ?_)
                    obtain ⟨⟨x1451379, rfl, p1451380⟩, g1451378⟩ := q1451377
                    clear p1451380
                    have hF := FM.tr hF g1451378 rfl
                    refine lv_lstore (lv' := [(7, .long x1451379), (6, .int y1451261), (5, .ref a1450421), (4, .int y1449429), (2, .long y1451263), (0, .ref h0), (1, .int u1)]) hx hb dX0_drawOf_85 hl (by decide) rfl (fun ls hl => ?_)
                    refine lv_lload_n hx hb dX0_drawOf_87 rfl (lv_at hl 4 rfl) ?_
                    refine lv_lload hx hb dX0_drawOf_88 (lv_at hl 0 rfl) ?_
                    refine lv_ldc2 (v := (-4000000000000000000)) hx hb hown (hts _ tw_721) dX0_drawOf_90 ?_
                    have J1451382 : ∀ (y1451381 : Int64) (H : Heap) (locs : List Loc) (ls : Array Slot), WS G cI cJ cZ cD cR cT A kp L f1451376 s H locs → FM kp L ms_X0_drawOf f0 f1451376 → lv_has ls 9 [(7, .long x1451379), (6, .int y1451261), (5, .ref a1450421), (4, .int y1449429), (2, .long y1451263), (0, .ref h0), (1, .int u1)] → W p l e ({ frames := 4, cells := 0, slots := 0, locals := 117 }) s m ([.ref h0, .int u1] : List Value).toArray below meth c H locs 0 0 (MQ below (QT (po_X0_drawOf kp L f0 h0 u1) G cI cJ cZ cD cR cT A kp L) ([.ref h0, .int u1] : List Value).toArray s 0 0 A) (F0 m 103 ls [.long y1451381, .long y1451263]) := by
                      intro y1451381 H locs ls hW hF hl
                      clear p1451373 c1451374
                      refine u_ladd hx hb dX0_drawOf_103 (fun x1451383 => ?_)
                      refine lv_lstore_n (lv' := [(2, .long x1451383), (7, .long x1451379), (6, .int y1451261), (5, .ref a1450421), (4, .int y1449429), (0, .ref h0), (1, .int u1)]) hx hb dX0_drawOf_104 rfl hl (by decide) rfl (fun ls hl => ?_)
                      exact J1451361 f1451376 x1451383 ((fm_I g1451378 r1449435 rfl).trans ((fm_I g1451371 r1449435 rfl).trans m1451258)) ((fm_R g1451378 r1449435 rfl).trans ((fm_R g1451371 r1449435 rfl).trans m1451259)) ((fm_I g1451378 r1450422 rfl).trans ((fm_I g1451371 r1450422 rfl).trans m1451266)) ((fm_R g1451378 r1450422 rfl).trans ((fm_R g1451371 r1450422 rfl).trans m1451329)) ((fm_R g1451378 rh0 rfl).trans ((fm_R g1451371 rh0 rfl).trans m1451366)) _ _ _ hW hF (lv_sub hl [2, 3, 4, 0, 5, 6] rfl)
                    refine q_lcmp_ne (Y := -4000000000000000000) (tgt := 101) hx hb dX0_drawOf_93 dX0_drawOf_94 (by decide) rfl rfl (fun c1451384 => ?_) (fun c1451384 => ?_)
                    · refine lv_lload hx hb dX0_drawOf_101 (lv_at hl 0 rfl) ?_
                      exact J1451382 x1451379  _ _ _ hW hF (lv_sub hl [0, 1, 2, 3, 4, 5, 6] rfl)
                    · refine lv_lconst (v := 0) hx hb dX0_drawOf_97 (by decide) ?_
                      refine lv_goto (tgt := 103) hx hb dX0_drawOf_98 (by decide) ?_
                      exact J1451382 0  _ _ _ hW hF (lv_sub hl [0, 1, 2, 3, 4, 5, 6] rfl)
          have hk1451385 : (0 : Int32).toInt = 0 := rfl
          exact L1451264 13 f1449428 0 y1449431 m1449437 m1450416 m1450413 (by decide) (by omega) _ _ _ hW hF (lv_sub hl [0, 1, 2, 3, 4, 5] rfl)
  have hk1451386 : (0 : Int32).toInt = 0 := rfl
  have hk1451387 : (0 : Int64).toInt = 0 := rfl
  exact L1449432 21 f0 0 0 (by decide) (by omega) _ _ _ hW hF (lv_sub hl [0, 1, 2, 3] rfl)
def ms_X0_falls : List (Nat × Nat) := []
def po_X0_falls (kp : Nat → Nat) (L : List Nat) (f0 : Nat → va_E) (u1 : Int64) (u2 : Int64) (u3 : Int64) (u4 : Int32) : Option Value → (Nat → va_E) → Prop := fun v f => (∃ r : Int32, v = some (.int r) ∧ ((0 : Int) ≤ r.toInt ∧ r.toInt ≤ 1)) ∧ FM kp L ms_X0_falls f0 f
set_option maxHeartbeats 4000000 in
set_option maxRecDepth 100000 in
theorem c_X0_falls (l : Launch) (G : va_G) (cI cJ cZ cD cR cT : ClassId) (kp : Nat → Nat) (L : List Nat) (f0 : Nat → va_E) (hTH : TH cI cJ cZ cD cR cT kp L f0) (sz : Nat) (u1 : Int64) (u2 : Int64) (u3 : Int64) (u4 : Int32) (pu4 : (-29 : Int) ≤ u4.toInt ∧ u4.toInt ≤ 38) : Met l yX0_falls (Cond.code yX0_falls cX0_falls 10 (some .boolean) :: wTab) ({ frames := 1, cells := 0, slots := 0, locals := 40 }) (va_Pc [.long u1, .long u2, .long u3, .int u4] (PreW G (tys6 cI cJ cZ cD cR cT) (va_pl L f0) sz)) (QT (po_X0_falls kp L f0 u1 u2 u3 u4) G cI cJ cZ cD cR cT (va_A (va_pl L f0) sz) kp L) 0 0 (va_A (va_pl L f0) sz) := by
  refine metT (by decide) (Nat.le_of_ble_eq_true rfl) hTH ?_
  intro p e s m below meth c A ls E hW hl
  obtain ⟨hx, hb, -, hml, hown, hts, -, -, -⟩ := id E
  have hF : FM kp L ms_X0_falls f0 f0 := FM.rf
  have hl : lv_has ls 10 [(0, .long u1), (2, .long u2), (4, .long u3), (6, .int u4)] := hl
  refine lv_lload_n hx hb dX0_falls_0 rfl (lv_at hl 0 rfl) ?_
  refine lv_lstore (lv' := [(7, .long u1), (0, .long u1), (2, .long u2), (4, .long u3), (6, .int u4)]) hx hb dX0_falls_1 hl (by decide) rfl (fun ls hl => ?_)
  refine lv_iconst (v := 0) hx hb dX0_falls_3 (by decide) ?_
  refine lv_istore (lv' := [(9, .int 0), (7, .long u1), (0, .long u1), (2, .long u2), (4, .long u3), (6, .int u4)]) hx hb dX0_falls_4 hl (by decide) rfl (fun ls hl => ?_)
  have L1451553 : ∀ (n : Nat), ∀ (y1451550 : Int32) (y1451552 : Int64) (b1451551 : (0 : Int) ≤ y1451550.toInt ∧ y1451550.toInt ≤ 39) (hm : (40 : Int) - y1451550.toInt ≤ n) (H : Heap) (locs : List Loc) (ls : Array Slot), WS G cI cJ cZ cD cR cT A kp L f0 s H locs → FM kp L ms_X0_falls f0 f0 → lv_has ls 10 [(9, .int y1451550), (7, .long y1451552), (0, .long u1), (2, .long u2), (4, .long u3), (6, .int u4)] → W p l e ({ frames := 1, cells := 0, slots := 0, locals := 40 }) s m ([.long u1, .long u2, .long u3, .int u4] : List Value).toArray below meth c H locs 0 0 (MQ below (QT (po_X0_falls kp L f0 u1 u2 u3 u4) G cI cJ cZ cD cR cT A kp L) ([.long u1, .long u2, .long u3, .int u4] : List Value).toArray s 0 0 A) (F0 m 6 ls []) := by
    intro n
    induction n with
    | zero =>
      intro y1451550 y1451552 b1451551 hm H locs ls hW hF hl
      have hz := i32_b y1451550
      exfalso; omega
    | succ n ih =>
      intro y1451550 y1451552 b1451551 hm H locs ls hW hF hl
      have ih6 := ih
      refine lv_iload hx hb dX0_falls_6 (lv_at hl 0 rfl) ?_
      refine lv_iload hx hb dX0_falls_8 (lv_at hl 5 rfl) ?_
      refine q_icmp_ge (tgt := 37) hx hb dX0_falls_10 (by decide) rfl rfl (fun c1451554 => ?_) (fun c1451554 => ?_)
      · refine lv_iconst (v := 0) hx hb dX0_falls_37 (by decide) ?_
        exact e_Z E hW rfl (by decide) ⟨⟨_, rfl, (by have hk : (0 : Int32).toInt = 0 := rfl; first | decide | omega)⟩, hF⟩ dX0_falls_38
      · refine lv_lload hx hb dX0_falls_13 (lv_at hl 1 rfl) ?_
        refine lv_lload_n hx hb dX0_falls_15 rfl (lv_at hl 3 rfl) ?_
        refine lv_lload hx hb dX0_falls_16 (lv_at hl 4 rfl) ?_
        refine u_lsub hx hb dX0_falls_18 (fun x1451555 => ?_)
        refine u_ladd hx hb dX0_falls_19 (fun x1451556 => ?_)
        refine lv_lstore (lv' := [(7, .long x1451556), (9, .int y1451550), (0, .long u1), (2, .long u2), (4, .long u3), (6, .int u4)]) hx hb dX0_falls_20 hl (by decide) rfl (fun ls hl => ?_)
        refine lv_lload hx hb dX0_falls_22 (lv_at hl 0 rfl) ?_
        refine lv_lconst (v := 0) hx hb dX0_falls_24 (by decide) ?_
        refine q_lcmp_ge (Y := 0) (tgt := 31) hx hb dX0_falls_25 dX0_falls_26 (by decide) rfl rfl (fun c1451557 => ?_) (fun c1451557 => ?_)
        · refine q_iinc hx hb dX0_falls_31 hl (k := 1) rfl rfl rfl (by omega) (by decide) (fun i1451558 ls h1451559 hl => ?_)
          have hl : lv_has ls 10 [(9, .int i1451558), (7, .long x1451556), (0, .long u1), (2, .long u2), (4, .long u3), (6, .int u4)] := hl
          refine lv_goto (tgt := 6) hx hb dX0_falls_34 (by decide) ?_
          exact ih6 i1451558 x1451556 (by omega) (by omega) _ _ _ hW hF (lv_sub hl [0, 1, 2, 3, 4, 5] rfl)
        · refine lv_iconst (v := 1) hx hb dX0_falls_29 (by decide) ?_
          exact e_Z E hW rfl (by decide) ⟨⟨_, rfl, (by have hk : (1 : Int32).toInt = 1 := rfl; first | decide | omega)⟩, hF⟩ dX0_falls_30
  have hk1451560 : (0 : Int32).toInt = 0 := rfl
  exact L1451553 40 0 u1 (by decide) (by omega) _ _ _ hW hF (lv_sub hl [0, 1, 2, 3, 4, 5] rfl)
def ms_X0_takeMostSpared : List (Nat × Nat) := [(116, 0)]
def po_X0_takeMostSpared (kp : Nat → Nat) (L : List Nat) (f0 : Nat → va_E) (h0 : Nat) (u1 : Int32) : Option Value → (Nat → va_E) → Prop := fun v f => (∃ r : Int32, v = some (.int r) ∧ ((0 : Int) ≤ r.toInt)) ∧ FM kp L ms_X0_takeMostSpared f0 f
set_option maxHeartbeats 4000000 in
set_option maxRecDepth 100000 in
theorem c_X0_takeMostSpared (l : Launch) (G : va_G) (cI cJ cZ cD cR cT : ClassId) (kp : Nat → Nat) (L : List Nat) (f0 : Nat → va_E) (hTH : TH cI cJ cZ cD cR cT kp L f0) (sz : Nat) (h0 : Nat) (u1 : Int32) (rh0 : RK kp L h0 0) (pu1 : (0 : Int) ≤ u1.toInt ∧ u1.toInt ≤ 40) : Met l yX0_takeMostSpared (Cond.code yX0_takeMostSpared cX0_takeMostSpared 5 (some .int) :: wTab) ({ frames := 1, cells := 0, slots := 0, locals := 40 }) (va_Pc [.ref h0, .int u1] (PreW G (tys6 cI cJ cZ cD cR cT) (va_pl L f0) sz)) (QT (po_X0_takeMostSpared kp L f0 h0 u1) G cI cJ cZ cD cR cT (va_A (va_pl L f0) sz) kp L) 0 0 (va_A (va_pl L f0) sz) := by
  refine metT (by decide) (Nat.le_of_ble_eq_true rfl) hTH ?_
  intro p e s m below meth c A ls E hW hl
  obtain ⟨hx, hb, -, hml, hown, hts, -, -, -⟩ := id E
  have hF : FM kp L ms_X0_takeMostSpared f0 f0 := FM.rf
  have hl : lv_has ls 5 [(0, .ref h0), (1, .int u1)] := hl
  refine lv_iconst (v := 0) hx hb dX0_takeMostSpared_0 (by decide) ?_
  refine lv_istore_n (lv' := [(2, .int 0), (0, .ref h0), (1, .int u1)]) hx hb dX0_takeMostSpared_1 rfl hl (by decide) rfl (fun ls hl => ?_)
  refine lv_iconst (v := 0) hx hb dX0_takeMostSpared_2 (by decide) ?_
  refine lv_istore_n (lv' := [(3, .int 0), (2, .int 0), (0, .ref h0), (1, .int u1)]) hx hb dX0_takeMostSpared_3 rfl hl (by decide) rfl (fun ls hl => ?_)
  refine lv_iconst (v := 0) hx hb dX0_takeMostSpared_4 (by decide) ?_
  refine lv_istore (lv' := [(4, .int 0), (3, .int 0), (2, .int 0), (0, .ref h0), (1, .int u1)]) hx hb dX0_takeMostSpared_5 hl (by decide) rfl (fun ls hl => ?_)
  have L1452212 : ∀ (n : Nat), ∀ (y1452206 : Int32) (y1452208 : Int32) (y1452210 : Int32) (b1452207 : (0 : Int) ≤ y1452206.toInt ∧ y1452206.toInt ≤ 40) (b1452209 : (0 : Int) ≤ y1452208.toInt ∧ y1452208.toInt ≤ 39) (b1452211 : (0 : Int) ≤ y1452210.toInt) (hm : (41 : Int) - y1452206.toInt ≤ n) (H : Heap) (locs : List Loc) (ls : Array Slot), WS G cI cJ cZ cD cR cT A kp L f0 s H locs → FM kp L ms_X0_takeMostSpared f0 f0 → lv_has ls 5 [(4, .int y1452206), (3, .int y1452208), (2, .int y1452210), (0, .ref h0), (1, .int u1)] → W p l e ({ frames := 1, cells := 0, slots := 0, locals := 40 }) s m ([.ref h0, .int u1] : List Value).toArray below meth c H locs 0 0 (MQ below (QT (po_X0_takeMostSpared kp L f0 h0 u1) G cI cJ cZ cD cR cT A kp L) ([.ref h0, .int u1] : List Value).toArray s 0 0 A) (F0 m 7 ls []) := by
    intro n
    induction n with
    | zero =>
      intro y1452206 y1452208 y1452210 b1452207 b1452209 b1452211 hm H locs ls hW hF hl
      have hz := i32_b y1452206
      exfalso; omega
    | succ n ih =>
      intro y1452206 y1452208 y1452210 b1452207 b1452209 b1452211 hm H locs ls hW hF hl
      have ih7 := ih
      refine lv_iload hx hb dX0_takeMostSpared_7 (lv_at hl 0 rfl) ?_
      refine lv_iload_n hx hb dX0_takeMostSpared_9 rfl (lv_at hl 4 rfl) ?_
      refine q_icmp_ge (tgt := 41) hx hb dX0_takeMostSpared_10 (by decide) rfl rfl (fun c1452240 => ?_) (fun c1452240 => ?_)
      · refine lv_aload_n hx hb dX0_takeMostSpared_41 rfl (lv_at hl 3 rfl) ?_
        refine fg_RX0_61 E hW rh0 dX0_takeMostSpared_42 (fun a1452241 m1452242 r1452243 => ?_)
        refine lv_iload_n hx hb dX0_takeMostSpared_45 rfl (lv_at hl 1 rfl) ?_
        refine lv_iconst (v := 0) hx hb dX0_takeMostSpared_46 (by decide) ?_
        refine gs_116 E hW r1452243 ⟨by omega, by omega⟩ dX0_takeMostSpared_47 (fun f1452244 H locs e1452245 n1452246 g1452247 hW => ?_)
        have hF := FM.tr hF g1452247 rfl
        refine lv_iload_n hx hb dX0_takeMostSpared_48 rfl (lv_at hl 2 rfl) ?_
        exact e_I E hW rfl ⟨⟨_, rfl, (by first | omega | trivial)⟩, hF⟩ dX0_takeMostSpared_49
      · refine lv_aload_n hx hb dX0_takeMostSpared_13 rfl (lv_at hl 3 rfl) ?_
        refine fg_RX0_61 E hW rh0 dX0_takeMostSpared_14 (fun a1452248 m1452249 r1452250 => ?_)
        refine lv_iload hx hb dX0_takeMostSpared_17 (lv_at hl 0 rfl) ?_
        refine gl_116 E hW r1452250 ⟨by omega, by omega⟩ dX0_takeMostSpared_19 (fun y1452251 m1452252 => ?_)
        refine lv_iload_n hx hb dX0_takeMostSpared_20 rfl (lv_at hl 2 rfl) ?_
        have J1452264 : ∀ (y1452260 : Int32) (y1452262 : Int32) (b1452261 : (0 : Int) ≤ y1452260.toInt ∧ y1452260.toInt ≤ 39) (b1452263 : (0 : Int) ≤ y1452262.toInt) (H : Heap) (locs : List Loc) (ls : Array Slot), WS G cI cJ cZ cD cR cT A kp L f0 s H locs → FM kp L ms_X0_takeMostSpared f0 f0 → lv_has ls 5 [(4, .int y1452206), (3, .int y1452260), (2, .int y1452262), (0, .ref h0), (1, .int u1)] → W p l e ({ frames := 1, cells := 0, slots := 0, locals := 40 }) s m ([.ref h0, .int u1] : List Value).toArray below meth c H locs 0 0 (MQ below (QT (po_X0_takeMostSpared kp L f0 h0 u1) G cI cJ cZ cD cR cT A kp L) ([.ref h0, .int u1] : List Value).toArray s 0 0 A) (F0 m 35 ls []) := by
          intro y1452260 y1452262 b1452261 b1452263 H locs ls hW hF hl
          clear b1452209 b1452211
          refine q_iinc hx hb dX0_takeMostSpared_35 hl (k := 0) rfl rfl rfl (by omega) (by decide) (fun i1452265 ls h1452266 hl => ?_)
          have hl : lv_has ls 5 [(4, .int i1452265), (3, .int y1452260), (2, .int y1452262), (0, .ref h0), (1, .int u1)] := hl
          refine lv_goto (tgt := 7) hx hb dX0_takeMostSpared_38 (by decide) ?_
          exact ih7 i1452265 y1452260 y1452262 (by omega) (by omega) (by omega) (by omega) _ _ _ hW hF (lv_sub hl [0, 1, 2, 3, 4] rfl)
        refine q_icmp_le (tgt := 35) hx hb dX0_takeMostSpared_21 (by decide) rfl rfl (fun c1452267 => ?_) (fun c1452267 => ?_)
        · exact J1452264 y1452208 y1452210 (by omega) (by omega) _ _ _ hW hF (lv_sub hl [0, 1, 2, 3, 4] rfl)
        · have hb1452268 : y1452210.toInt ≤ 2147483646 := by have := i32_b y1452251; omega
          refine lv_aload_n hx hb dX0_takeMostSpared_24 rfl (lv_at hl 3 rfl) ?_
          refine fg_RX0_61 E hW rh0 dX0_takeMostSpared_25 (fun a1452269 m1452270 r1452271 => ?_)
          obtain rfl : a1452248 = a1452269 := (m1452249).symm.trans m1452270
          refine lv_iload hx hb dX0_takeMostSpared_28 (lv_at hl 0 rfl) ?_
          refine gl_116 E hW r1452250 ⟨by omega, by omega⟩ dX0_takeMostSpared_30 (fun y1452272 m1452273 => ?_)
          obtain rfl : y1452251 = y1452272 := (m1452252).symm.trans m1452273
          refine lv_istore_n (lv' := [(2, .int y1452251), (4, .int y1452206), (3, .int y1452208), (0, .ref h0), (1, .int u1)]) hx hb dX0_takeMostSpared_31 rfl hl (by decide) rfl (fun ls hl => ?_)
          refine lv_iload hx hb dX0_takeMostSpared_32 (lv_at hl 1 rfl) ?_
          refine lv_istore_n (lv' := [(3, .int y1452206), (2, .int y1452251), (4, .int y1452206), (0, .ref h0), (1, .int u1)]) hx hb dX0_takeMostSpared_34 rfl hl (by decide) rfl (fun ls hl => ?_)
          exact J1452264 y1452206 y1452251 (by omega) (by omega) _ _ _ hW hF (lv_sub hl [2, 0, 1, 3, 4] rfl)
  have hk1452275 : (0 : Int32).toInt = 0 := rfl
  have hk1452276 : (0 : Int32).toInt = 0 := rfl
  have hk1452277 : (0 : Int32).toInt = 0 := rfl
  exact L1452212 41 0 0 0 (by decide) (by decide) (by decide) (by omega) _ _ _ hW hF (lv_sub hl [0, 1, 2, 3, 4] rfl)
def ms_X0_fewestKept : List (Nat × Nat) := [(115, 0), (116, 0)]
def po_X0_fewestKept (kp : Nat → Nat) (L : List Nat) (f0 : Nat → va_E) (h0 : Nat) (u1 : Int32) (u2 : Int32) : Option Value → (Nat → va_E) → Prop := fun v f => (∃ r : Int32, v = some (.int r) ∧ ((-1 : Int) ≤ r.toInt ∧ r.toInt ≤ 40)) ∧ FM kp L ms_X0_fewestKept f0 f
set_option maxHeartbeats 4000000 in
set_option maxRecDepth 100000 in
theorem c_X0_fewestKept (l : Launch) (G : va_G) (cI cJ cZ cD cR cT : ClassId) (kp : Nat → Nat) (L : List Nat) (f0 : Nat → va_E) (hTH : TH cI cJ cZ cD cR cT kp L f0) (sz : Nat) (h0 : Nat) (u1 : Int32) (u2 : Int32) (rh0 : RK kp L h0 0) (pu1 : (0 : Int) ≤ u1.toInt ∧ u1.toInt ≤ 7) (pu2 : (-29 : Int) ≤ u2.toInt ∧ u2.toInt ≤ 38) : Met l yX0_fewestKept (Cond.code yX0_fewestKept cX0_fewestKept 7 (some .int) :: wTab) ({ frames := 5, cells := 0, slots := 0, locals := 144 }) (va_Pc [.ref h0, .int u1, .int u2] (PreW G (tys6 cI cJ cZ cD cR cT) (va_pl L f0) sz)) (QT (po_X0_fewestKept kp L f0 h0 u1 u2) G cI cJ cZ cD cR cT (va_A (va_pl L f0) sz) kp L) 0 0 (va_A (va_pl L f0) sz) := by
  refine metT (by decide) (Nat.le_of_ble_eq_true rfl) hTH ?_
  intro p e s m below meth c A ls E hW hl
  obtain ⟨hx, hb, -, hml, hown, hts, -, -, -⟩ := id E
  have hF : FM kp L ms_X0_fewestKept f0 f0 := FM.rf
  have hl : lv_has ls 7 [(0, .ref h0), (1, .int u1), (2, .int u2)] := hl
  refine lv_lconst (v := 0) hx hb dX0_fewestKept_0 (by decide) ?_
  refine lv_lstore_n (lv' := [(3, .long 0), (0, .ref h0), (1, .int u1), (2, .int u2)]) hx hb dX0_fewestKept_1 rfl hl (by decide) rfl (fun ls hl => ?_)
  refine lv_iconst (v := 0) hx hb dX0_fewestKept_2 (by decide) ?_
  refine lv_istore (lv' := [(5, .int 0), (3, .long 0), (0, .ref h0), (1, .int u1), (2, .int u2)]) hx hb dX0_fewestKept_3 hl (by decide) rfl (fun ls hl => ?_)
  refine lv_iconst (v := 0) hx hb dX0_fewestKept_5 (by decide) ?_
  refine lv_istore (lv' := [(6, .int 0), (5, .int 0), (3, .long 0), (0, .ref h0), (1, .int u1), (2, .int u2)]) hx hb dX0_fewestKept_6 hl (by decide) rfl (fun ls hl => ?_)
  have L1454918 : ∀ (n : Nat), ∀ (f1454911 : Nat → va_E) (y1454912 : Int32) (y1454914 : Int32) (y1454916 : Int64) (b1454913 : (0 : Int) ≤ y1454912.toInt ∧ y1454912.toInt ≤ 40) (b1454915 : (0 : Int) ≤ y1454914.toInt ∧ y1454914.toInt ≤ 41) (v1454917 : y1454914.toInt ≤ y1454912.toInt) (hm : (41 : Int) - y1454912.toInt ≤ n) (H : Heap) (locs : List Loc) (ls : Array Slot), WS G cI cJ cZ cD cR cT A kp L f1454911 s H locs → FM kp L ms_X0_fewestKept f0 f1454911 → lv_has ls 7 [(6, .int y1454912), (5, .int y1454914), (3, .long y1454916), (0, .ref h0), (1, .int u1), (2, .int u2)] → W p l e ({ frames := 5, cells := 0, slots := 0, locals := 144 }) s m ([.ref h0, .int u1, .int u2] : List Value).toArray below meth c H locs 0 0 (MQ below (QT (po_X0_fewestKept kp L f0 h0 u1 u2) G cI cJ cZ cD cR cT A kp L) ([.ref h0, .int u1, .int u2] : List Value).toArray s 0 0 A) (F0 m 8 ls []) := by
    intro n
    induction n with
    | zero =>
      intro f1454911 y1454912 y1454914 y1454916 b1454913 b1454915 v1454917 hm H locs ls hW hF hl
      have hz := i32_b y1454912
      exfalso; omega
    | succ n ih =>
      intro f1454911 y1454912 y1454914 y1454916 b1454913 b1454915 v1454917 hm H locs ls hW hF hl
      have ih8 := ih
      refine lv_iload hx hb dX0_fewestKept_8 (lv_at hl 0 rfl) ?_
      refine lv_aload_n hx hb dX0_fewestKept_10 rfl (lv_at hl 3 rfl) ?_
      refine fg_RX0_21 E hW rh0 dX0_fewestKept_11 (fun a1454919 m1454920 r1454921 => ?_)
      refine fg_RX0_171 E hW r1454921 dX0_fewestKept_14 (fun y1454922 m1454923 b1454924 => ?_)
      refine q_icmp_ge (tgt := 93) hx hb dX0_fewestKept_17 (by decide) rfl rfl (fun c1455042 => ?_) (fun c1455042 => ?_)
      · refine lv_iconst (v := 0) hx hb dX0_fewestKept_93 (by decide) ?_
        refine lv_istore (lv' := [(6, .int 0), (5, .int y1454914), (3, .long y1454916), (0, .ref h0), (1, .int u1), (2, .int u2)]) hx hb dX0_fewestKept_94 hl (by decide) rfl (fun ls hl => ?_)
        have L1455989 : ∀ (n : Nat), ∀ (f1455983 : Nat → va_E) (y1455986 : Int32) (y1455988 : Int64) (m1455984 : oI (f1455983 a1454919) 0 = y1454922) (m1455985 : oR (f1455983 h0) 1 = a1454919) (b1455987 : (0 : Int) ≤ y1455986.toInt ∧ y1455986.toInt ≤ 41) (hm : (42 : Int) - y1455986.toInt ≤ n) (H : Heap) (locs : List Loc) (ls : Array Slot), WS G cI cJ cZ cD cR cT A kp L f1455983 s H locs → FM kp L ms_X0_fewestKept f0 f1455983 → lv_has ls 7 [(6, .int y1455986), (5, .int y1454914), (3, .long y1455988), (0, .ref h0), (1, .int u1), (2, .int u2)] → W p l e ({ frames := 5, cells := 0, slots := 0, locals := 144 }) s m ([.ref h0, .int u1, .int u2] : List Value).toArray below meth c H locs 0 0 (MQ below (QT (po_X0_fewestKept kp L f0 h0 u1 u2) G cI cJ cZ cD cR cT A kp L) ([.ref h0, .int u1, .int u2] : List Value).toArray s 0 0 A) (F0 m 96 ls []) := by
          intro n
          induction n with
          | zero =>
            intro f1455983 y1455986 y1455988 m1455984 m1455985 b1455987 hm H locs ls hW hF hl
            have hz := i32_b y1455986
            exfalso; omega
          | succ n ih =>
            intro f1455983 y1455986 y1455988 m1455984 m1455985 b1455987 hm H locs ls hW hF hl
            have ih96 := ih
            refine lv_iload hx hb dX0_fewestKept_96 (lv_at hl 0 rfl) ?_
            refine lv_iload hx hb dX0_fewestKept_98 (lv_at hl 1 rfl) ?_
            refine q_icmp_gt (tgt := 150) hx hb dX0_fewestKept_100 (by decide) rfl rfl (fun c1455990 => ?_) (fun c1455990 => ?_)
            · refine lv_iconst (v := (-1)) hx hb dX0_fewestKept_150 (by decide) ?_
              exact e_I E hW rfl ⟨⟨_, rfl, (by have hk : ((-1) : Int32).toInt = -1 := rfl; first | decide | omega)⟩, hF⟩ dX0_fewestKept_151
            · refine lv_aload_n hx hb dX0_fewestKept_103 rfl (lv_at hl 3 rfl) ?_
              refine fg_RX0_21 E hW rh0 dX0_fewestKept_104 (fun a1455991 m1455992 r1455993 => ?_)
              obtain rfl : a1454919 = a1455991 := (m1455985).symm.trans m1455992
              refine fg_RX0_201 E hW r1454921 dX0_fewestKept_107 (fun a1455994 m1455995 r1455996 => ?_)
              refine lv_iload_n hx hb dX0_fewestKept_110 rfl (lv_at hl 4 rfl) ?_
              refine gl_169 E hW r1455996 ⟨by omega, by omega⟩ dX0_fewestKept_111 (fun y1455997 m1455998 => ?_)
              refine q_i2l hx hb dX0_fewestKept_112 rfl (fun x1456000 h1456001 => ?_)
              refine lv_lload_n hx hb dX0_fewestKept_113 rfl (lv_at hl 2 rfl) ?_
              refine lv_aload_n hx hb dX0_fewestKept_114 rfl (lv_at hl 3 rfl) ?_
              refine fg_RX0_21 E hW rh0 dX0_fewestKept_115 (fun a1456002 m1456003 r1456004 => ?_)
              obtain rfl : a1454919 = a1456002 := (m1455992).symm.trans m1456003
              refine fg_RX0_222 E hW r1454921 dX0_fewestKept_118 (fun a1456005 m1456006 r1456007 => ?_)
              refine lv_iload_n hx hb dX0_fewestKept_121 rfl (lv_at hl 4 rfl) ?_
              refine gl_170 E hW r1456007 ⟨by omega, by omega⟩ dX0_fewestKept_122 (fun y1456008 m1456009 => ?_)
              refine q_i2l hx hb dX0_fewestKept_123 rfl (fun x1456011 h1456012 => ?_)
              refine lv_iload_n hx hb dX0_fewestKept_124 rfl (lv_at hl 5 rfl) ?_
              refine t_callS (As := [.long x1456000, .long y1455988, .long x1456011, .int u2]) (rest := []) E hW (c_X0_falls l G cI cJ cZ cD cR cT kp L f1455983 hW.2.2.2 _ x1456000 y1455988 x1456011 u2 (by omega)) wk_X0_falls tw_1219 rfl ⟨Nat.le_of_ble_eq_true rfl, Nat.le_of_ble_eq_true rfl⟩ ⟨rfl, rfl⟩ hl.1 rfl (Nat.le_of_ble_eq_true rfl) dX0_fewestKept_125 ⟨Nat.le_of_ble_eq_true rfl, Nat.le_of_ble_eq_true rfl⟩ (fun v1456013 f1456014 H locs q1456015 hW => ?_)
              obtain ⟨⟨x1456017, rfl, p1456018⟩, g1456016⟩ := q1456015
              have hF := FM.tr hF g1456016 rfl
              refine q_if_eq (tgt := 134) hx hb dX0_fewestKept_128 (by decide) rfl (fun c1456019 => ?_) (fun c1456019 => ?_)
              · refine lv_lload_n hx hb dX0_fewestKept_134 rfl (lv_at hl 2 rfl) ?_
                refine lv_aload_n hx hb dX0_fewestKept_135 rfl (lv_at hl 3 rfl) ?_
                refine lv_iload hx hb dX0_fewestKept_136 (lv_at hl 1 rfl) ?_
                refine t_callV (As := [.int y1454914]) (rest := [.long y1455988]) E hW (c_X0_takeMostSpared l G cI cJ cZ cD cR cT kp L f1456014 hW.2.2.2 _ h0 y1454914 rh0 (by omega)) rh0 (by decide) rfl wk_X0_takeMostSpared tw_1222 rfl ⟨Nat.le_of_ble_eq_true rfl, Nat.le_of_ble_eq_true rfl⟩ ⟨rfl, rfl⟩ hl.1 rfl (Nat.le_of_ble_eq_true rfl) dX0_fewestKept_138 ⟨Nat.le_of_ble_eq_true rfl, Nat.le_of_ble_eq_true rfl⟩ (fun v1456020 f1456021 H locs q1456022 hW => ?_)
                obtain ⟨⟨x1456024, rfl, p1456025⟩, g1456023⟩ := q1456022
                have hF := FM.tr hF g1456023 rfl
                refine q_i2l hx hb dX0_fewestKept_141 rfl (fun x1456026 h1456027 => ?_)
                refine u_lsub hx hb dX0_fewestKept_142 (fun x1456028 => ?_)
                refine lv_lstore_n (lv' := [(3, .long x1456028), (6, .int y1455986), (5, .int y1454914), (0, .ref h0), (1, .int u1), (2, .int u2)]) hx hb dX0_fewestKept_143 rfl hl (by decide) rfl (fun ls hl => ?_)
                refine q_iinc hx hb dX0_fewestKept_144 hl (k := 1) rfl rfl rfl (by omega) (by decide) (fun i1456029 ls h1456030 hl => ?_)
                have hl : lv_has ls 7 [(6, .int i1456029), (3, .long x1456028), (5, .int y1454914), (0, .ref h0), (1, .int u1), (2, .int u2)] := hl
                refine lv_goto (tgt := 96) hx hb dX0_fewestKept_147 (by decide) ?_
                exact ih96 f1456021 i1456029 x1456028 ((fm_I g1456023 r1454921 rfl).trans ((fm_I g1456016 r1454921 rfl).trans m1455984)) ((fm_R g1456023 rh0 rfl).trans ((fm_R g1456016 rh0 rfl).trans m1456003)) (by omega) (by omega) _ _ _ hW hF (lv_sub hl [0, 2, 1, 3, 4, 5] rfl)
              · refine lv_iload hx hb dX0_fewestKept_131 (lv_at hl 0 rfl) ?_
                exact e_I E hW rfl ⟨⟨_, rfl, (by first | omega | trivial)⟩, hF⟩ dX0_fewestKept_133
        have hk1456031 : (0 : Int32).toInt = 0 := rfl
        exact L1455989 42 f1454911 0 y1454916 m1454923 m1454920 (by decide) (by omega) _ _ _ hW hF (lv_sub hl [0, 1, 2, 3, 4, 5] rfl)
      · refine lv_aload_n hx hb dX0_fewestKept_20 rfl (lv_at hl 3 rfl) ?_
        refine fg_RX0_21 E hW rh0 dX0_fewestKept_21 (fun a1456032 m1456033 r1456034 => ?_)
        obtain rfl : a1454919 = a1456032 := (m1454920).symm.trans m1456033
        refine fg_RX0_204 E hW r1454921 dX0_fewestKept_24 (fun a1456035 m1456036 r1456037 => ?_)
        refine lv_iload hx hb dX0_fewestKept_27 (lv_at hl 0 rfl) ?_
        refine gl_161 E hW r1456037 ⟨by omega, by omega⟩ dX0_fewestKept_29 (fun y1456038 m1456039 b1456040 => ?_)
        refine lv_iload_n hx hb dX0_fewestKept_30 rfl (lv_at hl 4 rfl) ?_
        have J1456097 : ∀ (f1456089 : Nat → va_E) (y1456093 : Int32) (y1456095 : Int64) (m1456090 : oI (f1456089 a1454919) 0 = y1454922) (m1456091 : oR (f1456089 a1454919) 1 = a1456035) (m1456092 : oR (f1456089 h0) 1 = a1454919) (b1456094 : (0 : Int) ≤ y1456093.toInt ∧ y1456093.toInt ≤ 41) (v1456096 : y1456093.toInt ≤ y1454912.toInt + 1) (H : Heap) (locs : List Loc) (ls : Array Slot), WS G cI cJ cZ cD cR cT A kp L f1456089 s H locs → FM kp L ms_X0_fewestKept f0 f1456089 → lv_has ls 7 [(6, .int y1454912), (5, .int y1456093), (3, .long y1456095), (0, .ref h0), (1, .int u1), (2, .int u2)] → W p l e ({ frames := 5, cells := 0, slots := 0, locals := 144 }) s m ([.ref h0, .int u1, .int u2] : List Value).toArray below meth c H locs 0 0 (MQ below (QT (po_X0_fewestKept kp L f0 h0 u1 u2) G cI cJ cZ cD cR cT A kp L) ([.ref h0, .int u1, .int u2] : List Value).toArray s 0 0 A) (F0 m 87 ls []) := by
          intro f1456089 y1456093 y1456095 m1456090 m1456091 m1456092 b1456094 v1456096 H locs ls hW hF hl
          clear b1454915 b1456040
          refine q_iinc hx hb dX0_fewestKept_87 hl (k := 0) rfl rfl rfl (by omega) (by decide) (fun i1456098 ls h1456099 hl => ?_)
          have hl : lv_has ls 7 [(6, .int i1456098), (5, .int y1456093), (3, .long y1456095), (0, .ref h0), (1, .int u1), (2, .int u2)] := hl
          refine lv_goto (tgt := 8) hx hb dX0_fewestKept_90 (by decide) ?_
          exact ih8 f1456089 i1456098 y1456093 y1456095 (by omega) (by omega) (by omega) (by omega) _ _ _ hW hF (lv_sub hl [0, 1, 2, 3, 4, 5] rfl)
        refine q_icmp_ne (tgt := 87) hx hb dX0_fewestKept_31 (by decide) rfl rfl (fun c1456100 => ?_) (fun c1456100 => ?_)
        · exact J1456097 f1454911 y1454914 y1454916 m1454923 m1456036 m1456033 (by omega) (by omega) _ _ _ hW hF (lv_sub hl [0, 1, 2, 3, 4, 5] rfl)
        · refine lv_aload_n hx hb dX0_fewestKept_34 rfl (lv_at hl 3 rfl) ?_
          refine fg_RX0_21 E hW rh0 dX0_fewestKept_35 (fun a1456101 m1456102 r1456103 => ?_)
          obtain rfl : a1454919 = a1456101 := (m1456033).symm.trans m1456102
          refine fg_RX0_124 E hW r1454921 dX0_fewestKept_38 (fun a1456104 m1456105 r1456106 => ?_)
          refine lv_iload hx hb dX0_fewestKept_41 (lv_at hl 0 rfl) ?_
          refine gl_164 E hW r1456106 ⟨by omega, by omega⟩ dX0_fewestKept_43 (fun y1456107 m1456108 b1456109 => ?_)
          refine lv_iconst (v := (-1)) hx hb dX0_fewestKept_44 (by decide) ?_
          refine q_icmp_eq (Y := -1) (tgt := 87) hx hb dX0_fewestKept_45 (by decide) rfl rfl (fun c1456110 => ?_) (fun c1456110 => ?_)
          · exact J1456097 f1454911 y1454914 y1454916 m1454923 m1456036 m1456102 (by omega) (by omega) _ _ _ hW hF (lv_sub hl [0, 1, 2, 3, 4, 5] rfl)
          · refine lv_lload_n hx hb dX0_fewestKept_48 rfl (lv_at hl 2 rfl) ?_
            refine lv_aload_n hx hb dX0_fewestKept_49 rfl (lv_at hl 3 rfl) ?_
            refine fg_RX0_21 E hW rh0 dX0_fewestKept_50 (fun a1456111 m1456112 r1456113 => ?_)
            obtain rfl : a1454919 = a1456111 := (m1456102).symm.trans m1456112
            refine lv_iload hx hb dX0_fewestKept_53 (lv_at hl 0 rfl) ?_
            refine t_callV (As := [.int y1454912]) (rest := [.long y1454916]) E hW (c_X1_rentOf l G cI cJ cZ cD cR cT kp L f1454911 hW.2.2.2 _ a1454919 y1454912 r1454921 (by omega)) r1454921 (by decide) rfl wk_X1_rentOf tw_709 rfl ⟨Nat.le_of_ble_eq_true rfl, Nat.le_of_ble_eq_true rfl⟩ ⟨rfl, rfl⟩ hl.1 rfl (Nat.le_of_ble_eq_true rfl) dX0_fewestKept_55 ⟨Nat.le_of_ble_eq_true rfl, Nat.le_of_ble_eq_true rfl⟩ (fun v1456114 f1456115 H locs q1456116 hW => ?_)
            obtain ⟨⟨x1456118, rfl, p1456119⟩, g1456117⟩ := q1456116
            have hF := FM.tr hF g1456117 rfl
            refine q_i2l hx hb dX0_fewestKept_58 rfl (fun x1456120 h1456121 => ?_)
            refine u_ladd hx hb dX0_fewestKept_59 (fun x1456122 => ?_)
            refine lv_lstore_n (lv' := [(3, .long x1456122), (6, .int y1454912), (5, .int y1454914), (0, .ref h0), (1, .int u1), (2, .int u2)]) hx hb dX0_fewestKept_60 rfl hl (by decide) rfl (fun ls hl => ?_)
            refine lv_aload_n hx hb dX0_fewestKept_61 rfl (lv_at hl 3 rfl) ?_
            refine fg_RX0_61 E hW rh0 dX0_fewestKept_62 (fun a1456123 m1456124 r1456125 => ?_)
            refine lv_iload hx hb dX0_fewestKept_65 (lv_at hl 2 rfl) ?_
            refine lv_aload_n hx hb dX0_fewestKept_67 rfl (lv_at hl 3 rfl) ?_
            refine fg_RX0_21 E hW rh0 dX0_fewestKept_68 (fun a1456126 m1456127 r1456128 => ?_)
            obtain rfl : a1454919 = a1456126 := (((fm_R g1456117 rh0 rfl).trans m1456112)).symm.trans m1456127
            refine lv_iload hx hb dX0_fewestKept_71 (lv_at hl 1 rfl) ?_
            refine t_callV (As := [.int y1454912]) (rest := [.int y1454914, .ref a1456123]) E hW (c_X1_rentOf l G cI cJ cZ cD cR cT kp L f1456115 hW.2.2.2 _ a1454919 y1454912 r1454921 (by omega)) r1454921 (by decide) rfl wk_X1_rentOf tw_709 rfl ⟨Nat.le_of_ble_eq_true rfl, Nat.le_of_ble_eq_true rfl⟩ ⟨rfl, rfl⟩ hl.1 rfl (Nat.le_of_ble_eq_true rfl) dX0_fewestKept_73 ⟨Nat.le_of_ble_eq_true rfl, Nat.le_of_ble_eq_true rfl⟩ (fun v1456129 f1456130 H locs q1456131 hW => ?_)
            obtain ⟨⟨x1456133, rfl, p1456134⟩, g1456132⟩ := q1456131
            have hF := FM.tr hF g1456132 rfl
            refine lv_aload_n hx hb dX0_fewestKept_76 rfl (lv_at hl 3 rfl) ?_
            refine lv_iload hx hb dX0_fewestKept_77 (lv_at hl 1 rfl) ?_
            refine t_callV (As := [.int y1454912]) (rest := [.int x1456133, .int y1454914, .ref a1456123]) E hW (c_X0_fairOf l G cI cJ cZ cD cR cT kp L f1456130 hW.2.2.2 _ h0 y1454912 rh0 (by omega)) rh0 (by decide) rfl wk_X0_fairOf tw_1128 rfl ⟨Nat.le_of_ble_eq_true rfl, Nat.le_of_ble_eq_true rfl⟩ ⟨rfl, rfl⟩ hl.1 rfl (Nat.le_of_ble_eq_true rfl) dX0_fewestKept_79 ⟨Nat.le_of_ble_eq_true rfl, Nat.le_of_ble_eq_true rfl⟩ (fun v1456135 f1456136 H locs q1456137 hW => ?_)
            obtain ⟨⟨x1456139, rfl, p1456140⟩, g1456138⟩ := q1456137
            have hF := FM.tr hF g1456138 rfl
            refine q_isub hx hb dX0_fewestKept_82 rfl rfl (by omega) (fun x1456141 h1456142 => ?_)
            refine gs_116 E hW r1456125 ⟨by omega, by omega⟩ dX0_fewestKept_83 (fun f1456143 H locs e1456144 n1456145 g1456146 hW => ?_)
            have hF := FM.tr hF g1456146 rfl
            refine q_iinc hx hb dX0_fewestKept_84 hl (k := 2) rfl rfl rfl (by omega) (by decide) (fun i1456147 ls h1456148 hl => ?_)
            have hl : lv_has ls 7 [(5, .int i1456147), (3, .long x1456122), (6, .int y1454912), (0, .ref h0), (1, .int u1), (2, .int u2)] := hl
            exact J1456097 f1456143 i1456147 x1456122 ((fm_I g1456146 r1454921 rfl).trans ((fm_I g1456138 r1454921 rfl).trans ((fm_I g1456132 r1454921 rfl).trans ((fm_I g1456117 r1454921 rfl).trans m1454923)))) ((fm_R g1456146 r1454921 rfl).trans ((fm_R g1456138 r1454921 rfl).trans ((fm_R g1456132 r1454921 rfl).trans ((fm_R g1456117 r1454921 rfl).trans m1456036)))) ((fm_R g1456146 rh0 rfl).trans ((fm_R g1456138 rh0 rfl).trans ((fm_R g1456132 rh0 rfl).trans m1456127))) (by omega) (by omega) _ _ _ hW hF (lv_sub hl [2, 0, 1, 3, 4, 5] rfl)
  have hk1456149 : (0 : Int32).toInt = 0 := rfl
  have hk1456150 : (0 : Int32).toInt = 0 := rfl
  have hk1456151 : (0 : Int64).toInt = 0 := rfl
  exact L1454918 41 f0 0 0 0 (by decide) (by decide) (by omega) (by omega) _ _ _ hW hF (lv_sub hl [0, 1, 2, 3, 4, 5] rfl)
def ms_X0_keepsFor : List (Nat × Nat) := [(115, 0)]
def po_X0_keepsFor (kp : Nat → Nat) (L : List Nat) (f0 : Nat → va_E) (h0 : Nat) (u1 : Int32) (u2 : Int32) : Option Value → (Nat → va_E) → Prop := fun v f => (∃ r : Int32, v = some (.int r) ∧ ((0 : Int) ≤ r.toInt ∧ r.toInt ≤ 1)) ∧ FM kp L ms_X0_keepsFor f0 f
set_option maxHeartbeats 4000000 in
set_option maxRecDepth 100000 in
theorem c_X0_keepsFor (l : Launch) (G : va_G) (cI cJ cZ cD cR cT : ClassId) (kp : Nat → Nat) (L : List Nat) (f0 : Nat → va_E) (hTH : TH cI cJ cZ cD cR cT kp L f0) (sz : Nat) (h0 : Nat) (u1 : Int32) (u2 : Int32) (rh0 : RK kp L h0 0) (pu1 : (-1 : Int) ≤ u1.toInt ∧ u1.toInt ≤ 39) (pu2 : (0 : Int) ≤ u2.toInt ∧ u2.toInt ≤ 39) : Met l yX0_keepsFor (Cond.code yX0_keepsFor cX0_keepsFor 3 (some .boolean) :: wTab) ({ frames := 5, cells := 0, slots := 0, locals := 143 }) (va_Pc [.ref h0, .int u1, .int u2] (PreW G (tys6 cI cJ cZ cD cR cT) (va_pl L f0) sz)) (QT (po_X0_keepsFor kp L f0 h0 u1 u2) G cI cJ cZ cD cR cT (va_A (va_pl L f0) sz) kp L) 0 0 (va_A (va_pl L f0) sz) := by
  refine metT (by decide) (Nat.le_of_ble_eq_true rfl) hTH ?_
  intro p e s m below meth c A ls E hW hl
  obtain ⟨hx, hb, -, hml, hown, hts, -, -, -⟩ := id E
  have hF : FM kp L ms_X0_keepsFor f0 f0 := FM.rf
  have hl : lv_has ls 3 [(0, .ref h0), (1, .int u1), (2, .int u2)] := hl
  refine lv_iload_n hx hb dX0_keepsFor_0 rfl (lv_at hl 1 rfl) ?_
  refine lv_iconst (v := (-1)) hx hb dX0_keepsFor_1 (by decide) ?_
  have J1456162 : ∀ (f1456159 : Nat → va_E) (y1456160 : Int32) (b1456161 : (0 : Int) ≤ y1456160.toInt ∧ y1456160.toInt ≤ 1) (H : Heap) (locs : List Loc) (ls : Array Slot), WS G cI cJ cZ cD cR cT A kp L f1456159 s H locs → FM kp L ms_X0_keepsFor f0 f1456159 → lv_has ls 3 [(0, .ref h0), (1, .int u1), (2, .int u2)] → W p l e ({ frames := 5, cells := 0, slots := 0, locals := 143 }) s m ([.ref h0, .int u1, .int u2] : List Value).toArray below meth c H locs 0 0 (MQ below (QT (po_X0_keepsFor kp L f0 h0 u1 u2) G cI cJ cZ cD cR cT A kp L) ([.ref h0, .int u1, .int u2] : List Value).toArray s 0 0 A) (F0 m 22 ls [.int y1456160]) := by
    intro f1456159 y1456160 b1456161 H locs ls hW hF hl
    exact e_Z E hW rfl (by omega) ⟨⟨_, rfl, (by first | omega | trivial)⟩, hF⟩ dX0_keepsFor_22
  refine q_icmp_eq (Y := -1) (tgt := 21) hx hb dX0_keepsFor_2 (by decide) rfl rfl (fun c1456163 => ?_) (fun c1456163 => ?_)
  · refine lv_iconst (v := 0) hx hb dX0_keepsFor_21 (by decide) ?_
    exact J1456162 f0 0 (by decide) _ _ _ hW hF (lv_sub hl [0, 1, 2] rfl)
  · refine lv_aload_n hx hb dX0_keepsFor_5 rfl (lv_at hl 0 rfl) ?_
    refine lv_sipush (v := 262) hx hb dX0_keepsFor_6 (by decide) ?_
    refine lv_iload_n hx hb dX0_keepsFor_9 rfl (lv_at hl 1 rfl) ?_
    refine lv_iload_n hx hb dX0_keepsFor_10 rfl (lv_at hl 2 rfl) ?_
    refine t_callV (As := [.int 262, .int u1, .int u2]) (rest := []) E hW (c_X0_anyHolds l G cI cJ cZ cD cR cT kp L f0 hW.2.2.2 _ h0 262 u1 u2 rh0 (by decide) (by omega) (by omega)) rh0 (by decide) rfl wk_X0_anyHolds tw_752 rfl ⟨Nat.le_of_ble_eq_true rfl, Nat.le_of_ble_eq_true rfl⟩ ⟨rfl, rfl⟩ hl.1 rfl (Nat.le_of_ble_eq_true rfl) dX0_keepsFor_11 ⟨Nat.le_of_ble_eq_true rfl, Nat.le_of_ble_eq_true rfl⟩ (fun v1456164 f1456165 H locs q1456166 hW => ?_)
    obtain ⟨⟨x1456168, rfl, p1456169⟩, g1456167⟩ := q1456166
    have p1456169 : (0 : Int) ≤ x1456168.toInt ∧ x1456168.toInt ≤ 1 := p1456169
    have hF := FM.tr hF g1456167 rfl
    refine q_if_eq (tgt := 21) hx hb dX0_keepsFor_14 (by decide) rfl (fun c1456170 => ?_) (fun c1456170 => ?_)
    · refine lv_iconst (v := 0) hx hb dX0_keepsFor_21 (by decide) ?_
      exact J1456162 f1456165 0 (by decide) _ _ _ hW hF (lv_sub hl [0, 1, 2] rfl)
    · refine lv_iconst (v := 1) hx hb dX0_keepsFor_17 (by decide) ?_
      refine lv_goto (tgt := 22) hx hb dX0_keepsFor_18 (by decide) ?_
      exact J1456162 f1456165 1 (by decide) _ _ _ hW hF (lv_sub hl [0, 1, 2] rfl)
def ms_X0_lookAtNow : List (Nat × Nat) := [(0, 14), (222, 0), (223, 0)]
def po_X0_lookAtNow (kp : Nat → Nat) (L : List Nat) (f0 : Nat → va_E) (h0 : Nat) : Option Value → (Nat → va_E) → Prop := fun v f => v = none ∧ FM kp L ms_X0_lookAtNow f0 f
set_option maxHeartbeats 4000000 in
set_option maxRecDepth 100000 in
theorem c_X0_lookAtNow (l : Launch) (G : va_G) (cI cJ cZ cD cR cT : ClassId) (kp : Nat → Nat) (L : List Nat) (f0 : Nat → va_E) (hTH : TH cI cJ cZ cD cR cT kp L f0) (sz : Nat) (h0 : Nat) (rh0 : RK kp L h0 0) : Met l yX0_lookAtNow (Cond.code yX0_lookAtNow cX0_lookAtNow 1 none :: wTab) ({ frames := 3, cells := 0, slots := 0, locals := 88 }) (va_Pc [.ref h0] (PreW G (tys6 cI cJ cZ cD cR cT) (va_pl L f0) sz)) (QT (po_X0_lookAtNow kp L f0 h0) G cI cJ cZ cD cR cT (va_A (va_pl L f0) sz) kp L) 0 0 (va_A (va_pl L f0) sz) := by
  refine metT (by decide) (Nat.le_of_ble_eq_true rfl) hTH ?_
  intro p e s m below meth c A ls E hW hl
  obtain ⟨hx, hb, -, hml, hown, hts, -, -, -⟩ := id E
  have hF : FM kp L ms_X0_lookAtNow f0 f0 := FM.rf
  have hl : lv_has ls 1 [(0, .ref h0)] := hl
  refine lv_aload_n hx hb dX0_lookAtNow_0 rfl (lv_at hl 0 rfl) ?_
  refine fg_RX0_42 E hW rh0 dX0_lookAtNow_1 (fun a1456171 m1456172 r1456173 => ?_)
  refine lv_aload_n hx hb dX0_lookAtNow_4 rfl (lv_at hl 0 rfl) ?_
  refine fg_RX0_93 E hW rh0 dX0_lookAtNow_5 (fun y1456174 m1456175 b1456176 => ?_)
  refine t_callV (As := [.int y1456174]) (rest := []) E hW (c_X2_mark l G cI cJ cZ cD cR cT kp L f0 hW.2.2.2 _ a1456171 y1456174 r1456173 (by omega)) r1456173 (by decide) rfl wk_X2_mark tw_691 rfl ⟨Nat.le_of_ble_eq_true rfl, Nat.le_of_ble_eq_true rfl⟩ ⟨rfl, rfl⟩ hl.1 rfl (Nat.le_of_ble_eq_true rfl) dX0_lookAtNow_8 ⟨Nat.le_of_ble_eq_true rfl, Nat.le_of_ble_eq_true rfl⟩ (fun v1456177 f1456178 H locs q1456179 hW => ?_)
  obtain ⟨rfl, g1456180⟩ := q1456179
  have hF := FM.tr hF g1456180 rfl
  refine lv_aload_n hx hb dX0_lookAtNow_11 rfl (lv_at hl 0 rfl) ?_
  refine lv_aload_n hx hb dX0_lookAtNow_12 rfl (lv_at hl 0 rfl) ?_
  refine fg_RX0_97 E hW rh0 dX0_lookAtNow_13 (fun y1456181 m1456182 b1456183 => ?_)
  have J1456204 : ∀ (f1456199 : Nat → va_E) (y1456203 : Int32) (m1456200 : oR (f1456199 h0) 4 = a1456171) (m1456201 : oI (f1456199 h0) 6 = y1456174) (m1456202 : oI (f1456199 h0) 9 = y1456181) (H : Heap) (locs : List Loc) (ls : Array Slot), WS G cI cJ cZ cD cR cT A kp L f1456199 s H locs → FM kp L ms_X0_lookAtNow f0 f1456199 → lv_has ls 1 [(0, .ref h0)] → W p l e ({ frames := 3, cells := 0, slots := 0, locals := 88 }) s m ([.ref h0] : List Value).toArray below meth c H locs 0 0 (MQ below (QT (po_X0_lookAtNow kp L f0 h0) G cI cJ cZ cD cR cT A kp L) ([.ref h0] : List Value).toArray s 0 0 A) (F0 m 37 ls [.int y1456203, .ref h0]) := by
    intro f1456199 y1456203 m1456200 m1456201 m1456202 H locs ls hW hF hl
    refine fp_RX0_121 E hW rh0 dX0_lookAtNow_37 (fun f1456205 H locs e1456206 n1456207 g1456208 hW => ?_)
    have hF := FM.tr hF g1456208 rfl
    exact e_V E hW rfl ⟨rfl, hF⟩ dX0_lookAtNow_40
  refine q_if_eq (tgt := 26) hx hb dX0_lookAtNow_16 (by decide) rfl (fun c1456209 => ?_) (fun c1456209 => ?_)
  · refine lv_aload_n hx hb dX0_lookAtNow_26 rfl (lv_at hl 0 rfl) ?_
    refine fg_RX0_35 E hW rh0 dX0_lookAtNow_27 (fun a1456210 m1456211 r1456212 => ?_)
    refine lv_aload_n hx hb dX0_lookAtNow_30 rfl (lv_at hl 0 rfl) ?_
    refine fg_RX0_93 E hW rh0 dX0_lookAtNow_31 (fun y1456213 m1456214 b1456215 => ?_)
    obtain rfl : y1456174 = y1456213 := (((fm_I g1456180 rh0 rfl).trans m1456175)).symm.trans m1456214
    refine t_callV (As := [.int y1456174]) (rest := [.ref h0]) E hW (c_X7_priceIn l G cI cJ cZ cD cR cT kp L f1456178 hW.2.2.2 _ a1456210 y1456174 r1456212 (by omega)) r1456212 (by decide) rfl wk_X7_priceIn tw_700 rfl ⟨Nat.le_of_ble_eq_true rfl, Nat.le_of_ble_eq_true rfl⟩ ⟨rfl, rfl⟩ hl.1 rfl (Nat.le_of_ble_eq_true rfl) dX0_lookAtNow_34 ⟨Nat.le_of_ble_eq_true rfl, Nat.le_of_ble_eq_true rfl⟩ (fun v1456216 f1456217 H locs q1456218 hW => ?_)
    obtain ⟨⟨x1456220, rfl, p1456221⟩, g1456219⟩ := q1456218
    clear p1456221
    have hF := FM.tr hF g1456219 rfl
    exact J1456204 f1456217 x1456220 ((fm_R g1456219 rh0 rfl).trans ((fm_R g1456180 rh0 rfl).trans m1456172)) ((fm_I g1456219 rh0 rfl).trans m1456214) ((fm_I g1456219 rh0 rfl).trans m1456182) _ _ _ hW hF (lv_sub hl [0] rfl)
  · refine lv_aload_n hx hb dX0_lookAtNow_19 rfl (lv_at hl 0 rfl) ?_
    refine fg_RX0_107 E hW rh0 dX0_lookAtNow_20 (fun y1456222 m1456223 => ?_)
    refine lv_goto (tgt := 37) hx hb dX0_lookAtNow_23 (by decide) ?_
    exact J1456204 f1456178 y1456222 ((fm_R g1456180 rh0 rfl).trans m1456172) ((fm_I g1456180 rh0 rfl).trans m1456175) m1456182 _ _ _ hW hF (lv_sub hl [0] rfl)
def ms_X0_reap : List (Nat × Nat) := [(345, 0)]
def po_X0_reap (kp : Nat → Nat) (L : List Nat) (f0 : Nat → va_E) (h0 : Nat) : Option Value → (Nat → va_E) → Prop := fun v f => v = none ∧ FM kp L ms_X0_reap f0 f
set_option maxHeartbeats 4000000 in
set_option maxRecDepth 100000 in
theorem c_X0_reap (l : Launch) (G : va_G) (cI cJ cZ cD cR cT : ClassId) (kp : Nat → Nat) (L : List Nat) (f0 : Nat → va_E) (hTH : TH cI cJ cZ cD cR cT kp L f0) (sz : Nat) (h0 : Nat) (rh0 : RK kp L h0 0) : Met l yX0_reap (Cond.code yX0_reap cX0_reap 5 none :: wTab) ({ frames := 2, cells := 0, slots := 0, locals := 63 }) (va_Pc [.ref h0] (PreW G (tys6 cI cJ cZ cD cR cT) (va_pl L f0) sz)) (QT (po_X0_reap kp L f0 h0) G cI cJ cZ cD cR cT (va_A (va_pl L f0) sz) kp L) 0 0 (va_A (va_pl L f0) sz) := by
  refine metT (by decide) (Nat.le_of_ble_eq_true rfl) hTH ?_
  intro p e s m below meth c A ls E hW hl
  obtain ⟨hx, hb, -, hml, hown, hts, -, -, -⟩ := id E
  have hF : FM kp L ms_X0_reap f0 f0 := FM.rf
  have hl : lv_has ls 5 [(0, .ref h0)] := hl
  refine lv_aload_n hx hb dX0_reap_0 rfl (lv_at hl 0 rfl) ?_
  refine fg_RX0_97 E hW rh0 dX0_reap_1 (fun y1456225 m1456226 b1456227 => ?_)
  have J1456250 : ∀ (y1456248 : Int32) (b1456249 : (0 : Int) ≤ y1456248.toInt ∧ y1456248.toInt ≤ 1) (H : Heap) (locs : List Loc) (ls : Array Slot), WS G cI cJ cZ cD cR cT A kp L f0 s H locs → FM kp L ms_X0_reap f0 f0 → lv_has ls 5 [(0, .ref h0)] → W p l e ({ frames := 2, cells := 0, slots := 0, locals := 63 }) s m ([.ref h0] : List Value).toArray below meth c H locs 0 0 (MQ below (QT (po_X0_reap kp L f0 h0) G cI cJ cZ cD cR cT A kp L) ([.ref h0] : List Value).toArray s 0 0 A) (F0 m 45 ls [.int y1456248]) := by
    intro y1456248 b1456249 H locs ls hW hF hl
    refine lv_istore_n (lv' := [(1, .int y1456248), (0, .ref h0)]) hx hb dX0_reap_45 rfl hl (by decide) rfl (fun ls hl => ?_)
    refine lv_iconst (v := 0) hx hb dX0_reap_46 (by decide) ?_
    refine lv_istore_n (lv' := [(2, .int 0), (1, .int y1456248), (0, .ref h0)]) hx hb dX0_reap_47 rfl hl (by decide) rfl (fun ls hl => ?_)
    have L1458592 : ∀ (n : Nat), ∀ (f1458588 : Nat → va_E) (y1458590 : Int32) (m1458589 : oI (f1458588 h0) 9 = y1456225) (b1458591 : (0 : Int) ≤ y1458590.toInt ∧ y1458590.toInt ≤ 40) (hm : (41 : Int) - y1458590.toInt ≤ n) (H : Heap) (locs : List Loc) (ls : Array Slot), WS G cI cJ cZ cD cR cT A kp L f1458588 s H locs → FM kp L ms_X0_reap f0 f1458588 → lv_has ls 5 [(2, .int y1458590), (1, .int y1456248), (0, .ref h0)] → W p l e ({ frames := 2, cells := 0, slots := 0, locals := 63 }) s m ([.ref h0] : List Value).toArray below meth c H locs 0 0 (MQ below (QT (po_X0_reap kp L f0 h0) G cI cJ cZ cD cR cT A kp L) ([.ref h0] : List Value).toArray s 0 0 A) (F0 m 48 ls []) := by
      intro n
      induction n with
      | zero =>
        intro f1458588 y1458590 m1458589 b1458591 hm H locs ls hW hF hl
        have hz := i32_b y1458590
        exfalso; omega
      | succ n ih =>
        intro f1458588 y1458590 m1458589 b1458591 hm H locs ls hW hF hl
        have ih48 := ih
        refine lv_iload_n hx hb dX0_reap_48 rfl (lv_at hl 1 rfl) ?_
        have J1458711 : ∀ (H : Heap) (locs : List Loc) (ls : Array Slot), WS G cI cJ cZ cD cR cT A kp L f1458588 s H locs → FM kp L ms_X0_reap f0 f1458588 → lv_has ls 5 [(2, .int y1458590), (1, .int y1456248), (0, .ref h0)] → W p l e ({ frames := 2, cells := 0, slots := 0, locals := 63 }) s m ([.ref h0] : List Value).toArray below meth c H locs 0 0 (MQ below (QT (po_X0_reap kp L f0 h0) G cI cJ cZ cD cR cT A kp L) ([.ref h0] : List Value).toArray s 0 0 A) (F0 m 145 ls []) := by
          intro  H locs ls hW hF hl
          exact e_V E hW rfl ⟨rfl, hF⟩ dX0_reap_145
        refine q_if_eq (tgt := 145) hx hb dX0_reap_49 (by decide) rfl (fun c1458712 => ?_) (fun c1458712 => ?_)
        · exact J1458711   _ _ _ hW hF (lv_sub hl [0, 1, 2] rfl)
        · refine lv_iload_n hx hb dX0_reap_52 rfl (lv_at hl 0 rfl) ?_
          refine lv_aload_n hx hb dX0_reap_53 rfl (lv_at hl 2 rfl) ?_
          refine fg_RX0_21 E hW rh0 dX0_reap_54 (fun a1458713 m1458714 r1458715 => ?_)
          refine fg_RX0_171 E hW r1458715 dX0_reap_57 (fun y1458716 m1458717 b1458718 => ?_)
          refine q_icmp_ge (tgt := 145) hx hb dX0_reap_60 (by decide) rfl rfl (fun c1458719 => ?_) (fun c1458719 => ?_)
          · exact J1458711   _ _ _ hW hF (lv_sub hl [0, 1, 2] rfl)
          · refine lv_aload_n hx hb dX0_reap_63 rfl (lv_at hl 2 rfl) ?_
            refine fg_RX0_21 E hW rh0 dX0_reap_64 (fun a1458720 m1458721 r1458722 => ?_)
            obtain rfl : a1458713 = a1458720 := (m1458714).symm.trans m1458721
            refine fg_RX0_124 E hW r1458715 dX0_reap_67 (fun a1458723 m1458724 r1458725 => ?_)
            refine lv_iload_n hx hb dX0_reap_70 rfl (lv_at hl 0 rfl) ?_
            refine gl_164 E hW r1458725 ⟨by omega, by omega⟩ dX0_reap_71 (fun y1458726 m1458727 b1458728 => ?_)
            refine lv_istore_n (lv' := [(3, .int y1458726), (2, .int y1458590), (1, .int y1456248), (0, .ref h0)]) hx hb dX0_reap_72 rfl hl (by decide) rfl (fun ls hl => ?_)
            refine lv_aload_n hx hb dX0_reap_73 rfl (lv_at hl 3 rfl) ?_
            refine fg_RX0_97 E hW rh0 dX0_reap_74 (fun y1458729 m1458730 b1458731 => ?_)
            obtain rfl : y1456225 = y1458729 := (m1458589).symm.trans m1458730
            have J1458764 : ∀ (f1458758 : Nat → va_E) (y1458763 : Int32) (m1458759 : oI (f1458758 a1458713) 0 = y1458716) (m1458760 : oR (f1458758 a1458713) 4 = a1458723) (m1458761 : oR (f1458758 h0) 1 = a1458713) (m1458762 : oI (f1458758 h0) 9 = y1456225) (H : Heap) (locs : List Loc) (ls : Array Slot), WS G cI cJ cZ cD cR cT A kp L f1458758 s H locs → FM kp L ms_X0_reap f0 f1458758 → lv_has ls 5 [(3, .int y1458726), (2, .int y1458590), (1, .int y1456248), (0, .ref h0)] → W p l e ({ frames := 2, cells := 0, slots := 0, locals := 63 }) s m ([.ref h0] : List Value).toArray below meth c H locs 0 0 (MQ below (QT (po_X0_reap kp L f0 h0) G cI cJ cZ cD cR cT A kp L) ([.ref h0] : List Value).toArray s 0 0 A) (F0 m 112 ls [.int y1458763]) := by
              intro f1458758 y1458763 m1458759 m1458760 m1458761 m1458762 H locs ls hW hF hl
              refine lv_istore (lv' := [(4, .int y1458763), (3, .int y1458726), (2, .int y1458590), (1, .int y1456248), (0, .ref h0)]) hx hb dX0_reap_112 hl (by decide) rfl (fun ls hl => ?_)
              refine lv_iload_n hx hb dX0_reap_114 rfl (lv_at hl 1 rfl) ?_
              refine lv_iconst (v := (-1)) hx hb dX0_reap_115 (by decide) ?_
              have J1458785 : ∀ (f1458780 : Nat → va_E) (m1458781 : oI (f1458780 a1458713) 0 = y1458716) (m1458782 : oR (f1458780 a1458713) 4 = a1458723) (m1458783 : oR (f1458780 h0) 1 = a1458713) (m1458784 : oI (f1458780 h0) 9 = y1456225) (H : Heap) (locs : List Loc) (ls : Array Slot), WS G cI cJ cZ cD cR cT A kp L f1458780 s H locs → FM kp L ms_X0_reap f0 f1458780 → lv_has ls 5 [(4, .int y1458763), (3, .int y1458726), (2, .int y1458590), (1, .int y1456248), (0, .ref h0)] → W p l e ({ frames := 2, cells := 0, slots := 0, locals := 63 }) s m ([.ref h0] : List Value).toArray below meth c H locs 0 0 (MQ below (QT (po_X0_reap kp L f0 h0) G cI cJ cZ cD cR cT A kp L) ([.ref h0] : List Value).toArray s 0 0 A) (F0 m 139 ls []) := by
                intro f1458780 m1458781 m1458782 m1458783 m1458784 H locs ls hW hF hl
                refine q_iinc hx hb dX0_reap_139 hl (k := 2) rfl rfl rfl (by omega) (by decide) (fun i1458786 ls h1458787 hl => ?_)
                have hl : lv_has ls 5 [(2, .int i1458786), (4, .int y1458763), (3, .int y1458726), (1, .int y1456248), (0, .ref h0)] := hl
                refine lv_goto (tgt := 48) hx hb dX0_reap_142 (by decide) ?_
                exact ih48 f1458780 i1458786 m1458784 (by omega) (by omega) _ _ _ hW hF (lv_sub hl [0, 3, 4] rfl)
              refine q_icmp_eq (Y := -1) (tgt := 139) hx hb dX0_reap_116 (by decide) rfl rfl (fun c1458788 => ?_) (fun c1458788 => ?_)
              · exact J1458785 f1458758 m1458759 m1458760 m1458761 m1458762 _ _ _ hW hF (lv_sub hl [0, 1, 2, 3, 4] rfl)
              · refine lv_iload hx hb dX0_reap_119 (lv_at hl 0 rfl) ?_
                refine lv_iconst (v := (-1)) hx hb dX0_reap_121 (by decide) ?_
                refine q_icmp_eq (Y := -1) (tgt := 139) hx hb dX0_reap_122 (by decide) rfl rfl (fun c1458789 => ?_) (fun c1458789 => ?_)
                · exact J1458785 f1458758 m1458759 m1458760 m1458761 m1458762 _ _ _ hW hF (lv_sub hl [0, 1, 2, 3, 4] rfl)
                · refine lv_aload_n hx hb dX0_reap_125 rfl (lv_at hl 4 rfl) ?_
                  refine fg_RX0_12 E hW rh0 dX0_reap_126 (fun a1458790 m1458791 r1458792 => ?_)
                  refine fg_RX0_179 E hW r1458792 dX0_reap_129 (fun a1458793 m1458794 r1458795 => ?_)
                  refine lv_iload_n hx hb dX0_reap_132 rfl (lv_at hl 1 rfl) ?_
                  refine lv_dup2_11 hx hb dX0_reap_133 rfl rfl ?_
                  refine gl_345 E hW r1458795 ⟨by omega, by omega⟩ dX0_reap_134 (fun y1458796 m1458797 => ?_)
                  refine lv_iload hx hb dX0_reap_135 (lv_at hl 0 rfl) ?_
                  refine u_iadd hx hb dX0_reap_137 (fun x1458799 => ?_)
                  refine gs_345 E hW r1458795 ⟨by omega, by omega⟩ dX0_reap_138 (fun f1458800 H locs e1458801 n1458802 g1458803 hW => ?_)
                  have hF := FM.tr hF g1458803 rfl
                  exact J1458785 f1458800 ((fm_I g1458803 r1458715 rfl).trans m1458759) ((fm_R g1458803 r1458715 rfl).trans m1458760) ((fm_R g1458803 rh0 rfl).trans m1458761) ((fm_I g1458803 rh0 rfl).trans m1458762) _ _ _ hW hF (lv_sub hl [0, 1, 2, 3, 4] rfl)
            refine q_if_eq (tgt := 100) hx hb dX0_reap_77 (by decide) rfl (fun c1458804 => ?_) (fun c1458804 => ?_)
            · refine lv_aload_n hx hb dX0_reap_100 rfl (lv_at hl 3 rfl) ?_
              refine fg_RX0_35 E hW rh0 dX0_reap_101 (fun a1458805 m1458806 r1458807 => ?_)
              refine lv_iload_n hx hb dX0_reap_104 rfl (lv_at hl 1 rfl) ?_
              refine lv_aload_n hx hb dX0_reap_105 rfl (lv_at hl 3 rfl) ?_
              refine fg_RX0_93 E hW rh0 dX0_reap_106 (fun y1458808 m1458809 b1458810 => ?_)
              refine t_callV (As := [.int y1458590, .int y1458808]) (rest := []) E hW (c_X7_sacksOf l G cI cJ cZ cD cR cT kp L f1458588 hW.2.2.2 _ a1458805 y1458590 y1458808 r1458807 (by omega) (by omega)) r1458807 (by decide) rfl wk_X7_sacksOf tw_1123 rfl ⟨Nat.le_of_ble_eq_true rfl, Nat.le_of_ble_eq_true rfl⟩ ⟨rfl, rfl⟩ hl.1 rfl (Nat.le_of_ble_eq_true rfl) dX0_reap_109 ⟨Nat.le_of_ble_eq_true rfl, Nat.le_of_ble_eq_true rfl⟩ (fun v1458811 f1458812 H locs q1458813 hW => ?_)
              obtain ⟨⟨x1458815, rfl, p1458816⟩, g1458814⟩ := q1458813
              clear p1458816
              have hF := FM.tr hF g1458814 rfl
              exact J1458764 f1458812 x1458815 ((fm_I g1458814 r1458715 rfl).trans m1458717) ((fm_R g1458814 r1458715 rfl).trans m1458724) ((fm_R g1458814 rh0 rfl).trans m1458721) ((fm_I g1458814 rh0 rfl).trans m1458730) _ _ _ hW hF (lv_sub hl [0, 1, 2, 3] rfl)
            · refine lv_aload_n hx hb dX0_reap_80 rfl (lv_at hl 3 rfl) ?_
              refine fg_RX0_110 E hW rh0 dX0_reap_81 (fun y1458817 m1458818 => ?_)
              refine lv_aload_n hx hb dX0_reap_84 rfl (lv_at hl 3 rfl) ?_
              refine fg_RX0_21 E hW rh0 dX0_reap_85 (fun a1458820 m1458821 r1458822 => ?_)
              obtain rfl : a1458713 = a1458820 := (m1458721).symm.trans m1458821
              refine fg_RX0_172 E hW r1458715 dX0_reap_88 (fun a1458823 m1458824 r1458825 => ?_)
              refine lv_iload_n hx hb dX0_reap_91 rfl (lv_at hl 1 rfl) ?_
              refine gl_162 E hW r1458825 ⟨by omega, by omega⟩ dX0_reap_92 (fun y1458826 m1458827 => ?_)
              refine u_imul hx hb dX0_reap_93 (fun x1458829 => ?_)
              refine lv_bipush (v := 100) hx hb dX0_reap_94 (by decide) ?_
              refine u_idiv hx hb dX0_reap_96 (by decide) (fun x1458830 => ?_)
              refine lv_goto (tgt := 112) hx hb dX0_reap_97 (by decide) ?_
              exact J1458764 f1458588 x1458830 m1458717 m1458724 m1458821 m1458730 _ _ _ hW hF (lv_sub hl [0, 1, 2, 3] rfl)
    have hk1458831 : (0 : Int32).toInt = 0 := rfl
    exact L1458592 41 f0 0 m1456226 (by decide) (by omega) _ _ _ hW hF (lv_sub hl [0, 1, 2] rfl)
  refine q_if_eq (tgt := 25) hx hb dX0_reap_4 (by decide) rfl (fun c1458832 => ?_) (fun c1458832 => ?_)
  · refine lv_aload_n hx hb dX0_reap_25 rfl (lv_at hl 0 rfl) ?_
    refine fg_RX0_35 E hW rh0 dX0_reap_26 (fun a1458833 m1458834 r1458835 => ?_)
    refine fg_RX0_167 E hW r1458835 dX0_reap_29 (fun a1458836 m1458837 r1458838 => ?_)
    refine lv_aload_n hx hb dX0_reap_32 rfl (lv_at hl 0 rfl) ?_
    refine fg_RX0_93 E hW rh0 dX0_reap_33 (fun y1458839 m1458840 b1458841 => ?_)
    refine gl_521 E hW r1458838 ⟨by omega, by omega⟩ dX0_reap_36 (fun o1458842 m1458844 k1458843 => ?_)
    rcases o1458842 with _ | a1458845
    · have hl : lv_has ls 5 [(0, .ref h0)] := hl
      show W p l e ({ frames := 2, cells := 0, slots := 0, locals := 63 }) s m ([.ref h0] : List Value).toArray below meth c _ _ 0 0 (MQ below (QT (po_X0_reap kp L f0 h0) G cI cJ cZ cD cR cT A kp L) ([.ref h0] : List Value).toArray s 0 0 A) (F0 m 37 ls [.null])
      refine lv_ifnullN (tgt := 44) hx hb dX0_reap_37 (by decide) ?_
      refine lv_iconst (v := 0) hx hb dX0_reap_44 (by decide) ?_
      exact J1456250 0 (by decide) _ _ _ hW hF (lv_sub hl [0] rfl)
    · have r1458846 : RK kp L a1458845 6 := k1458843 _ rfl
      have hl : lv_has ls 5 [(0, .ref h0)] := hl
      show W p l e ({ frames := 2, cells := 0, slots := 0, locals := 63 }) s m ([.ref h0] : List Value).toArray below meth c _ _ 0 0 (MQ below (QT (po_X0_reap kp L f0 h0) G cI cJ cZ cD cR cT A kp L) ([.ref h0] : List Value).toArray s 0 0 A) (F0 m 37 ls [.ref a1458845])
      refine lv_ifnull hx hb dX0_reap_37 ?_
      refine lv_iconst (v := 1) hx hb dX0_reap_40 (by decide) ?_
      refine lv_goto (tgt := 45) hx hb dX0_reap_41 (by decide) ?_
      exact J1456250 1 (by decide) _ _ _ hW hF (lv_sub hl [0] rfl)
  · refine lv_aload_n hx hb dX0_reap_7 rfl (lv_at hl 0 rfl) ?_
    refine fg_RX0_93 E hW rh0 dX0_reap_8 (fun y1458847 m1458848 b1458849 => ?_)
    refine lv_bipush (v := 13) hx hb dX0_reap_11 (by decide) ?_
    refine q_irem (Y := 13) hx hb dX0_reap_13 rfl rfl (by omega) (by omega) (fun x1458850 h1458851 => ?_)
    refine q_if_ne (tgt := 21) hx hb dX0_reap_14 (by decide) rfl (fun c1458852 => ?_) (fun c1458852 => ?_)
    · refine lv_iconst (v := 0) hx hb dX0_reap_21 (by decide) ?_
      refine lv_goto (tgt := 45) hx hb dX0_reap_22 (by decide) ?_
      exact J1456250 0 (by decide) _ _ _ hW hF (lv_sub hl [0] rfl)
    · refine lv_iconst (v := 1) hx hb dX0_reap_17 (by decide) ?_
      refine lv_goto (tgt := 45) hx hb dX0_reap_18 (by decide) ?_
      exact J1456250 1 (by decide) _ _ _ hW hF (lv_sub hl [0] rfl)
def ms_X0_payMortgages : List (Nat × Nat) := [(169, 0), (171, 0)]
def po_X0_payMortgages (kp : Nat → Nat) (L : List Nat) (f0 : Nat → va_E) (h0 : Nat) : Option Value → (Nat → va_E) → Prop := fun v f => v = none ∧ FM kp L ms_X0_payMortgages f0 f
set_option maxHeartbeats 4000000 in
set_option maxRecDepth 100000 in
theorem c_X0_payMortgages (l : Launch) (G : va_G) (cI cJ cZ cD cR cT : ClassId) (kp : Nat → Nat) (L : List Nat) (f0 : Nat → va_E) (hTH : TH cI cJ cZ cD cR cT kp L f0) (sz : Nat) (h0 : Nat) (rh0 : RK kp L h0 0) : Met l yX0_payMortgages (Cond.code yX0_payMortgages cX0_payMortgages 2 none :: wTab) ({ frames := 1, cells := 0, slots := 0, locals := 40 }) (va_Pc [.ref h0] (PreW G (tys6 cI cJ cZ cD cR cT) (va_pl L f0) sz)) (QT (po_X0_payMortgages kp L f0 h0) G cI cJ cZ cD cR cT (va_A (va_pl L f0) sz) kp L) 0 0 (va_A (va_pl L f0) sz) := by
  refine metT (by decide) (Nat.le_of_ble_eq_true rfl) hTH ?_
  intro p e s m below meth c A ls E hW hl
  obtain ⟨hx, hb, -, hml, hown, hts, -, -, -⟩ := id E
  have hF : FM kp L ms_X0_payMortgages f0 f0 := FM.rf
  have hl : lv_has ls 2 [(0, .ref h0)] := hl
  refine lv_iconst (v := 0) hx hb dX0_payMortgages_0 (by decide) ?_
  refine lv_istore_n (lv' := [(1, .int 0), (0, .ref h0)]) hx hb dX0_payMortgages_1 rfl hl (by decide) rfl (fun ls hl => ?_)
  have L1460341 : ∀ (n : Nat), ∀ (f1460338 : Nat → va_E) (y1460339 : Int32) (b1460340 : (0 : Int) ≤ y1460339.toInt ∧ y1460339.toInt ≤ 8) (hm : (9 : Int) - y1460339.toInt ≤ n) (H : Heap) (locs : List Loc) (ls : Array Slot), WS G cI cJ cZ cD cR cT A kp L f1460338 s H locs → FM kp L ms_X0_payMortgages f0 f1460338 → lv_has ls 2 [(1, .int y1460339), (0, .ref h0)] → W p l e ({ frames := 1, cells := 0, slots := 0, locals := 40 }) s m ([.ref h0] : List Value).toArray below meth c H locs 0 0 (MQ below (QT (po_X0_payMortgages kp L f0 h0) G cI cJ cZ cD cR cT A kp L) ([.ref h0] : List Value).toArray s 0 0 A) (F0 m 2 ls []) := by
    intro n
    induction n with
    | zero =>
      intro f1460338 y1460339 b1460340 hm H locs ls hW hF hl
      have hz := i32_b y1460339
      exfalso; omega
    | succ n ih =>
      intro f1460338 y1460339 b1460340 hm H locs ls hW hF hl
      have ih2 := ih
      refine lv_iload_n hx hb dX0_payMortgages_2 rfl (lv_at hl 0 rfl) ?_
      refine lv_aload_n hx hb dX0_payMortgages_3 rfl (lv_at hl 1 rfl) ?_
      refine fg_RX0_21 E hW rh0 dX0_payMortgages_4 (fun a1460342 m1460343 r1460344 => ?_)
      refine fg_RX0_216 E hW r1460344 dX0_payMortgages_7 (fun y1460345 m1460346 b1460347 => ?_)
      refine q_icmp_ge (tgt := 106) hx hb dX0_payMortgages_10 (by decide) rfl rfl (fun c1460503 => ?_) (fun c1460503 => ?_)
      · exact e_V E hW rfl ⟨rfl, hF⟩ dX0_payMortgages_106
      · refine lv_aload_n hx hb dX0_payMortgages_13 rfl (lv_at hl 1 rfl) ?_
        refine fg_RX0_21 E hW rh0 dX0_payMortgages_14 (fun a1460504 m1460505 r1460506 => ?_)
        obtain rfl : a1460342 = a1460504 := (m1460343).symm.trans m1460505
        refine fg_RX0_219 E hW r1460344 dX0_payMortgages_17 (fun a1460507 m1460508 r1460509 => ?_)
        refine lv_iload_n hx hb dX0_payMortgages_20 rfl (lv_at hl 0 rfl) ?_
        refine gl_171 E hW r1460509 ⟨by omega, by omega⟩ dX0_payMortgages_21 (fun y1460510 m1460511 => ?_)
        refine lv_iconst (v := (-1)) hx hb dX0_payMortgages_22 (by decide) ?_
        have J1460586 : ∀ (f1460582 : Nat → va_E) (m1460583 : oI (f1460582 a1460342) 8 = y1460345) (m1460584 : oR (f1460582 a1460342) 11 = a1460507) (m1460585 : oR (f1460582 h0) 1 = a1460342) (H : Heap) (locs : List Loc) (ls : Array Slot), WS G cI cJ cZ cD cR cT A kp L f1460582 s H locs → FM kp L ms_X0_payMortgages f0 f1460582 → lv_has ls 2 [(1, .int y1460339), (0, .ref h0)] → W p l e ({ frames := 1, cells := 0, slots := 0, locals := 40 }) s m ([.ref h0] : List Value).toArray below meth c H locs 0 0 (MQ below (QT (po_X0_payMortgages kp L f0 h0) G cI cJ cZ cD cR cT A kp L) ([.ref h0] : List Value).toArray s 0 0 A) (F0 m 100 ls []) := by
          intro f1460582 m1460583 m1460584 m1460585 H locs ls hW hF hl
          refine q_iinc hx hb dX0_payMortgages_100 hl (k := 0) rfl rfl rfl (by omega) (by decide) (fun i1460587 ls h1460588 hl => ?_)
          have hl : lv_has ls 2 [(1, .int i1460587), (0, .ref h0)] := hl
          refine lv_goto (tgt := 2) hx hb dX0_payMortgages_103 (by decide) ?_
          exact ih2 f1460582 i1460587 (by omega) (by omega) _ _ _ hW hF (lv_sub hl [0, 1] rfl)
        refine q_icmp_eq (Y := -1) (tgt := 29) hx hb dX0_payMortgages_23 (by decide) rfl rfl (fun c1460589 => ?_) (fun c1460589 => ?_)
        · refine lv_aload_n hx hb dX0_payMortgages_29 rfl (lv_at hl 1 rfl) ?_
          refine fg_RX0_21 E hW rh0 dX0_payMortgages_30 (fun a1460590 m1460591 r1460592 => ?_)
          obtain rfl : a1460342 = a1460590 := (m1460505).symm.trans m1460591
          refine fg_RX0_201 E hW r1460344 dX0_payMortgages_33 (fun a1460593 m1460594 r1460595 => ?_)
          refine lv_iload_n hx hb dX0_payMortgages_36 rfl (lv_at hl 0 rfl) ?_
          refine gl_169 E hW r1460595 ⟨by omega, by omega⟩ dX0_payMortgages_37 (fun y1460596 m1460597 => ?_)
          refine lv_aload_n hx hb dX0_payMortgages_38 rfl (lv_at hl 1 rfl) ?_
          refine fg_RX0_21 E hW rh0 dX0_payMortgages_39 (fun a1460599 m1460600 r1460601 => ?_)
          obtain rfl : a1460342 = a1460599 := (m1460591).symm.trans m1460600
          refine fg_RX0_222 E hW r1460344 dX0_payMortgages_42 (fun a1460602 m1460603 r1460604 => ?_)
          refine lv_iload_n hx hb dX0_payMortgages_45 rfl (lv_at hl 0 rfl) ?_
          refine gl_170 E hW r1460604 ⟨by omega, by omega⟩ dX0_payMortgages_46 (fun y1460605 m1460606 => ?_)
          refine q_icmp_ge (tgt := 79) hx hb dX0_payMortgages_47 (by decide) rfl rfl (fun c1460608 => ?_) (fun c1460608 => ?_)
          · refine lv_aload_n hx hb dX0_payMortgages_79 rfl (lv_at hl 1 rfl) ?_
            refine fg_RX0_21 E hW rh0 dX0_payMortgages_80 (fun a1460609 m1460610 r1460611 => ?_)
            obtain rfl : a1460342 = a1460609 := (m1460600).symm.trans m1460610
            refine fg_RX0_201 E hW r1460344 dX0_payMortgages_83 (fun a1460612 m1460613 r1460614 => ?_)
            obtain rfl : a1460593 = a1460612 := (m1460594).symm.trans m1460613
            refine lv_iload_n hx hb dX0_payMortgages_86 rfl (lv_at hl 0 rfl) ?_
            refine lv_dup2_11 hx hb dX0_payMortgages_87 rfl rfl ?_
            refine gl_169 E hW r1460595 ⟨by omega, by omega⟩ dX0_payMortgages_88 (fun y1460615 m1460616 => ?_)
            obtain rfl : y1460596 = y1460615 := (m1460597).symm.trans m1460616
            refine lv_aload_n hx hb dX0_payMortgages_89 rfl (lv_at hl 1 rfl) ?_
            refine fg_RX0_21 E hW rh0 dX0_payMortgages_90 (fun a1460618 m1460619 r1460620 => ?_)
            obtain rfl : a1460342 = a1460618 := (m1460610).symm.trans m1460619
            refine fg_RX0_222 E hW r1460344 dX0_payMortgages_93 (fun a1460621 m1460622 r1460623 => ?_)
            obtain rfl : a1460602 = a1460621 := (m1460603).symm.trans m1460622
            refine lv_iload_n hx hb dX0_payMortgages_96 rfl (lv_at hl 0 rfl) ?_
            refine gl_170 E hW r1460604 ⟨by omega, by omega⟩ dX0_payMortgages_97 (fun y1460624 m1460625 => ?_)
            obtain rfl : y1460605 = y1460624 := (m1460606).symm.trans m1460625
            refine u_isub hx hb dX0_payMortgages_98 (fun x1460627 => ?_)
            refine gs_169 E hW r1460595 ⟨by omega, by omega⟩ dX0_payMortgages_99 (fun f1460628 H locs e1460629 n1460630 g1460631 hW => ?_)
            have hF := FM.tr hF g1460631 rfl
            exact J1460586 f1460628 ((fm_I g1460631 r1460344 rfl).trans m1460346) ((fm_R g1460631 r1460344 rfl).trans m1460508) ((fm_R g1460631 rh0 rfl).trans m1460619) _ _ _ hW hF (lv_sub hl [0, 1] rfl)
          · have hb1460632 : y1460596.toInt ≤ 2147483646 := by have := i32_b y1460605; omega
            have hb1460633 : -2147483647 ≤ y1460605.toInt := by have := i32_b y1460596; omega
            refine lv_aload_n hx hb dX0_payMortgages_50 rfl (lv_at hl 1 rfl) ?_
            refine fg_RX0_21 E hW rh0 dX0_payMortgages_51 (fun a1460634 m1460635 r1460636 => ?_)
            obtain rfl : a1460342 = a1460634 := (m1460600).symm.trans m1460635
            refine fg_RX0_219 E hW r1460344 dX0_payMortgages_54 (fun a1460637 m1460638 r1460639 => ?_)
            obtain rfl : a1460507 = a1460637 := (m1460508).symm.trans m1460638
            refine lv_iload_n hx hb dX0_payMortgages_57 rfl (lv_at hl 0 rfl) ?_
            refine lv_aload_n hx hb dX0_payMortgages_58 rfl (lv_at hl 1 rfl) ?_
            refine fg_RX0_93 E hW rh0 dX0_payMortgages_59 (fun y1460640 m1460641 b1460642 => ?_)
            refine lv_bipush (v := 13) hx hb dX0_payMortgages_62 (by decide) ?_
            refine q_idiv (Y := 13) hx hb dX0_payMortgages_64 rfl rfl (by omega) (by omega) (fun x1460643 h1460644 => ?_)
            refine gs_171 E hW r1460509 ⟨by omega, by omega⟩ dX0_payMortgages_65 (fun f1460645 H locs e1460646 n1460647 g1460648 hW => ?_)
            have hF := FM.tr hF g1460648 rfl
            refine lv_aload_n hx hb dX0_payMortgages_66 rfl (lv_at hl 1 rfl) ?_
            refine fg_RX0_21 E hW rh0 dX0_payMortgages_67 (fun a1460649 m1460650 r1460651 => ?_)
            obtain rfl : a1460342 = a1460649 := (((fm_R g1460648 rh0 rfl).trans m1460635)).symm.trans m1460650
            refine fg_RX0_201 E hW r1460344 dX0_payMortgages_70 (fun a1460652 m1460653 r1460654 => ?_)
            obtain rfl : a1460593 = a1460652 := (((fm_R g1460648 r1460344 rfl).trans m1460594)).symm.trans m1460653
            refine lv_iload_n hx hb dX0_payMortgages_73 rfl (lv_at hl 0 rfl) ?_
            refine lv_iconst (v := 0) hx hb dX0_payMortgages_74 (by decide) ?_
            refine gs_169 E hW r1460595 ⟨by omega, by omega⟩ dX0_payMortgages_75 (fun f1460655 H locs e1460656 n1460657 g1460658 hW => ?_)
            have hF := FM.tr hF g1460658 rfl
            refine lv_goto (tgt := 100) hx hb dX0_payMortgages_76 (by decide) ?_
            exact J1460586 f1460655 ((fm_I g1460658 r1460344 rfl).trans ((fm_I g1460648 r1460344 rfl).trans m1460346)) ((fm_R g1460658 r1460344 rfl).trans ((fm_R g1460648 r1460344 rfl).trans m1460638)) ((fm_R g1460658 rh0 rfl).trans m1460650) _ _ _ hW hF (lv_sub hl [0, 1] rfl)
        · refine lv_goto (tgt := 100) hx hb dX0_payMortgages_26 (by decide) ?_
          exact J1460586 f1460338 m1460346 m1460508 m1460505 _ _ _ hW hF (lv_sub hl [0, 1] rfl)
  have hk1460659 : (0 : Int32).toInt = 0 := rfl
  exact L1460341 9 f0 0 (by decide) (by omega) _ _ _ hW hF (lv_sub hl [0, 1] rfl)
def ms_X0_tellWrits : List (Nat × Nat) := [(10, 0), (701, 0), (702, 0), (703, 0), (704, 0), (705, 0), (706, 0)]
def po_X0_tellWrits (kp : Nat → Nat) (L : List Nat) (f0 : Nat → va_E) (h0 : Nat) : Option Value → (Nat → va_E) → Prop := fun v f => v = none ∧ FM kp L ms_X0_tellWrits f0 f
set_option maxHeartbeats 4000000 in
set_option maxRecDepth 100000 in
theorem c_X0_tellWrits (l : Launch) (G : va_G) (cI cJ cZ cD cR cT : ClassId) (kp : Nat → Nat) (L : List Nat) (f0 : Nat → va_E) (hTH : TH cI cJ cZ cD cR cT kp L f0) (sz : Nat) (h0 : Nat) (rh0 : RK kp L h0 0) : Met l yX0_tellWrits (Cond.code yX0_tellWrits cX0_tellWrits 2 none :: wTab) ({ frames := 3, cells := 0, slots := 0, locals := 87 }) (va_Pc [.ref h0] (PreW G (tys6 cI cJ cZ cD cR cT) (va_pl L f0) sz)) (QT (po_X0_tellWrits kp L f0 h0) G cI cJ cZ cD cR cT (va_A (va_pl L f0) sz) kp L) 0 0 (va_A (va_pl L f0) sz) := by
  refine metT (by decide) (Nat.le_of_ble_eq_true rfl) hTH ?_
  intro p e s m below meth c A ls E hW hl
  obtain ⟨hx, hb, -, hml, hown, hts, -, -, -⟩ := id E
  have hF : FM kp L ms_X0_tellWrits f0 f0 := FM.rf
  have hl : lv_has ls 2 [(0, .ref h0)] := hl
  refine lv_iconst (v := 0) hx hb dX0_tellWrits_0 (by decide) ?_
  refine lv_istore_n (lv' := [(1, .int 0), (0, .ref h0)]) hx hb dX0_tellWrits_1 rfl hl (by decide) rfl (fun ls hl => ?_)
  have L1463000 : ∀ (n : Nat), ∀ (f1462997 : Nat → va_E) (y1462998 : Int32) (b1462999 : (0 : Int) ≤ y1462998.toInt ∧ y1462998.toInt ≤ 40) (hm : (41 : Int) - y1462998.toInt ≤ n) (H : Heap) (locs : List Loc) (ls : Array Slot), WS G cI cJ cZ cD cR cT A kp L f1462997 s H locs → FM kp L ms_X0_tellWrits f0 f1462997 → lv_has ls 2 [(1, .int y1462998), (0, .ref h0)] → W p l e ({ frames := 3, cells := 0, slots := 0, locals := 87 }) s m ([.ref h0] : List Value).toArray below meth c H locs 0 0 (MQ below (QT (po_X0_tellWrits kp L f0 h0) G cI cJ cZ cD cR cT A kp L) ([.ref h0] : List Value).toArray s 0 0 A) (F0 m 2 ls []) := by
    intro n
    induction n with
    | zero =>
      intro f1462997 y1462998 b1462999 hm H locs ls hW hF hl
      have hz := i32_b y1462998
      exfalso; omega
    | succ n ih =>
      intro f1462997 y1462998 b1462999 hm H locs ls hW hF hl
      have ih2 := ih
      refine lv_iload_n hx hb dX0_tellWrits_2 rfl (lv_at hl 0 rfl) ?_
      refine lv_aload_n hx hb dX0_tellWrits_3 rfl (lv_at hl 1 rfl) ?_
      refine fg_RX0_21 E hW rh0 dX0_tellWrits_4 (fun a1463001 m1463002 r1463003 => ?_)
      refine fg_RX0_171 E hW r1463003 dX0_tellWrits_7 (fun y1463004 m1463005 b1463006 => ?_)
      refine q_icmp_ge (tgt := 85) hx hb dX0_tellWrits_10 (by decide) rfl rfl (fun c1463120 => ?_) (fun c1463120 => ?_)
      · exact e_V E hW rfl ⟨rfl, hF⟩ dX0_tellWrits_85
      · refine lv_aload_n hx hb dX0_tellWrits_13 rfl (lv_at hl 1 rfl) ?_
        refine fg_RX0_21 E hW rh0 dX0_tellWrits_14 (fun a1463121 m1463122 r1463123 => ?_)
        obtain rfl : a1463001 = a1463121 := (m1463002).symm.trans m1463122
        refine fg_RX0_124 E hW r1463003 dX0_tellWrits_17 (fun a1463124 m1463125 r1463126 => ?_)
        refine lv_iload_n hx hb dX0_tellWrits_20 rfl (lv_at hl 0 rfl) ?_
        refine gl_164 E hW r1463126 ⟨by omega, by omega⟩ dX0_tellWrits_21 (fun y1463127 m1463128 b1463129 => ?_)
        refine lv_iconst (v := (-1)) hx hb dX0_tellWrits_22 (by decide) ?_
        have J1463182 : ∀ (f1463178 : Nat → va_E) (m1463179 : oI (f1463178 a1463001) 0 = y1463004) (m1463180 : oR (f1463178 a1463001) 4 = a1463124) (m1463181 : oR (f1463178 h0) 1 = a1463001) (H : Heap) (locs : List Loc) (ls : Array Slot), WS G cI cJ cZ cD cR cT A kp L f1463178 s H locs → FM kp L ms_X0_tellWrits f0 f1463178 → lv_has ls 2 [(1, .int y1462998), (0, .ref h0)] → W p l e ({ frames := 3, cells := 0, slots := 0, locals := 87 }) s m ([.ref h0] : List Value).toArray below meth c H locs 0 0 (MQ below (QT (po_X0_tellWrits kp L f0 h0) G cI cJ cZ cD cR cT A kp L) ([.ref h0] : List Value).toArray s 0 0 A) (F0 m 79 ls []) := by
          intro f1463178 m1463179 m1463180 m1463181 H locs ls hW hF hl
          clear b1463129
          refine q_iinc hx hb dX0_tellWrits_79 hl (k := 0) rfl rfl rfl (by omega) (by decide) (fun i1463183 ls h1463184 hl => ?_)
          have hl : lv_has ls 2 [(1, .int i1463183), (0, .ref h0)] := hl
          refine lv_goto (tgt := 2) hx hb dX0_tellWrits_82 (by decide) ?_
          exact ih2 f1463178 i1463183 (by omega) (by omega) _ _ _ hW hF (lv_sub hl [0, 1] rfl)
        refine q_icmp_eq (Y := -1) (tgt := 79) hx hb dX0_tellWrits_23 (by decide) rfl rfl (fun c1463185 => ?_) (fun c1463185 => ?_)
        · exact J1463182 f1462997 m1463005 m1463125 m1463122 _ _ _ hW hF (lv_sub hl [0, 1] rfl)
        · refine lv_aload_n hx hb dX0_tellWrits_26 rfl (lv_at hl 1 rfl) ?_
          refine fg_RX0_21 E hW rh0 dX0_tellWrits_27 (fun a1463186 m1463187 r1463188 => ?_)
          obtain rfl : a1463001 = a1463186 := (m1463122).symm.trans m1463187
          refine fg_RX0_188 E hW r1463003 dX0_tellWrits_30 (fun a1463189 m1463190 r1463191 => ?_)
          refine lv_iload_n hx hb dX0_tellWrits_33 rfl (lv_at hl 0 rfl) ?_
          refine gl_165 E hW r1463191 ⟨by omega, by omega⟩ dX0_tellWrits_34 (fun y1463192 m1463193 => ?_)
          refine q_if_le (tgt := 79) hx hb dX0_tellWrits_35 (by decide) rfl (fun c1463195 => ?_) (fun c1463195 => ?_)
          · exact J1463182 f1462997 m1463005 m1463125 m1463187 _ _ _ hW hF (lv_sub hl [0, 1] rfl)
          · refine lv_aload_n hx hb dX0_tellWrits_38 rfl (lv_at hl 1 rfl) ?_
            refine fg_RX0_28 E hW rh0 dX0_tellWrits_39 (fun a1463196 m1463197 r1463198 => ?_)
            refine lv_iload_n hx hb dX0_tellWrits_42 rfl (lv_at hl 0 rfl) ?_
            refine t_callV (As := [.int y1462998]) (rest := []) E hW (c_X10_openOn l G cI cJ cZ cD cR cT kp L f1462997 hW.2.2.2 _ a1463196 y1462998 r1463198 (by omega)) r1463198 (by decide) rfl wk_X10_openOn tw_1143 rfl ⟨Nat.le_of_ble_eq_true rfl, Nat.le_of_ble_eq_true rfl⟩ ⟨rfl, rfl⟩ hl.1 rfl (Nat.le_of_ble_eq_true rfl) dX0_tellWrits_43 ⟨Nat.le_of_ble_eq_true rfl, Nat.le_of_ble_eq_true rfl⟩ (fun v1463199 f1463200 H locs q1463201 hW => ?_)
            obtain ⟨⟨x1463203, rfl, p1463204⟩, g1463202⟩ := q1463201
            have hF := FM.tr hF g1463202 rfl
            refine lv_iconst (v := (-1)) hx hb dX0_tellWrits_46 (by decide) ?_
            refine q_icmp_ne (Y := -1) (tgt := 79) hx hb dX0_tellWrits_47 (by decide) rfl rfl (fun c1463205 => ?_) (fun c1463205 => ?_)
            · exact J1463182 f1463200 ((fm_I g1463202 r1463003 rfl).trans m1463005) ((fm_R g1463202 r1463003 rfl).trans m1463125) ((fm_R g1463202 rh0 rfl).trans m1463187) _ _ _ hW hF (lv_sub hl [0, 1] rfl)
            · refine lv_aload_n hx hb dX0_tellWrits_50 rfl (lv_at hl 1 rfl) ?_
              refine fg_RX0_28 E hW rh0 dX0_tellWrits_51 (fun a1463206 m1463207 r1463208 => ?_)
              obtain rfl : a1463196 = a1463206 := (((fm_R g1463202 rh0 rfl).trans m1463197)).symm.trans m1463207
              refine lv_iload_n hx hb dX0_tellWrits_54 rfl (lv_at hl 0 rfl) ?_
              refine lv_aload_n hx hb dX0_tellWrits_55 rfl (lv_at hl 1 rfl) ?_
              refine fg_RX0_21 E hW rh0 dX0_tellWrits_56 (fun a1463209 m1463210 r1463211 => ?_)
              obtain rfl : a1463001 = a1463209 := (((fm_R g1463202 rh0 rfl).trans m1463187)).symm.trans m1463210
              refine fg_RX0_124 E hW r1463003 dX0_tellWrits_59 (fun a1463212 m1463213 r1463214 => ?_)
              obtain rfl : a1463124 = a1463212 := (((fm_R g1463202 r1463003 rfl).trans m1463125)).symm.trans m1463213
              refine lv_iload_n hx hb dX0_tellWrits_62 rfl (lv_at hl 0 rfl) ?_
              refine gl_164 E hW r1463126 ⟨by omega, by omega⟩ dX0_tellWrits_63 (fun y1463215 m1463216 b1463217 => ?_)
              obtain rfl : y1463127 = y1463215 := (((congrArg (fun z => aI z (y1462998 : Int32).toNatClampNeg) (fm_A g1463202 r1463126 (by decide) rfl)).trans m1463128)).symm.trans m1463216
              refine lv_aload_n hx hb dX0_tellWrits_64 rfl (lv_at hl 1 rfl) ?_
              refine fg_RX0_42 E hW rh0 dX0_tellWrits_65 (fun a1463218 m1463219 r1463220 => ?_)
              refine lv_iconst (v := 0) hx hb dX0_tellWrits_68 (by decide) ?_
              refine t_callV (As := [.int 0]) (rest := [.int y1463127, .int y1462998, .ref a1463196]) E hW (c_X2_weeksOf l G cI cJ cZ cD cR cT kp L f1463200 hW.2.2.2 _ a1463218 0 r1463220 (by decide)) r1463220 (by decide) rfl wk_X2_weeksOf tw_1144 rfl ⟨Nat.le_of_ble_eq_true rfl, Nat.le_of_ble_eq_true rfl⟩ ⟨rfl, rfl⟩ hl.1 rfl (Nat.le_of_ble_eq_true rfl) dX0_tellWrits_69 ⟨Nat.le_of_ble_eq_true rfl, Nat.le_of_ble_eq_true rfl⟩ (fun v1463221 f1463222 H locs q1463223 hW => ?_)
              obtain ⟨⟨x1463225, rfl, p1463226⟩, g1463224⟩ := q1463223
              clear p1463226
              have hF := FM.tr hF g1463224 rfl
              refine lv_aload_n hx hb dX0_tellWrits_72 rfl (lv_at hl 1 rfl) ?_
              refine fg_RX0_93 E hW rh0 dX0_tellWrits_73 (fun y1463227 m1463228 b1463229 => ?_)
              refine t_callV (As := [.int y1462998, .int y1463127, .int x1463225, .int y1463227]) (rest := []) E hW (c_X10_add l G cI cJ cZ cD cR cT kp L f1463222 hW.2.2.2 _ a1463196 y1462998 y1463127 x1463225 y1463227 r1463198 (by omega) (by omega) (by omega)) r1463198 (by decide) rfl wk_X10_add tw_1145 rfl ⟨Nat.le_of_ble_eq_true rfl, Nat.le_of_ble_eq_true rfl⟩ ⟨rfl, rfl⟩ hl.1 rfl (Nat.le_of_ble_eq_true rfl) dX0_tellWrits_76 ⟨Nat.le_of_ble_eq_true rfl, Nat.le_of_ble_eq_true rfl⟩ (fun v1463230 f1463231 H locs q1463232 hW => ?_)
              obtain ⟨rfl, g1463233⟩ := q1463232
              have hF := FM.tr hF g1463233 rfl
              exact J1463182 f1463231 ((fm_I g1463233 r1463003 rfl).trans ((fm_I g1463224 r1463003 rfl).trans ((fm_I g1463202 r1463003 rfl).trans m1463005))) ((fm_R g1463233 r1463003 rfl).trans ((fm_R g1463224 r1463003 rfl).trans m1463213)) ((fm_R g1463233 rh0 rfl).trans ((fm_R g1463224 rh0 rfl).trans m1463210)) _ _ _ hW hF (lv_sub hl [0, 1] rfl)
  have hk1463234 : (0 : Int32).toInt = 0 := rfl
  exact L1463000 41 f0 0 (by decide) (by omega) _ _ _ hW hF (lv_sub hl [0, 1] rfl)
def ms_X0_payDraws : List (Nat × Nat) := [(3, 0), (115, 0), (342, 0)]
def po_X0_payDraws (kp : Nat → Nat) (L : List Nat) (f0 : Nat → va_E) (h0 : Nat) : Option Value → (Nat → va_E) → Prop := fun v f => v = none ∧ FM kp L ms_X0_payDraws f0 f
set_option maxHeartbeats 4000000 in
set_option maxRecDepth 100000 in
theorem c_X0_payDraws (l : Launch) (G : va_G) (cI cJ cZ cD cR cT : ClassId) (kp : Nat → Nat) (L : List Nat) (f0 : Nat → va_E) (hTH : TH cI cJ cZ cD cR cT kp L f0) (sz : Nat) (h0 : Nat) (rh0 : RK kp L h0 0) : Met l yX0_payDraws (Cond.code yX0_payDraws cX0_payDraws 4 none :: wTab) ({ frames := 5, cells := 0, slots := 0, locals := 145 }) (va_Pc [.ref h0] (PreW G (tys6 cI cJ cZ cD cR cT) (va_pl L f0) sz)) (QT (po_X0_payDraws kp L f0 h0) G cI cJ cZ cD cR cT (va_A (va_pl L f0) sz) kp L) 0 0 (va_A (va_pl L f0) sz) := by
  refine metT (by decide) (Nat.le_of_ble_eq_true rfl) hTH ?_
  intro p e s m below meth c A ls E hW hl
  obtain ⟨hx, hb, -, hml, hown, hts, -, -, -⟩ := id E
  have hF : FM kp L ms_X0_payDraws f0 f0 := FM.rf
  have hl : lv_has ls 4 [(0, .ref h0)] := hl
  refine lv_iconst (v := 0) hx hb dX0_payDraws_0 (by decide) ?_
  refine lv_istore_n (lv' := [(1, .int 0), (0, .ref h0)]) hx hb dX0_payDraws_1 rfl hl (by decide) rfl (fun ls hl => ?_)
  have L1465613 : ∀ (n : Nat), ∀ (f1465610 : Nat → va_E) (y1465611 : Int32) (b1465612 : (0 : Int) ≤ y1465611.toInt ∧ y1465611.toInt ≤ 40) (hm : (41 : Int) - y1465611.toInt ≤ n) (H : Heap) (locs : List Loc) (ls : Array Slot), WS G cI cJ cZ cD cR cT A kp L f1465610 s H locs → FM kp L ms_X0_payDraws f0 f1465610 → lv_has ls 4 [(1, .int y1465611), (0, .ref h0)] → W p l e ({ frames := 5, cells := 0, slots := 0, locals := 145 }) s m ([.ref h0] : List Value).toArray below meth c H locs 0 0 (MQ below (QT (po_X0_payDraws kp L f0 h0) G cI cJ cZ cD cR cT A kp L) ([.ref h0] : List Value).toArray s 0 0 A) (F0 m 2 ls []) := by
    intro n
    induction n with
    | zero =>
      intro f1465610 y1465611 b1465612 hm H locs ls hW hF hl
      have hz := i32_b y1465611
      exfalso; omega
    | succ n ih =>
      intro f1465610 y1465611 b1465612 hm H locs ls hW hF hl
      have ih2 := ih
      refine lv_iload_n hx hb dX0_payDraws_2 rfl (lv_at hl 0 rfl) ?_
      refine lv_aload_n hx hb dX0_payDraws_3 rfl (lv_at hl 1 rfl) ?_
      refine fg_RX0_12 E hW rh0 dX0_payDraws_4 (fun a1465614 m1465615 r1465616 => ?_)
      refine fg_RX0_263 E hW r1465616 dX0_payDraws_7 (fun y1465617 m1465618 b1465619 => ?_)
      refine q_icmp_ge (tgt := 97) hx hb dX0_payDraws_10 (by decide) rfl rfl (fun c1465735 => ?_) (fun c1465735 => ?_)
      · exact e_V E hW rfl ⟨rfl, hF⟩ dX0_payDraws_97
      · refine lv_aload_n hx hb dX0_payDraws_13 rfl (lv_at hl 1 rfl) ?_
        refine fg_RX0_12 E hW rh0 dX0_payDraws_14 (fun a1465736 m1465737 r1465738 => ?_)
        obtain rfl : a1465614 = a1465736 := (m1465615).symm.trans m1465737
        refine fg_RX0_182 E hW r1465616 dX0_payDraws_17 (fun a1465739 m1465740 r1465741 => ?_)
        refine lv_iload_n hx hb dX0_payDraws_20 rfl (lv_at hl 0 rfl) ?_
        refine gl_346 E hW r1465741 ⟨by omega, by omega⟩ dX0_payDraws_21 (fun y1465742 m1465743 => ?_)
        refine lv_iconst (v := 1) hx hb dX0_payDraws_22 (by decide) ?_
        have J1465798 : ∀ (f1465794 : Nat → va_E) (m1465795 : oI (f1465794 a1465614) 0 = y1465617) (m1465796 : oR (f1465794 a1465614) 6 = a1465739) (m1465797 : oR (f1465794 h0) 0 = a1465614) (H : Heap) (locs : List Loc) (ls : Array Slot), WS G cI cJ cZ cD cR cT A kp L f1465794 s H locs → FM kp L ms_X0_payDraws f0 f1465794 → lv_has ls 4 [(1, .int y1465611), (0, .ref h0)] → W p l e ({ frames := 5, cells := 0, slots := 0, locals := 145 }) s m ([.ref h0] : List Value).toArray below meth c H locs 0 0 (MQ below (QT (po_X0_payDraws kp L f0 h0) G cI cJ cZ cD cR cT A kp L) ([.ref h0] : List Value).toArray s 0 0 A) (F0 m 91 ls []) := by
          intro f1465794 m1465795 m1465796 m1465797 H locs ls hW hF hl
          refine q_iinc hx hb dX0_payDraws_91 hl (k := 0) rfl rfl rfl (by omega) (by decide) (fun i1465799 ls h1465800 hl => ?_)
          have hl : lv_has ls 4 [(1, .int i1465799), (0, .ref h0)] := hl
          refine lv_goto (tgt := 2) hx hb dX0_payDraws_94 (by decide) ?_
          exact ih2 f1465794 i1465799 (by omega) (by omega) _ _ _ hW hF (lv_sub hl [0, 1] rfl)
        refine q_icmp_ne (Y := 1) (tgt := 91) hx hb dX0_payDraws_23 (by decide) rfl rfl (fun c1465801 => ?_) (fun c1465801 => ?_)
        · exact J1465798 f1465610 m1465618 m1465740 m1465737 _ _ _ hW hF (lv_sub hl [0, 1] rfl)
        · refine lv_aload_n hx hb dX0_payDraws_26 rfl (lv_at hl 1 rfl) ?_
          refine fg_RX0_12 E hW rh0 dX0_payDraws_27 (fun a1465802 m1465803 r1465804 => ?_)
          obtain rfl : a1465614 = a1465802 := (m1465737).symm.trans m1465803
          refine fg_RX0_130 E hW r1465616 dX0_payDraws_30 (fun a1465805 m1465806 r1465807 => ?_)
          refine lv_iload_n hx hb dX0_payDraws_33 rfl (lv_at hl 0 rfl) ?_
          refine gl_347 E hW r1465807 ⟨by omega, by omega⟩ dX0_payDraws_34 (fun y1465808 m1465809 => ?_)
          refine lv_iconst (v := (-1)) hx hb dX0_payDraws_35 (by decide) ?_
          refine q_icmp_ne (Y := -1) (tgt := 42) hx hb dX0_payDraws_36 (by decide) rfl rfl (fun c1465811 => ?_) (fun c1465811 => ?_)
          · refine lv_aload_n hx hb dX0_payDraws_42 rfl (lv_at hl 1 rfl) ?_
            refine lv_iload_n hx hb dX0_payDraws_43 rfl (lv_at hl 0 rfl) ?_
            refine t_callV (As := [.int y1465611]) (rest := []) E hW (c_X0_drawOf l G cI cJ cZ cD cR cT kp L f1465610 hW.2.2.2 _ h0 y1465611 rh0 (by omega)) rh0 (by decide) rfl wk_X0_drawOf tw_1162 rfl ⟨Nat.le_of_ble_eq_true rfl, Nat.le_of_ble_eq_true rfl⟩ ⟨rfl, rfl⟩ hl.1 rfl (Nat.le_of_ble_eq_true rfl) dX0_payDraws_44 ⟨Nat.le_of_ble_eq_true rfl, Nat.le_of_ble_eq_true rfl⟩ (fun v1465812 f1465813 H locs q1465814 hW => ?_)
            obtain ⟨⟨x1465816, rfl, p1465817⟩, g1465815⟩ := q1465814
            clear p1465817
            have hF := FM.tr hF g1465815 rfl
            refine lv_lstore_n (lv' := [(2, .long x1465816), (1, .int y1465611), (0, .ref h0)]) hx hb dX0_payDraws_47 rfl hl (by decide) rfl (fun ls hl => ?_)
            refine lv_lload_n hx hb dX0_payDraws_48 rfl (lv_at hl 0 rfl) ?_
            refine lv_lconst (v := 0) hx hb dX0_payDraws_49 (by decide) ?_
            refine q_lcmp_le (Y := 0) (tgt := 91) hx hb dX0_payDraws_50 dX0_payDraws_51 (by decide) rfl rfl (fun c1465818 => ?_) (fun c1465818 => ?_)
            · exact J1465798 f1465813 ((fm_I g1465815 r1465616 rfl).trans m1465618) ((fm_R g1465815 r1465616 rfl).trans m1465740) ((fm_R g1465815 rh0 rfl).trans m1465803) _ _ _ hW hF (lv_sub hl [1, 2] rfl)
            · refine lv_lload_n hx hb dX0_payDraws_54 rfl (lv_at hl 0 rfl) ?_
              refine lv_aload_n hx hb dX0_payDraws_55 rfl (lv_at hl 2 rfl) ?_
              refine fg_RX0_49 E hW rh0 dX0_payDraws_56 (fun a1465819 m1465820 r1465821 => ?_)
              refine fg_RX0_268 E hW r1465821 dX0_payDraws_59 (fun y1465822 m1465823 => ?_)
              refine q_i2l hx hb dX0_payDraws_62 rfl (fun x1465825 h1465826 => ?_)
              refine q_lcmp_gt (tgt := 91) hx hb dX0_payDraws_63 dX0_payDraws_64 (by decide) rfl rfl (fun c1465827 => ?_) (fun c1465827 => ?_)
              · exact J1465798 f1465813 ((fm_I g1465815 r1465616 rfl).trans m1465618) ((fm_R g1465815 r1465616 rfl).trans m1465740) ((fm_R g1465815 rh0 rfl).trans m1465803) _ _ _ hW hF (lv_sub hl [1, 2] rfl)
              · refine lv_aload_n hx hb dX0_payDraws_67 rfl (lv_at hl 2 rfl) ?_
                refine fg_RX0_49 E hW rh0 dX0_payDraws_68 (fun a1465828 m1465829 r1465830 => ?_)
                obtain rfl : a1465819 = a1465828 := (m1465820).symm.trans m1465829
                refine lv_dup hx hb dX0_payDraws_71 rfl ?_
                refine fg_RX0_268 E hW r1465821 dX0_payDraws_72 (fun y1465831 m1465832 => ?_)
                obtain rfl : y1465822 = y1465831 := (m1465823).symm.trans m1465832
                refine lv_lload_n hx hb dX0_payDraws_75 rfl (lv_at hl 0 rfl) ?_
                refine q_l2i hx hb dX0_payDraws_76 rfl (by omega) (fun x1465834 h1465835 => ?_)
                refine q_isub hx hb dX0_payDraws_77 rfl rfl (by omega) (fun x1465836 h1465837 => ?_)
                refine fp_RX0_268 E hW r1465821 dX0_payDraws_78 (fun f1465838 H locs e1465839 n1465840 g1465841 hW => ?_)
                have hF := FM.tr hF g1465841 rfl
                refine lv_aload_n hx hb dX0_payDraws_81 rfl (lv_at hl 2 rfl) ?_
                refine fg_RX0_12 E hW rh0 dX0_payDraws_82 (fun a1465842 m1465843 r1465844 => ?_)
                obtain rfl : a1465614 = a1465842 := (((fm_R g1465841 rh0 rfl).trans ((fm_R g1465815 rh0 rfl).trans m1465803))).symm.trans m1465843
                refine lv_iload_n hx hb dX0_payDraws_85 rfl (lv_at hl 1 rfl) ?_
                refine lv_lload_n hx hb dX0_payDraws_86 rfl (lv_at hl 0 rfl) ?_
                refine q_l2i hx hb dX0_payDraws_87 rfl (by omega) (fun x1465845 h1465846 => ?_)
                refine t_callV (As := [.int y1465611, .int x1465845]) (rest := []) E hW (c_X4_gain l G cI cJ cZ cD cR cT kp L f1465838 hW.2.2.2 _ a1465614 y1465611 x1465845 r1465616 (by omega) (by omega)) r1465616 (by decide) rfl wk_X4_gain tw_1166 rfl ⟨Nat.le_of_ble_eq_true rfl, Nat.le_of_ble_eq_true rfl⟩ ⟨rfl, rfl⟩ hl.1 rfl (Nat.le_of_ble_eq_true rfl) dX0_payDraws_88 ⟨Nat.le_of_ble_eq_true rfl, Nat.le_of_ble_eq_true rfl⟩ (fun v1465847 f1465848 H locs q1465849 hW => ?_)
                obtain ⟨rfl, g1465850⟩ := q1465849
                have hF := FM.tr hF g1465850 rfl
                exact J1465798 f1465848 ((fm_I g1465850 r1465616 rfl).trans ((fm_I g1465841 r1465616 rfl).trans ((fm_I g1465815 r1465616 rfl).trans m1465618))) ((fm_R g1465850 r1465616 rfl).trans ((fm_R g1465841 r1465616 rfl).trans ((fm_R g1465815 r1465616 rfl).trans m1465740))) ((fm_R g1465850 rh0 rfl).trans m1465843) _ _ _ hW hF (lv_sub hl [1, 2] rfl)
          · refine lv_goto (tgt := 91) hx hb dX0_payDraws_39 (by decide) ?_
            exact J1465798 f1465610 m1465618 m1465740 m1465803 _ _ _ hW hF (lv_sub hl [0, 1] rfl)
  have hk1465851 : (0 : Int32).toInt = 0 := rfl
  exact L1465613 41 f0 0 (by decide) (by omega) _ _ _ hW hF (lv_sub hl [0, 1] rfl)
def ms_X0_renewBans : List (Nat × Nat) := [(115, 0), (348, 0), (349, 0)]
def po_X0_renewBans (kp : Nat → Nat) (L : List Nat) (f0 : Nat → va_E) (h0 : Nat) : Option Value → (Nat → va_E) → Prop := fun v f => v = none ∧ FM kp L ms_X0_renewBans f0 f
set_option maxHeartbeats 4000000 in
set_option maxRecDepth 100000 in
theorem c_X0_renewBans (l : Launch) (G : va_G) (cI cJ cZ cD cR cT : ClassId) (kp : Nat → Nat) (L : List Nat) (f0 : Nat → va_E) (hTH : TH cI cJ cZ cD cR cT kp L f0) (sz : Nat) (h0 : Nat) (rh0 : RK kp L h0 0) : Met l yX0_renewBans (Cond.code yX0_renewBans cX0_renewBans 2 none :: wTab) ({ frames := 5, cells := 0, slots := 0, locals := 143 }) (va_Pc [.ref h0] (PreW G (tys6 cI cJ cZ cD cR cT) (va_pl L f0) sz)) (QT (po_X0_renewBans kp L f0 h0) G cI cJ cZ cD cR cT (va_A (va_pl L f0) sz) kp L) 0 0 (va_A (va_pl L f0) sz) := by
  refine metT (by decide) (Nat.le_of_ble_eq_true rfl) hTH ?_
  intro p e s m below meth c A ls E hW hl
  obtain ⟨hx, hb, -, hml, hown, hts, -, -, -⟩ := id E
  have hF : FM kp L ms_X0_renewBans f0 f0 := FM.rf
  have hl : lv_has ls 2 [(0, .ref h0)] := hl
  refine lv_iconst (v := 0) hx hb dX0_renewBans_0 (by decide) ?_
  refine lv_istore_n (lv' := [(1, .int 0), (0, .ref h0)]) hx hb dX0_renewBans_1 rfl hl (by decide) rfl (fun ls hl => ?_)
  have L1466463 : ∀ (n : Nat), ∀ (f1466460 : Nat → va_E) (y1466461 : Int32) (b1466462 : (0 : Int) ≤ y1466461.toInt ∧ y1466461.toInt ≤ 40) (hm : (41 : Int) - y1466461.toInt ≤ n) (H : Heap) (locs : List Loc) (ls : Array Slot), WS G cI cJ cZ cD cR cT A kp L f1466460 s H locs → FM kp L ms_X0_renewBans f0 f1466460 → lv_has ls 2 [(1, .int y1466461), (0, .ref h0)] → W p l e ({ frames := 5, cells := 0, slots := 0, locals := 143 }) s m ([.ref h0] : List Value).toArray below meth c H locs 0 0 (MQ below (QT (po_X0_renewBans kp L f0 h0) G cI cJ cZ cD cR cT A kp L) ([.ref h0] : List Value).toArray s 0 0 A) (F0 m 2 ls []) := by
    intro n
    induction n with
    | zero =>
      intro f1466460 y1466461 b1466462 hm H locs ls hW hF hl
      have hz := i32_b y1466461
      exfalso; omega
    | succ n ih =>
      intro f1466460 y1466461 b1466462 hm H locs ls hW hF hl
      have ih2 := ih
      refine lv_iload_n hx hb dX0_renewBans_2 rfl (lv_at hl 0 rfl) ?_
      refine lv_aload_n hx hb dX0_renewBans_3 rfl (lv_at hl 1 rfl) ?_
      refine fg_RX0_12 E hW rh0 dX0_renewBans_4 (fun a1466464 m1466465 r1466466 => ?_)
      refine fg_RX0_263 E hW r1466466 dX0_renewBans_7 (fun y1466467 m1466468 b1466469 => ?_)
      refine q_icmp_ge (tgt := 45) hx hb dX0_renewBans_10 (by decide) rfl rfl (fun c1466492 => ?_) (fun c1466492 => ?_)
      · refine lv_aload_n hx hb dX0_renewBans_45 rfl (lv_at hl 1 rfl) ?_
        refine fg_RX0_12 E hW rh0 dX0_renewBans_46 (fun a1466493 m1466494 r1466495 => ?_)
        obtain rfl : a1466464 = a1466493 := (m1466465).symm.trans m1466494
        refine fg_RX0_274 E hW r1466466 dX0_renewBans_49 (fun a1466496 m1466497 r1466498 => ?_)
        refine lv_iconst (v := 0) hx hb dX0_renewBans_52 (by decide) ?_
        refine lv_aload_n hx hb dX0_renewBans_53 rfl (lv_at hl 1 rfl) ?_
        refine fg_RX0_12 E hW rh0 dX0_renewBans_54 (fun a1466499 m1466500 r1466501 => ?_)
        obtain rfl : a1466464 = a1466499 := (m1466494).symm.trans m1466500
        refine fg_RX0_277 E hW r1466466 dX0_renewBans_57 (fun a1466502 m1466503 r1466504 => ?_)
        refine lv_iconst (v := 0) hx hb dX0_renewBans_60 (by decide) ?_
        refine lv_aload_n hx hb dX0_renewBans_61 rfl (lv_at hl 1 rfl) ?_
        refine fg_RX0_12 E hW rh0 dX0_renewBans_62 (fun a1466505 m1466506 r1466507 => ?_)
        obtain rfl : a1466464 = a1466505 := (m1466500).symm.trans m1466506
        refine fg_RX0_263 E hW r1466466 dX0_renewBans_65 (fun y1466508 m1466509 b1466510 => ?_)
        obtain rfl : y1466467 = y1466508 := (m1466468).symm.trans m1466509
        refine t_copy (n0 := 40) (n1 := 40) E hW tw_1175 ⟨tw_1004, tw_1003, tw_122⟩ hl.1 rfl r1466498 (by decide) rfl r1466504 (by decide) rfl rfl (by decide) rfl (by decide) (by decide) ⟨by omega, by omega⟩ (fun _ _ => trivial) ⟨Nat.le_of_ble_eq_true rfl, Nat.le_of_ble_eq_true rfl⟩ dX0_renewBans_68 (fun f1466511 H locs n1466513 g1466514 hW => ?_)
        have hF := FM.tr hF g1466514 rfl
        exact e_V E hW rfl ⟨rfl, hF⟩ dX0_renewBans_71
      · refine lv_aload_n hx hb dX0_renewBans_13 rfl (lv_at hl 1 rfl) ?_
        refine fg_RX0_12 E hW rh0 dX0_renewBans_14 (fun a1466515 m1466516 r1466517 => ?_)
        obtain rfl : a1466464 = a1466515 := (m1466465).symm.trans m1466516
        refine fg_RX0_274 E hW r1466466 dX0_renewBans_17 (fun a1466518 m1466519 r1466520 => ?_)
        refine lv_iload_n hx hb dX0_renewBans_20 rfl (lv_at hl 0 rfl) ?_
        refine lv_aload_n hx hb dX0_renewBans_21 rfl (lv_at hl 1 rfl) ?_
        refine lv_sipush (v := 263) hx hb dX0_renewBans_22 (by decide) ?_
        refine lv_iload_n hx hb dX0_renewBans_25 rfl (lv_at hl 0 rfl) ?_
        refine lv_iconst (v := (-1)) hx hb dX0_renewBans_26 (by decide) ?_
        refine t_callV (As := [.int 263, .int y1466461, .int (-1)]) (rest := [.int y1466461, .ref a1466518]) E hW (c_X0_anyHolds l G cI cJ cZ cD cR cT kp L f1466460 hW.2.2.2 _ h0 263 y1466461 (-1) rh0 (by decide) (by omega) (by decide)) rh0 (by decide) rfl wk_X0_anyHolds tw_752 rfl ⟨Nat.le_of_ble_eq_true rfl, Nat.le_of_ble_eq_true rfl⟩ ⟨rfl, rfl⟩ hl.1 rfl (Nat.le_of_ble_eq_true rfl) dX0_renewBans_27 ⟨Nat.le_of_ble_eq_true rfl, Nat.le_of_ble_eq_true rfl⟩ (fun v1466521 f1466522 H locs q1466523 hW => ?_)
        obtain ⟨⟨x1466525, rfl, p1466526⟩, g1466524⟩ := q1466523
        have p1466526 : (0 : Int) ≤ x1466525.toInt ∧ x1466525.toInt ≤ 1 := p1466526
        have hF := FM.tr hF g1466524 rfl
        have J1466529 : ∀ (y1466527 : Int32) (b1466528 : (0 : Int) ≤ y1466527.toInt ∧ y1466527.toInt ≤ 1) (H : Heap) (locs : List Loc) (ls : Array Slot), WS G cI cJ cZ cD cR cT A kp L f1466522 s H locs → FM kp L ms_X0_renewBans f0 f1466522 → lv_has ls 2 [(1, .int y1466461), (0, .ref h0)] → W p l e ({ frames := 5, cells := 0, slots := 0, locals := 143 }) s m ([.ref h0] : List Value).toArray below meth c H locs 0 0 (MQ below (QT (po_X0_renewBans kp L f0 h0) G cI cJ cZ cD cR cT A kp L) ([.ref h0] : List Value).toArray s 0 0 A) (F0 m 38 ls [.int y1466527, .int y1466461, .ref a1466518]) := by
          intro y1466527 b1466528 H locs ls hW hF hl
          clear p1466526
          refine gs_349 E hW r1466520 ⟨by omega, by omega⟩ dX0_renewBans_38 (fun f1466530 H locs e1466531 n1466532 g1466533 hW => ?_)
          have hF := FM.tr hF g1466533 rfl
          refine q_iinc hx hb dX0_renewBans_39 hl (k := 0) rfl rfl rfl (by omega) (by decide) (fun i1466534 ls h1466535 hl => ?_)
          have hl : lv_has ls 2 [(1, .int i1466534), (0, .ref h0)] := hl
          refine lv_goto (tgt := 2) hx hb dX0_renewBans_42 (by decide) ?_
          exact ih2 f1466530 i1466534 (by omega) (by omega) _ _ _ hW hF (lv_sub hl [0, 1] rfl)
        refine q_if_eq (tgt := 37) hx hb dX0_renewBans_30 (by decide) rfl (fun c1466536 => ?_) (fun c1466536 => ?_)
        · refine lv_iconst (v := 0) hx hb dX0_renewBans_37 (by decide) ?_
          exact J1466529 0 (by decide) _ _ _ hW hF (lv_sub hl [0, 1] rfl)
        · refine lv_iconst (v := 1) hx hb dX0_renewBans_33 (by decide) ?_
          refine lv_goto (tgt := 38) hx hb dX0_renewBans_34 (by decide) ?_
          exact J1466529 1 (by decide) _ _ _ hW hF (lv_sub hl [0, 1] rfl)
  have hk1466537 : (0 : Int32).toInt = 0 := rfl
  exact L1466463 41 f0 0 (by decide) (by omega) _ _ _ hW hF (lv_sub hl [0, 1] rfl)
def ms_X0_passWeek : List (Nat × Nat) := [(0, 6), (0, 12), (0, 13), (0, 14), (3, 0), (10, 0), (115, 0), (164, 0), (165, 0), (166, 0), (167, 0), (169, 0), (171, 0), (222, 0), (223, 0), (342, 0), (345, 0), (346, 0), (347, 0), (348, 0), (349, 0), (701, 0), (702, 0), (703, 0), (704, 0), (705, 0), (706, 0)]
def po_X0_passWeek (kp : Nat → Nat) (L : List Nat) (f0 : Nat → va_E) (h0 : Nat) : Option Value → (Nat → va_E) → Prop := fun v f => v = none ∧ FM kp L ms_X0_passWeek f0 f
set_option maxHeartbeats 4000000 in
set_option maxRecDepth 100000 in
theorem c_X0_passWeek (l : Launch) (G : va_G) (cI cJ cZ cD cR cT : ClassId) (kp : Nat → Nat) (L : List Nat) (f0 : Nat → va_E) (hTH : TH cI cJ cZ cD cR cT kp L f0) (sz : Nat) (h0 : Nat) (rh0 : RK kp L h0 0) : Met l yX0_passWeek (Cond.code yX0_passWeek cX0_passWeek 2 none :: wTab) ({ frames := 6, cells := 0, slots := 0, locals := 170 }) (va_Pc [.ref h0] (PreW G (tys6 cI cJ cZ cD cR cT) (va_pl L f0) sz)) (QT (po_X0_passWeek kp L f0 h0) G cI cJ cZ cD cR cT (va_A (va_pl L f0) sz) kp L) 0 0 (va_A (va_pl L f0) sz) := by
  refine metT (by decide) (Nat.le_of_ble_eq_true rfl) hTH ?_
  intro p e s m below meth c A ls E hW hl
  obtain ⟨hx, hb, -, hml, hown, hts, -, -, -⟩ := id E
  have hF : FM kp L ms_X0_passWeek f0 f0 := FM.rf
  have hl : lv_has ls 2 [(0, .ref h0)] := hl
  refine lv_aload_n hx hb dX0_passWeek_0 rfl (lv_at hl 0 rfl) ?_
  refine fg_RX0_93 E hW rh0 dX0_passWeek_1 (fun y1466538 m1466539 b1466540 => ?_)
  refine lv_sipush (v := 399) hx hb dX0_passWeek_4 (by decide) ?_
  refine q_icmp_lt (Y := 399) (tgt := 11) hx hb dX0_passWeek_7 (by decide) rfl rfl (fun c1466541 => ?_) (fun c1466541 => ?_)
  · refine lv_aload_n hx hb dX0_passWeek_11 rfl (lv_at hl 0 rfl) ?_
    refine t_callV (As := []) (rest := []) E hW (c_X0_lookAtNow l G cI cJ cZ cD cR cT kp L f0 hW.2.2.2 _ h0 rh0) rh0 (by decide) rfl wk_X0_lookAtNow tw_1118 rfl ⟨Nat.le_of_ble_eq_true rfl, Nat.le_of_ble_eq_true rfl⟩ ⟨rfl, rfl⟩ hl.1 rfl (Nat.le_of_ble_eq_true rfl) dX0_passWeek_12 ⟨Nat.le_of_ble_eq_true rfl, Nat.le_of_ble_eq_true rfl⟩ (fun v1466542 f1466543 H locs q1466544 hW => ?_)
    obtain ⟨rfl, g1466545⟩ := q1466544
    have hF := FM.tr hF g1466545 rfl
    refine lv_aload_n hx hb dX0_passWeek_15 rfl (lv_at hl 0 rfl) ?_
    refine t_callV (As := []) (rest := []) E hW (c_X0_reap l G cI cJ cZ cD cR cT kp L f1466543 hW.2.2.2 _ h0 rh0) rh0 (by decide) rfl wk_X0_reap tw_1119 rfl ⟨Nat.le_of_ble_eq_true rfl, Nat.le_of_ble_eq_true rfl⟩ ⟨rfl, rfl⟩ hl.1 rfl (Nat.le_of_ble_eq_true rfl) dX0_passWeek_16 ⟨Nat.le_of_ble_eq_true rfl, Nat.le_of_ble_eq_true rfl⟩ (fun v1466546 f1466547 H locs q1466548 hW => ?_)
    obtain ⟨rfl, g1466549⟩ := q1466548
    have hF := FM.tr hF g1466549 rfl
    refine lv_aload_n hx hb dX0_passWeek_19 rfl (lv_at hl 0 rfl) ?_
    refine fg_RX0_93 E hW rh0 dX0_passWeek_20 (fun y1466550 m1466551 b1466552 => ?_)
    obtain rfl : y1466538 = y1466550 := (((fm_I g1466549 rh0 rfl).trans ((fm_I g1466545 rh0 rfl).trans m1466539))).symm.trans m1466551
    have J1466577 : ∀ (f1466575 : Nat → va_E) (m1466576 : oI (f1466575 h0) 6 = y1466538) (H : Heap) (locs : List Loc) (ls : Array Slot), WS G cI cJ cZ cD cR cT A kp L f1466575 s H locs → FM kp L ms_X0_passWeek f0 f1466575 → lv_has ls 2 [(0, .ref h0)] → W p l e ({ frames := 6, cells := 0, slots := 0, locals := 170 }) s m ([.ref h0] : List Value).toArray below meth c H locs 0 0 (MQ below (QT (po_X0_passWeek kp L f0 h0) G cI cJ cZ cD cR cT A kp L) ([.ref h0] : List Value).toArray s 0 0 A) (F0 m 55 ls []) := by
      intro f1466575 m1466576 H locs ls hW hF hl
      refine lv_iconst (v := 0) hx hb dX0_passWeek_55 (by decide) ?_
      refine lv_istore_n (lv' := [(1, .int 0), (0, .ref h0)]) hx hb dX0_passWeek_56 rfl hl (by decide) rfl (fun ls hl => ?_)
      have L1467507 : ∀ (n : Nat), ∀ (f1467503 : Nat → va_E) (y1467505 : Int32) (m1467504 : oI (f1467503 h0) 6 = y1466538) (b1467506 : (0 : Int) ≤ y1467505.toInt ∧ y1467505.toInt ≤ 60) (hm : (61 : Int) - y1467505.toInt ≤ n) (H : Heap) (locs : List Loc) (ls : Array Slot), WS G cI cJ cZ cD cR cT A kp L f1467503 s H locs → FM kp L ms_X0_passWeek f0 f1467503 → lv_has ls 2 [(1, .int y1467505), (0, .ref h0)] → W p l e ({ frames := 6, cells := 0, slots := 0, locals := 170 }) s m ([.ref h0] : List Value).toArray below meth c H locs 0 0 (MQ below (QT (po_X0_passWeek kp L f0 h0) G cI cJ cZ cD cR cT A kp L) ([.ref h0] : List Value).toArray s 0 0 A) (F0 m 57 ls []) := by
        intro n
        induction n with
        | zero =>
          intro f1467503 y1467505 m1467504 b1467506 hm H locs ls hW hF hl
          have hz := i32_b y1467505
          exfalso; omega
        | succ n ih =>
          intro f1467503 y1467505 m1467504 b1467506 hm H locs ls hW hF hl
          have ih57 := ih
          refine lv_iload_n hx hb dX0_passWeek_57 rfl (lv_at hl 0 rfl) ?_
          refine lv_aload_n hx hb dX0_passWeek_58 rfl (lv_at hl 1 rfl) ?_
          refine fg_RX0_28 E hW rh0 dX0_passWeek_59 (fun a1467508 m1467509 r1467510 => ?_)
          refine fg_RX0_148 E hW r1467510 dX0_passWeek_62 (fun y1467511 m1467512 b1467513 => ?_)
          refine q_icmp_ge (tgt := 92) hx hb dX0_passWeek_65 (by decide) rfl rfl (fun c1467540 => ?_) (fun c1467540 => ?_)
          · refine lv_aload_n hx hb dX0_passWeek_92 rfl (lv_at hl 1 rfl) ?_
            refine t_callV (As := []) (rest := []) E hW (c_X0_payDraws l G cI cJ cZ cD cR cT kp L f1467503 hW.2.2.2 _ h0 rh0) rh0 (by decide) rfl wk_X0_payDraws tw_1158 rfl ⟨Nat.le_of_ble_eq_true rfl, Nat.le_of_ble_eq_true rfl⟩ ⟨rfl, rfl⟩ hl.1 rfl (Nat.le_of_ble_eq_true rfl) dX0_passWeek_93 ⟨Nat.le_of_ble_eq_true rfl, Nat.le_of_ble_eq_true rfl⟩ (fun v1467541 f1467542 H locs q1467543 hW => ?_)
            obtain ⟨rfl, g1467544⟩ := q1467543
            have hF := FM.tr hF g1467544 rfl
            refine lv_aload_n hx hb dX0_passWeek_96 rfl (lv_at hl 1 rfl) ?_
            refine fg_RX0_64 E hW rh0 dX0_passWeek_97 (fun y1467545 m1467546 b1467547 => ?_)
            have J1467571 : ∀ (f1467566 : Nat → va_E) (m1467567 : oI (f1467566 a1467508) 0 = y1467511) (m1467568 : oR (f1467566 h0) 2 = a1467508) (m1467569 : oI (f1467566 h0) 6 = y1466538) (m1467570 : oI (f1467566 h0) 7 = y1467545) (H : Heap) (locs : List Loc) (ls : Array Slot), WS G cI cJ cZ cD cR cT A kp L f1467566 s H locs → FM kp L ms_X0_passWeek f0 f1467566 → lv_has ls 2 [(1, .int y1467505), (0, .ref h0)] → W p l e ({ frames := 6, cells := 0, slots := 0, locals := 170 }) s m ([.ref h0] : List Value).toArray below meth c H locs 0 0 (MQ below (QT (po_X0_passWeek kp L f0 h0) G cI cJ cZ cD cR cT A kp L) ([.ref h0] : List Value).toArray s 0 0 A) (F0 m 117 ls []) := by
              intro f1467566 m1467567 m1467568 m1467569 m1467570 H locs ls hW hF hl
              refine lv_aload_n hx hb dX0_passWeek_117 rfl (lv_at hl 1 rfl) ?_
              refine lv_dup hx hb dX0_passWeek_118 rfl ?_
              refine fg_RX0_93 E hW rh0 dX0_passWeek_119 (fun y1467572 m1467573 b1467574 => ?_)
              obtain rfl : y1466538 = y1467572 := (m1467569).symm.trans m1467573
              refine lv_iconst (v := 1) hx hb dX0_passWeek_122 (by decide) ?_
              refine q_iadd (Y := 1) hx hb dX0_passWeek_123 rfl rfl (by omega) (fun x1467575 h1467576 => ?_)
              refine fp_RX0_93 E hW rh0 (by omega) dX0_passWeek_124 (fun f1467577 H locs e1467578 n1467579 g1467580 hW => ?_)
              have hF := FM.tr hF g1467580 rfl
              exact e_V E hW rfl ⟨rfl, hF⟩ dX0_passWeek_127
            refine q_if_eq (tgt := 113) hx hb dX0_passWeek_100 (by decide) rfl (fun c1467581 => ?_) (fun c1467581 => ?_)
            · refine lv_aload_n hx hb dX0_passWeek_113 rfl (lv_at hl 1 rfl) ?_
              refine t_callV (As := []) (rest := []) E hW (c_X0_renewBans l G cI cJ cZ cD cR cT kp L f1467542 hW.2.2.2 _ h0 rh0) rh0 (by decide) rfl wk_X0_renewBans tw_1171 rfl ⟨Nat.le_of_ble_eq_true rfl, Nat.le_of_ble_eq_true rfl⟩ ⟨rfl, rfl⟩ hl.1 rfl (Nat.le_of_ble_eq_true rfl) dX0_passWeek_114 ⟨Nat.le_of_ble_eq_true rfl, Nat.le_of_ble_eq_true rfl⟩ (fun v1467582 f1467583 H locs q1467584 hW => ?_)
              obtain ⟨rfl, g1467585⟩ := q1467584
              have hF := FM.tr hF g1467585 rfl
              exact J1467571 f1467583 ((fm_I g1467585 r1467510 rfl).trans ((fm_I g1467544 r1467510 rfl).trans m1467512)) ((fm_R g1467585 rh0 rfl).trans ((fm_R g1467544 rh0 rfl).trans m1467509)) ((fm_I g1467585 rh0 rfl).trans ((fm_I g1467544 rh0 rfl).trans m1467504)) ((fm_I g1467585 rh0 rfl).trans m1467546) _ _ _ hW hF (lv_sub hl [0, 1] rfl)
            · refine lv_aload_n hx hb dX0_passWeek_103 rfl (lv_at hl 1 rfl) ?_
              refine fg_RX0_42 E hW rh0 dX0_passWeek_104 (fun a1467586 m1467587 r1467588 => ?_)
              refine t_callV (As := []) (rest := []) E hW (c_X2_asksBanned l G cI cJ cZ cD cR cT kp L f1467542 hW.2.2.2 _ a1467586 r1467588) r1467588 (by decide) rfl wk_X2_asksBanned tw_1167 rfl ⟨Nat.le_of_ble_eq_true rfl, Nat.le_of_ble_eq_true rfl⟩ ⟨rfl, rfl⟩ hl.1 rfl (Nat.le_of_ble_eq_true rfl) dX0_passWeek_107 ⟨Nat.le_of_ble_eq_true rfl, Nat.le_of_ble_eq_true rfl⟩ (fun v1467589 f1467590 H locs q1467591 hW => ?_)
              obtain ⟨⟨x1467593, rfl, p1467594⟩, g1467592⟩ := q1467591
              have hF := FM.tr hF g1467592 rfl
              refine q_if_eq (tgt := 117) hx hb dX0_passWeek_110 (by decide) rfl (fun c1467595 => ?_) (fun c1467595 => ?_)
              · exact J1467571 f1467590 ((fm_I g1467592 r1467510 rfl).trans ((fm_I g1467544 r1467510 rfl).trans m1467512)) ((fm_R g1467592 rh0 rfl).trans ((fm_R g1467544 rh0 rfl).trans m1467509)) ((fm_I g1467592 rh0 rfl).trans ((fm_I g1467544 rh0 rfl).trans m1467504)) ((fm_I g1467592 rh0 rfl).trans m1467546) _ _ _ hW hF (lv_sub hl [0, 1] rfl)
              · refine lv_aload_n hx hb dX0_passWeek_113 rfl (lv_at hl 1 rfl) ?_
                refine t_callV (As := []) (rest := []) E hW (c_X0_renewBans l G cI cJ cZ cD cR cT kp L f1467590 hW.2.2.2 _ h0 rh0) rh0 (by decide) rfl wk_X0_renewBans tw_1171 rfl ⟨Nat.le_of_ble_eq_true rfl, Nat.le_of_ble_eq_true rfl⟩ ⟨rfl, rfl⟩ hl.1 rfl (Nat.le_of_ble_eq_true rfl) dX0_passWeek_114 ⟨Nat.le_of_ble_eq_true rfl, Nat.le_of_ble_eq_true rfl⟩ (fun v1467596 f1467597 H locs q1467598 hW => ?_)
                obtain ⟨rfl, g1467599⟩ := q1467598
                have hF := FM.tr hF g1467599 rfl
                exact J1467571 f1467597 ((fm_I g1467599 r1467510 rfl).trans ((fm_I g1467592 r1467510 rfl).trans ((fm_I g1467544 r1467510 rfl).trans m1467512))) ((fm_R g1467599 rh0 rfl).trans ((fm_R g1467592 rh0 rfl).trans ((fm_R g1467544 rh0 rfl).trans m1467509))) ((fm_I g1467599 rh0 rfl).trans ((fm_I g1467592 rh0 rfl).trans ((fm_I g1467544 rh0 rfl).trans m1467504))) ((fm_I g1467599 rh0 rfl).trans ((fm_I g1467592 rh0 rfl).trans m1467546)) _ _ _ hW hF (lv_sub hl [0, 1] rfl)
          · refine lv_aload_n hx hb dX0_passWeek_68 rfl (lv_at hl 1 rfl) ?_
            refine fg_RX0_28 E hW rh0 dX0_passWeek_69 (fun a1467600 m1467601 r1467602 => ?_)
            obtain rfl : a1467508 = a1467600 := (m1467509).symm.trans m1467601
            refine fg_RX0_151 E hW r1467510 dX0_passWeek_72 (fun a1467603 m1467604 r1467605 => ?_)
            refine lv_iload_n hx hb dX0_passWeek_75 rfl (lv_at hl 0 rfl) ?_
            refine gl_706 E hW r1467605 ⟨by omega, by omega⟩ dX0_passWeek_76 (fun y1467606 m1467607 => ?_)
            refine lv_iconst (v := 1) hx hb dX0_passWeek_77 (by decide) ?_
            have J1467618 : ∀ (f1467613 : Nat → va_E) (m1467614 : oI (f1467613 a1467508) 0 = y1467511) (m1467615 : oR (f1467613 a1467508) 6 = a1467603) (m1467616 : oR (f1467613 h0) 2 = a1467508) (m1467617 : oI (f1467613 h0) 6 = y1466538) (H : Heap) (locs : List Loc) (ls : Array Slot), WS G cI cJ cZ cD cR cT A kp L f1467613 s H locs → FM kp L ms_X0_passWeek f0 f1467613 → lv_has ls 2 [(1, .int y1467505), (0, .ref h0)] → W p l e ({ frames := 6, cells := 0, slots := 0, locals := 170 }) s m ([.ref h0] : List Value).toArray below meth c H locs 0 0 (MQ below (QT (po_X0_passWeek kp L f0 h0) G cI cJ cZ cD cR cT A kp L) ([.ref h0] : List Value).toArray s 0 0 A) (F0 m 86 ls []) := by
              intro f1467613 m1467614 m1467615 m1467616 m1467617 H locs ls hW hF hl
              refine q_iinc hx hb dX0_passWeek_86 hl (k := 0) rfl rfl rfl (by omega) (by decide) (fun i1467619 ls h1467620 hl => ?_)
              have hl : lv_has ls 2 [(1, .int i1467619), (0, .ref h0)] := hl
              refine lv_goto (tgt := 57) hx hb dX0_passWeek_89 (by decide) ?_
              exact ih57 f1467613 i1467619 m1467617 (by omega) (by omega) _ _ _ hW hF (lv_sub hl [0, 1] rfl)
            refine q_icmp_ne (Y := 1) (tgt := 86) hx hb dX0_passWeek_78 (by decide) rfl rfl (fun c1467621 => ?_) (fun c1467621 => ?_)
            · exact J1467618 f1467503 m1467512 m1467604 m1467601 m1467504 _ _ _ hW hF (lv_sub hl [0, 1] rfl)
            · refine lv_aload_n hx hb dX0_passWeek_81 rfl (lv_at hl 1 rfl) ?_
              refine lv_iload_n hx hb dX0_passWeek_82 rfl (lv_at hl 0 rfl) ?_
              refine t_callV (As := [.int y1467505]) (rest := []) E hW (c_X0_advanceWrit l G cI cJ cZ cD cR cT kp L f1467503 hW.2.2.2 _ h0 y1467505 rh0 (by omega)) rh0 (by decide) rfl wk_X0_advanceWrit tw_1146 rfl ⟨Nat.le_of_ble_eq_true rfl, Nat.le_of_ble_eq_true rfl⟩ ⟨rfl, rfl⟩ hl.1 rfl (Nat.le_of_ble_eq_true rfl) dX0_passWeek_83 ⟨Nat.le_of_ble_eq_true rfl, Nat.le_of_ble_eq_true rfl⟩ (fun v1467622 f1467623 H locs q1467624 hW => ?_)
              obtain ⟨rfl, g1467625⟩ := q1467624
              have hF := FM.tr hF g1467625 rfl
              exact J1467618 f1467623 ((fm_I g1467625 r1467510 rfl).trans m1467512) ((fm_R g1467625 r1467510 rfl).trans m1467604) ((fm_R g1467625 rh0 rfl).trans m1467601) ((fm_I g1467625 rh0 rfl).trans m1467504) _ _ _ hW hF (lv_sub hl [0, 1] rfl)
      have hk1467626 : (0 : Int32).toInt = 0 := rfl
      exact L1467507 61 f1466575 0 m1466576 (by decide) (by omega) _ _ _ hW hF (lv_sub hl [0, 1] rfl)
    refine q_if_eq (tgt := 55) hx hb dX0_passWeek_23 (by decide) rfl (fun c1467627 => ?_) (fun c1467627 => ?_)
    · exact J1466577 f1466547 m1466551 _ _ _ hW hF (lv_sub hl [0] rfl)
    · refine lv_aload_n hx hb dX0_passWeek_26 rfl (lv_at hl 0 rfl) ?_
      refine fg_RX0_93 E hW rh0 dX0_passWeek_27 (fun y1467628 m1467629 b1467630 => ?_)
      obtain rfl : y1466538 = y1467628 := (m1466551).symm.trans m1467629
      refine lv_bipush (v := 13) hx hb dX0_passWeek_30 (by decide) ?_
      refine q_irem (Y := 13) hx hb dX0_passWeek_32 rfl rfl (by omega) (by omega) (fun x1467631 h1467632 => ?_)
      refine q_if_ne (tgt := 55) hx hb dX0_passWeek_33 (by decide) rfl (fun c1467633 => ?_) (fun c1467633 => ?_)
      · exact J1466577 f1466547 m1467629 _ _ _ hW hF (lv_sub hl [0] rfl)
      · refine lv_aload_n hx hb dX0_passWeek_36 rfl (lv_at hl 0 rfl) ?_
        refine t_callV (As := []) (rest := []) E hW (c_X0_collectRents l G cI cJ cZ cD cR cT kp L f1466547 hW.2.2.2 _ h0 rh0) rh0 (by decide) rfl wk_X0_collectRents tw_1124 rfl ⟨Nat.le_of_ble_eq_true rfl, Nat.le_of_ble_eq_true rfl⟩ ⟨rfl, rfl⟩ hl.1 rfl (Nat.le_of_ble_eq_true rfl) dX0_passWeek_37 ⟨Nat.le_of_ble_eq_true rfl, Nat.le_of_ble_eq_true rfl⟩ (fun v1467634 f1467635 H locs q1467636 hW => ?_)
        obtain ⟨rfl, g1467637⟩ := q1467636
        have hF := FM.tr hF g1467637 rfl
        refine lv_aload_n hx hb dX0_passWeek_40 rfl (lv_at hl 0 rfl) ?_
        refine t_callV (As := []) (rest := []) E hW (c_X0_payMortgages l G cI cJ cZ cD cR cT kp L f1467635 hW.2.2.2 _ h0 rh0) rh0 (by decide) rfl wk_X0_payMortgages tw_1135 rfl ⟨Nat.le_of_ble_eq_true rfl, Nat.le_of_ble_eq_true rfl⟩ ⟨rfl, rfl⟩ hl.1 rfl (Nat.le_of_ble_eq_true rfl) dX0_passWeek_41 ⟨Nat.le_of_ble_eq_true rfl, Nat.le_of_ble_eq_true rfl⟩ (fun v1467638 f1467639 H locs q1467640 hW => ?_)
        obtain ⟨rfl, g1467641⟩ := q1467640
        have hF := FM.tr hF g1467641 rfl
        refine lv_aload_n hx hb dX0_passWeek_44 rfl (lv_at hl 0 rfl) ?_
        refine fg_RX0_97 E hW rh0 dX0_passWeek_45 (fun y1467642 m1467643 b1467644 => ?_)
        refine q_if_eq (tgt := 55) hx hb dX0_passWeek_48 (by decide) rfl (fun c1467645 => ?_) (fun c1467645 => ?_)
        · exact J1466577 f1467639 ((fm_I g1467641 rh0 rfl).trans ((fm_I g1467637 rh0 rfl).trans m1467629)) _ _ _ hW hF (lv_sub hl [0] rfl)
        · refine lv_aload_n hx hb dX0_passWeek_51 rfl (lv_at hl 0 rfl) ?_
          refine t_callV (As := []) (rest := []) E hW (c_X0_tellWrits l G cI cJ cZ cD cR cT kp L f1467639 hW.2.2.2 _ h0 rh0) rh0 (by decide) rfl wk_X0_tellWrits tw_1139 rfl ⟨Nat.le_of_ble_eq_true rfl, Nat.le_of_ble_eq_true rfl⟩ ⟨rfl, rfl⟩ hl.1 rfl (Nat.le_of_ble_eq_true rfl) dX0_passWeek_52 ⟨Nat.le_of_ble_eq_true rfl, Nat.le_of_ble_eq_true rfl⟩ (fun v1467646 f1467647 H locs q1467648 hW => ?_)
          obtain ⟨rfl, g1467649⟩ := q1467648
          have hF := FM.tr hF g1467649 rfl
          exact J1466577 f1467647 ((fm_I g1467649 rh0 rfl).trans ((fm_I g1467641 rh0 rfl).trans ((fm_I g1467637 rh0 rfl).trans m1467629))) _ _ _ hW hF (lv_sub hl [0] rfl)
  · exact e_V E hW rfl ⟨rfl, hF⟩ dX0_passWeek_10
def ms_X0_settle : List (Nat × Nat) := [(164, 0), (166, 0), (347, 0)]
def po_X0_settle (kp : Nat → Nat) (L : List Nat) (f0 : Nat → va_E) (h0 : Nat) (u1 : Int32) (u2 : Int32) (u3 : Int32) : Option Value → (Nat → va_E) → Prop := fun v f => v = none ∧ FM kp L ms_X0_settle f0 f
set_option maxHeartbeats 4000000 in
set_option maxRecDepth 100000 in
theorem c_X0_settle (l : Launch) (G : va_G) (cI cJ cZ cD cR cT : ClassId) (kp : Nat → Nat) (L : List Nat) (f0 : Nat → va_E) (hTH : TH cI cJ cZ cD cR cT kp L f0) (sz : Nat) (h0 : Nat) (u1 : Int32) (u2 : Int32) (u3 : Int32) (rh0 : RK kp L h0 0) (pu1 : (0 : Int) ≤ u1.toInt ∧ u1.toInt ≤ 39) (pu2 : (0 : Int) ≤ u2.toInt ∧ u2.toInt ≤ 39) (pu3 : (0 : Int) ≤ u3.toInt ∧ u3.toInt ≤ 1) : Met l yX0_settle (Cond.code yX0_settle cX0_settle 4 none :: wTab) ({ frames := 1, cells := 0, slots := 0, locals := 40 }) (va_Pc [.ref h0, .int u1, .int u2, .int u3] (PreW G (tys6 cI cJ cZ cD cR cT) (va_pl L f0) sz)) (QT (po_X0_settle kp L f0 h0 u1 u2 u3) G cI cJ cZ cD cR cT (va_A (va_pl L f0) sz) kp L) 0 0 (va_A (va_pl L f0) sz) := by
  refine metT (by decide) (Nat.le_of_ble_eq_true rfl) hTH ?_
  intro p e s m below meth c A ls E hW hl
  obtain ⟨hx, hb, -, hml, hown, hts, -, -, -⟩ := id E
  have hF : FM kp L ms_X0_settle f0 f0 := FM.rf
  have hl : lv_has ls 4 [(0, .ref h0), (1, .int u1), (2, .int u2), (3, .int u3)] := hl
  refine lv_aload_n hx hb dX0_settle_0 rfl (lv_at hl 0 rfl) ?_
  refine fg_RX0_21 E hW rh0 dX0_settle_1 (fun a1467650 m1467651 r1467652 => ?_)
  refine fg_RX0_124 E hW r1467652 dX0_settle_4 (fun a1467653 m1467654 r1467655 => ?_)
  refine lv_iload_n hx hb dX0_settle_7 rfl (lv_at hl 2 rfl) ?_
  refine lv_iload_n hx hb dX0_settle_8 rfl (lv_at hl 1 rfl) ?_
  refine gs_164 E hW r1467655 ⟨by omega, by omega⟩ (by omega) dX0_settle_9 (fun f1467656 H locs e1467657 n1467658 g1467659 hW => ?_)
  have hF := FM.tr hF g1467659 rfl
  refine lv_aload_n hx hb dX0_settle_10 rfl (lv_at hl 0 rfl) ?_
  refine fg_RX0_21 E hW rh0 dX0_settle_11 (fun a1467660 m1467661 r1467662 => ?_)
  obtain rfl : a1467650 = a1467660 := (((fm_R g1467659 rh0 rfl).trans m1467651)).symm.trans m1467661
  refine fg_RX0_127 E hW r1467652 dX0_settle_14 (fun a1467663 m1467664 r1467665 => ?_)
  refine lv_iload_n hx hb dX0_settle_17 rfl (lv_at hl 2 rfl) ?_
  refine lv_iload_n hx hb dX0_settle_18 rfl (lv_at hl 3 rfl) ?_
  refine gs_166 E hW r1467665 ⟨by omega, by omega⟩ dX0_settle_19 (fun f1467666 H locs e1467667 n1467668 g1467669 hW => ?_)
  have hF := FM.tr hF g1467669 rfl
  refine lv_aload_n hx hb dX0_settle_20 rfl (lv_at hl 0 rfl) ?_
  refine fg_RX0_12 E hW rh0 dX0_settle_21 (fun a1467670 m1467671 r1467672 => ?_)
  refine fg_RX0_130 E hW r1467672 dX0_settle_24 (fun a1467673 m1467674 r1467675 => ?_)
  refine lv_iload_n hx hb dX0_settle_27 rfl (lv_at hl 1 rfl) ?_
  refine lv_iconst (v := (-1)) hx hb dX0_settle_28 (by decide) ?_
  refine gs_347 E hW r1467675 ⟨by omega, by omega⟩ dX0_settle_29 (fun f1467676 H locs e1467677 n1467678 g1467679 hW => ?_)
  have hF := FM.tr hF g1467679 rfl
  exact e_V E hW rfl ⟨rfl, hF⟩ dX0_settle_30
def ms_X0_tellCrops : List (Nat × Nat) := [(0, 9), (0, 10), (0, 11)]
def po_X0_tellCrops (kp : Nat → Nat) (L : List Nat) (f0 : Nat → va_E) (h0 : Nat) (u1 : Int32) (u2 : Int32) : Option Value → (Nat → va_E) → Prop := fun v f => v = none ∧ FM kp L ms_X0_tellCrops f0 f
set_option maxHeartbeats 4000000 in
set_option maxRecDepth 100000 in
theorem c_X0_tellCrops (l : Launch) (G : va_G) (cI cJ cZ cD cR cT : ClassId) (kp : Nat → Nat) (L : List Nat) (f0 : Nat → va_E) (hTH : TH cI cJ cZ cD cR cT kp L f0) (sz : Nat) (h0 : Nat) (u1 : Int32) (u2 : Int32) (rh0 : RK kp L h0 0) : Met l yX0_tellCrops (Cond.code yX0_tellCrops cX0_tellCrops 3 none :: wTab) ({ frames := 1, cells := 0, slots := 0, locals := 40 }) (va_Pc [.ref h0, .int u1, .int u2] (PreW G (tys6 cI cJ cZ cD cR cT) (va_pl L f0) sz)) (QT (po_X0_tellCrops kp L f0 h0 u1 u2) G cI cJ cZ cD cR cT (va_A (va_pl L f0) sz) kp L) 0 0 (va_A (va_pl L f0) sz) := by
  refine metT (by decide) (Nat.le_of_ble_eq_true rfl) hTH ?_
  intro p e s m below meth c A ls E hW hl
  obtain ⟨hx, hb, -, hml, hown, hts, -, -, -⟩ := id E
  have hF : FM kp L ms_X0_tellCrops f0 f0 := FM.rf
  have hl : lv_has ls 3 [(0, .ref h0), (1, .int u1), (2, .int u2)] := hl
  refine lv_aload_n hx hb dX0_tellCrops_0 rfl (lv_at hl 0 rfl) ?_
  refine lv_iconst (v := 1) hx hb dX0_tellCrops_1 (by decide) ?_
  refine fp_RX0_97 E hW rh0 (by decide) dX0_tellCrops_2 (fun f1467680 H locs e1467681 n1467682 g1467683 hW => ?_)
  have hF := FM.tr hF g1467683 rfl
  refine lv_aload_n hx hb dX0_tellCrops_5 rfl (lv_at hl 0 rfl) ?_
  refine lv_iload_n hx hb dX0_tellCrops_6 rfl (lv_at hl 1 rfl) ?_
  refine fp_RX0_107 E hW rh0 dX0_tellCrops_7 (fun f1467684 H locs e1467685 n1467686 g1467687 hW => ?_)
  have hF := FM.tr hF g1467687 rfl
  refine lv_aload_n hx hb dX0_tellCrops_10 rfl (lv_at hl 0 rfl) ?_
  refine lv_iload_n hx hb dX0_tellCrops_11 rfl (lv_at hl 2 rfl) ?_
  refine fp_RX0_110 E hW rh0 dX0_tellCrops_12 (fun f1467688 H locs e1467689 n1467690 g1467691 hW => ?_)
  have hF := FM.tr hF g1467691 rfl
  exact e_V E hW rfl ⟨rfl, hF⟩ dX0_tellCrops_15
