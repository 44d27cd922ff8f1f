
def po_X11_go_w (kp : Nat → Nat) (L : List Nat) (f0 : Nat → va_E) (h0 : Nat) (u1 : Int32) : Option Value → (Nat → va_E) → Prop := fun v f => (∃ r : Int32, v = some (.int r) ∧ ((((1 ≤ u1.toInt ∧ u1.toInt ≤ 104) ∧ (oI (f0 (oR (f0 h0) 0)) 6).toInt + u1.toInt ≤ 399) ∧ r.toInt = (oI (f0 (oR (f0 h0) 0)) 6).toInt + u1.toInt ∧ (oI (f (oR (f0 h0) 0)) 6).toInt = r.toInt) ∨ (¬ ((1 ≤ u1.toInt ∧ u1.toInt ≤ 104) ∧ (oI (f0 (oR (f0 h0) 0)) 6).toInt + u1.toInt ≤ 399) ∧ r.toInt = -1 ∧ (oI (f (oR (f0 h0) 0)) 6).toInt = (oI (f0 (oR (f0 h0) 0)) 6).toInt))) ∧ FM kp L ms_X11_go f0 f ∧ WT kp L [oR (f0 h0) 0] f0 f
set_option maxHeartbeats 4000000 in
set_option maxRecDepth 100000 in
theorem c_X11_go_w (l : Launch) (G : va_G) (cI cJ cZ cD cR cT : ClassId) (kp : Nat → Nat) (L : List Nat) (f0 : Nat → va_E) (hTH : TH cI cJ cZ cD cR cT kp L f0) (sz : Nat) (h0 : Nat) (u1 : Int32) (rh0 : RK kp L h0 11) : Met l yX11_go (Cond.code yX11_go cX11_go 3 (some .int) :: wTab) ({ frames := 7, cells := 0, slots := 0, locals := 220 }) (va_Pc [.ref h0, .int u1] (PreW G (tys6 cI cJ cZ cD cR cT) (va_pl L f0) sz)) (QT (po_X11_go_w kp L f0 h0 u1) G cI cJ cZ cD cR cT (va_A (va_pl L f0) sz) kp L) 0 0 (va_A (va_pl L f0) sz) := by
  refine metT (by decide) (Nat.le_of_ble_eq_true rfl) hTH ?_
  intro p e s m below meth c A ls E hW hl
  obtain ⟨hx, hb, -, hml, hown, hts, -, -, -⟩ := id E
  have hl : lv_has ls 3 [(0, .ref h0), (1, .int u1)] := hl
  obtain ⟨C, mC⟩ : ∃ x : Nat, oR (f0 h0) 0 = x := ⟨_, rfl⟩
  have rC : RK kp L C 0 := by rw [← mC]; exact th_ref hTH rh0 (by decide) (by decide) rfl
  obtain ⟨vn, mvn⟩ : ∃ x : Int32, oI (f0 C) 6 = x := ⟨_, rfl⟩
  refine lv_aload_n hx hb dX11_go_0 rfl (lv_at hl 0 rfl) ?_
  refine lv_iload_n hx hb dX11_go_1 rfl (lv_at hl 1 rfl) ?_
  refine t_callV (As := [.int u1]) (rest := []) E hW (c_X11_canGo_x l G cI cJ cZ cD cR cT kp L f0 hW.2.2.2 _ h0 u1 rh0) rh0 (by decide) rfl wk_X11_canGo tw_1110 rfl ⟨Nat.le_of_ble_eq_true rfl, Nat.le_of_ble_eq_true rfl⟩ ⟨rfl, rfl⟩ hl.1 rfl (Nat.le_of_ble_eq_true rfl) dX11_go_2 ⟨Nat.le_of_ble_eq_true rfl, Nat.le_of_ble_eq_true rfl⟩ (fun v1 f1 H locs q hW => ?_)
  obtain ⟨⟨x1, rfl, p1⟩, g1, w1⟩ := q
  rw [mC, mvn] at p1
  have hF : FM kp L ms_X11_go f0 f1 := FM.tr FM.rf g1 (by decide +kernel)
  have n1 : oI (f1 C) 6 = vn := (fm_I g1 rC rfl).trans mvn
  have w1 : WT kp L [C] f0 f1 := wt_call wt_rf w1 (fun q h => absurd h List.not_mem_nil)
  refine q_if_ne (tgt := 14) hx hb dX11_go_5 (by decide) rfl (fun c1 => ?_) (fun c1 => ?_)
  · have hP : (1 ≤ u1.toInt ∧ u1.toInt ≤ 104) ∧ vn.toInt + u1.toInt ≤ 399 := by omega
    have loop : ∀ (n : Nat) (x : Int32) (f : Nat → va_E) (ls : Array Slot) (H : Heap) (locs : List Loc), 0 ≤ x.toInt → x.toInt ≤ u1.toInt → u1.toInt - x.toInt ≤ (n : Int) → WS G cI cJ cZ cD cR cT A kp L f s H locs → FM kp L ms_X11_go f0 f → WT kp L [C] f0 f → (oI (f C) 6).toInt = vn.toInt + x.toInt → lv_has ls 3 [(2, .int x), (0, .ref h0), (1, .int u1)] → W p l e ({ frames := 7, cells := 0, slots := 0, locals := 220 }) s m ([.ref h0, .int u1] : List Value).toArray below meth c H locs 0 0 (MQ below (QT (po_X11_go_w kp L f0 h0 u1) G cI cJ cZ cD cR cT A kp L) ([.ref h0, .int u1] : List Value).toArray s 0 0 A) (F0 m 16 ls []) := by
      intro n
      induction n with
      | zero =>
        intro x f ls H locs h0x h1x hn hW hF hw hv hl
        refine lv_iload_n hx hb dX11_go_16 rfl (lv_at hl 0 rfl) ?_
        refine lv_iload_n hx hb dX11_go_17 rfl (lv_at hl 2 rfl) ?_
        refine q_icmp_ge (tgt := 34) hx hb dX11_go_18 (by decide) rfl rfl (fun c2 => ?_) (fun c2 => ?_)
        · refine lv_aload_n hx hb dX11_go_34 rfl (lv_at hl 1 rfl) ?_
          refine lv_aload_n hx hb dX11_go_35 rfl (lv_at hl 1 rfl) ?_
          refine fg_RX11_12 E hW rh0 dX11_go_36 (fun a3 m3 r3 => ?_)
          obtain rfl : C = a3 := ((fm_R hF rh0 rfl).trans mC).symm.trans m3
          refine fg_RX11_255 E hW rC dX11_go_39 (fun y4 m4 b4 => ?_)
          rw [m4] at hv
          refine t_callV (As := [.int y4]) (rest := []) E hW (c_X11_accept_x l G cI cJ cZ cD cR cT kp L f hW.2.2.2 _ h0 y4 rh0) rh0 (by decide) rfl wk_X11_accept tw_611 rfl ⟨Nat.le_of_ble_eq_true rfl, Nat.le_of_ble_eq_true rfl⟩ ⟨rfl, rfl⟩ hl.1 rfl (Nat.le_of_ble_eq_true rfl) dX11_go_42 ⟨Nat.le_of_ble_eq_true rfl, Nat.le_of_ble_eq_true rfl⟩ (fun v5 f5 H locs q hW => ?_)
          obtain ⟨⟨x5, rfl, p5⟩, g5⟩ := q
          have hw5 : WT kp L [C] f0 f5 := wt_fm hw g5 rfl
          have n5 : oI (f5 C) 6 = y4 := (fm_I g5 rC rfl).trans m4
          exact e_I E hW rfl ⟨⟨_, rfl, (by rw [mC, n5, mvn]; omega)⟩, FM.tr hF g5 (by decide +kernel), (by rw [mC]; exact hw5)⟩ dX11_go_45
        · exact absurd c2 (by omega)
      | succ n ih =>
        intro x f ls H locs h0x h1x hn hW hF hw hv hl
        refine lv_iload_n hx hb dX11_go_16 rfl (lv_at hl 0 rfl) ?_
        refine lv_iload_n hx hb dX11_go_17 rfl (lv_at hl 2 rfl) ?_
        refine q_icmp_ge (tgt := 34) hx hb dX11_go_18 (by decide) rfl rfl (fun c2 => ?_) (fun c2 => ?_)
        · refine lv_aload_n hx hb dX11_go_34 rfl (lv_at hl 1 rfl) ?_
          refine lv_aload_n hx hb dX11_go_35 rfl (lv_at hl 1 rfl) ?_
          refine fg_RX11_12 E hW rh0 dX11_go_36 (fun a3 m3 r3 => ?_)
          obtain rfl : C = a3 := ((fm_R hF rh0 rfl).trans mC).symm.trans m3
          refine fg_RX11_255 E hW rC dX11_go_39 (fun y4 m4 b4 => ?_)
          rw [m4] at hv
          refine t_callV (As := [.int y4]) (rest := []) E hW (c_X11_accept_x l G cI cJ cZ cD cR cT kp L f hW.2.2.2 _ h0 y4 rh0) rh0 (by decide) rfl wk_X11_accept tw_611 rfl ⟨Nat.le_of_ble_eq_true rfl, Nat.le_of_ble_eq_true rfl⟩ ⟨rfl, rfl⟩ hl.1 rfl (Nat.le_of_ble_eq_true rfl) dX11_go_42 ⟨Nat.le_of_ble_eq_true rfl, Nat.le_of_ble_eq_true rfl⟩ (fun v5 f5 H locs q hW => ?_)
          obtain ⟨⟨x5, rfl, p5⟩, g5⟩ := q
          have hw5 : WT kp L [C] f0 f5 := wt_fm hw g5 rfl
          have n5 : oI (f5 C) 6 = y4 := (fm_I g5 rC rfl).trans m4
          exact e_I E hW rfl ⟨⟨_, rfl, (by rw [mC, n5, mvn]; omega)⟩, FM.tr hF g5 (by decide +kernel), (by rw [mC]; exact hw5)⟩ dX11_go_45
        · refine lv_aload_n hx hb dX11_go_21 rfl (lv_at hl 1 rfl) ?_
          refine fg_RX11_12 E hW rh0 dX11_go_22 (fun a3 m3 r3 => ?_)
          obtain rfl : C = a3 := ((fm_R hF rh0 rfl).trans mC).symm.trans m3
          refine t_callV (As := []) (rest := []) E hW (c_X0_passWeek_w l G cI cJ cZ cD cR cT kp L f hW.2.2.2 _ C rC) rC (by decide) rfl wk_X0_passWeek tw_1114 rfl ⟨Nat.le_of_ble_eq_true rfl, Nat.le_of_ble_eq_true rfl⟩ ⟨rfl, rfl⟩ hl.1 rfl (Nat.le_of_ble_eq_true rfl) dX11_go_25 ⟨Nat.le_of_ble_eq_true rfl, Nat.le_of_ble_eq_true rfl⟩ (fun v6 f6 H locs q hW => ?_)
          obtain ⟨rfl, g6, h6, w6⟩ := q
          refine q_iinc hx hb dX11_go_28 hl (k := 0) rfl rfl rfl (by omega) (by decide) (fun y ls hy hl => ?_)
          refine lv_goto (tgt := 16) hx hb dX11_go_31 (by decide) ?_
          exact ih y f6 ls H locs (by omega) (by omega) (by omega) hW (FM.tr hF g6 (by decide +kernel)) (wt_call hw w6 (fun q h => h)) (by omega) (lv_sub hl [0, 1, 2] rfl)
    refine lv_iconst (v := 0) hx hb dX11_go_14 (by decide) ?_
    refine lv_istore_n (lv' := [(2, .int 0), (0, .ref h0), (1, .int u1)]) hx hb dX11_go_15 rfl hl (by decide) rfl (fun ls hl => ?_)
    have h00 : (0 : Int32).toInt = 0 := rfl
    exact loop 104 0 f1 ls H locs (by decide) (by omega) (by omega) hW hF w1 (by rw [n1]; omega) hl
  · refine lv_aload_n hx hb dX11_go_8 rfl (lv_at hl 0 rfl) ?_
    refine lv_iconst (v := (-1)) hx hb dX11_go_9 (by decide) ?_
    refine t_callV (As := [.int (-1)]) (rest := []) E hW (c_X11_refuse_x l G cI cJ cZ cD cR cT kp L f1 hW.2.2.2 _ h0 (-1) rh0 (by decide)) rh0 (by decide) rfl wk_X11_refuse tw_603 rfl ⟨Nat.le_of_ble_eq_true rfl, Nat.le_of_ble_eq_true rfl⟩ ⟨rfl, rfl⟩ hl.1 rfl (Nat.le_of_ble_eq_true rfl) dX11_go_10 ⟨Nat.le_of_ble_eq_true rfl, Nat.le_of_ble_eq_true rfl⟩ (fun v5 f5 H locs q hW => ?_)
    obtain ⟨⟨x5, rfl, p5⟩, g5⟩ := q
    have hk : (-1 : Int32).toInt = -1 := rfl
    have hw5 : WT kp L [C] f0 f5 := wt_fm w1 g5 rfl
    have n5 : oI (f5 C) 6 = vn := (fm_I g5 rC rfl).trans n1
    exact e_I E hW rfl ⟨⟨_, rfl, (by rw [mC, n5, mvn]; omega)⟩, FM.tr hF g5 (by decide +kernel), (by rw [mC]; exact hw5)⟩ dX11_go_13
