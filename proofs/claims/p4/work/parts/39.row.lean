

theorem W.more {p : Program} {l : Launch} {e : Env} {R : Room} {s : State} {m : MethodId} {args : Array Value} {below : List Frame} {meth : Method} {c : Code} {H : Heap} {locs : List Loc} {cells slots c2 s2 : Nat} {Q : State → Prop} {g : JFrame} (h1 : cells ≤ c2) (h2 : slots ≤ s2) (k : W p l e R s m args below meth c H locs c2 s2 Q g) : W p l e R s m args below meth c H locs cells slots Q g := fun T hT X => k T hT { X with same := X.same.mono h1 h2 }
def ms_X11_row : List (Nat × Nat) := [(8, 0), (8, 3), (11, 15), (461, 0), (521, 0), (582, 0)]
set_option maxHeartbeats 4000000 in
set_option maxRecDepth 100000 in
theorem row_tail (l : Launch) (G : va_G) (cI cJ cZ cD cR cT : ClassId) (kp : Nat → Nat) (L : List Nat) (f0 : Nat → va_E) (p : Program) (e : Env) (s : State) (m : MethodId) (below : List Frame) (meth : Method) (c : Code) (A : Nat → Prop) (Q : State → Prop) (h0 : Nat) (u1 : Int32) (u2 : Int32) (u3 : Int32) (x : Int32) (rh0 : RK kp L h0 11) (pu3 : (-6 : Int) ≤ u3.toInt ∧ u3.toInt ≤ 0) (S : State) (ls : Array Slot) (H : Heap) (locs : List Loc) (E : EV G cI cJ cZ cD cR cT A cX11_row (some .int) 5 yX11_row.cls p S m ([.ref h0, .int u1, .int u2] : List Value).toArray meth c) (hdr : DR s S) (hW : WS G cI cJ cZ cD cR cT A kp L f0 S H locs) (hl : lv_has ls 5 [(0, .ref h0), (1, .int u1), (2, .int u2), (3, .int u3)])
  (hend : ∀ (pc : Nat) (r : Int32) (f : Nat → va_E) (S : State) (ls : Array Slot) (H : Heap) (locs : List Loc), EV G cI cJ cZ cD cR cT A cX11_row (some .int) 5 yX11_row.cls p S m ([.ref h0, .int u1, .int u2] : List Value).toArray meth c → DR s S → FM kp L ms_X11_row f0 f → WS G cI cJ cZ cD cR cT A kp L f S H locs → decode cX11_row pc = .ok (.ireturn, 1) → W p l e ({ frames := 4, cells := 2, slots := 42, locals := 200 }) S m ([.ref h0, .int u1, .int u2] : List Value).toArray below meth c H locs 2 42 Q (F0 m pc ls [.int r])) : W p l e ({ frames := 4, cells := 2, slots := 42, locals := 200 }) S m ([.ref h0, .int u1, .int u2] : List Value).toArray below meth c H locs 2 42 Q (F0 m 21 ls [.int x]) := by
  obtain ⟨hx, hb, -, hml, hown, hts, -, -, -⟩ := id E
  have hTH := hW.2.2.2
  have hF : FM kp L ms_X11_row f0 f0 := FM.rf
  refine lv_istore (lv' := [(4, .int x), (0, .ref h0), (1, .int u1), (2, .int u2), (3, .int u3)]) hx hb dX11_row_21 hl (by decide) rfl (fun ls hl => ?_)
  refine lv_aload_n hx hb dX11_row_23 rfl (lv_at hl 1 rfl) ?_
  refine fg_RX11_30 E hW rh0 dX11_row_24 (fun a1 m2 r3 => ?_)
  refine lv_iconst (v := 0) hx hb dX11_row_27 (by decide) ?_
  refine fp_RX11_209 E hW r3 (by decide) dX11_row_28 (fun f4 H locs e5 n6 g7 hW => ?_)
  have hF := FM.tr hF g7 rfl
  refine lv_iload_n hx hb dX11_row_31 rfl (lv_at hl 4 rfl) ?_
  have J24 : ∀ (f20 : Nat → va_E) (y23 : Int32) (m21 : oI (f20 a1) 0 = 0) (m22 : oR (f20 h0) 6 = a1) (S : State) (E : EV G cI cJ cZ cD cR cT A cX11_row (some .int) 5 yX11_row.cls p S m ([.ref h0, .int u1, .int u2] : List Value).toArray meth c) (hdr : DR s S) (H : Heap) (locs : List Loc) (ls : Array Slot), WS G cI cJ cZ cD cR cT A kp L f20 S H locs → FM kp L ms_X11_row f0 f20 → lv_has ls 5 [(4, .int x), (0, .ref h0), (1, .int u1), (2, .int u2), (3, .int u3)] → W p l e ({ frames := 4, cells := 2, slots := 42, locals := 200 }) S m ([.ref h0, .int u1, .int u2] : List Value).toArray below meth c H locs 2 42 Q (F0 m 49 ls [.int y23]) := by
    intro f20 y23 m21 m22 S E hdr H locs ls hW hF hl
    obtain ⟨hx, hb, -, hml, hown, hts, -, -, -⟩ := id E
    exact hend _ _ _ _ _ _ _ E hdr hF hW dX11_row_49
  refine q_if_ne (tgt := 44) hx hb dX11_row_32 (by decide) rfl (fun c25 => ?_) (fun c25 => ?_)
  · refine lv_aload_n hx hb dX11_row_44 rfl (lv_at hl 1 rfl) ?_
    refine lv_iload_n hx hb dX11_row_45 rfl (lv_at hl 4 rfl) ?_
    refine t_callV (As := [.int u3]) (rest := []) E hW (c_X11_refuse l G cI cJ cZ cD cR cT kp L f4 hW.2.2.2 _ h0 u3 rh0 (by omega)) rh0 (by decide) rfl wk_X11_refuse tw_603 rfl ⟨Nat.le_of_ble_eq_true rfl, Nat.le_of_ble_eq_true rfl⟩ ⟨rfl, rfl⟩ hl.1 rfl (Nat.le_of_ble_eq_true rfl) dX11_row_46 ⟨Nat.le_of_ble_eq_true rfl, Nat.le_of_ble_eq_true rfl⟩ (fun v26 f27 H locs q28 hW => ?_)
    obtain ⟨⟨x30, rfl, p31⟩, g29⟩ := q28
    have hF := FM.tr hF g29 rfl
    exact J24 f27 x30 ((fm_I g29 r3 rfl).trans e5) ((fm_R g29 rh0 rfl).trans ((fm_R g7 rh0 rfl).trans m2)) S E hdr _ _ _ hW hF (lv_sub hl [0, 1, 2, 3, 4] rfl)
  · refine lv_aload_n hx hb dX11_row_35 rfl (lv_at hl 1 rfl) ?_
    refine lv_iload hx hb dX11_row_36 (lv_at hl 0 rfl) ?_
    refine t_callV (As := [.int x]) (rest := []) E hW (c_X11_accept l G cI cJ cZ cD cR cT kp L f4 hW.2.2.2 _ h0 x rh0) rh0 (by decide) rfl wk_X11_accept tw_611 rfl ⟨Nat.le_of_ble_eq_true rfl, Nat.le_of_ble_eq_true rfl⟩ ⟨rfl, rfl⟩ hl.1 rfl (Nat.le_of_ble_eq_true rfl) dX11_row_38 ⟨Nat.le_of_ble_eq_true rfl, Nat.le_of_ble_eq_true rfl⟩ (fun v32 f33 H locs q34 hW => ?_)
    obtain ⟨⟨x36, rfl, p37⟩, g35⟩ := q34
    clear p37
    have hF := FM.tr hF g35 rfl
    refine lv_goto (tgt := 49) hx hb dX11_row_41 (by decide) ?_
    exact J24 f33 x36 ((fm_I g35 r3 rfl).trans e5) ((fm_R g35 rh0 rfl).trans ((fm_R g7 rh0 rfl).trans m2)) S E hdr _ _ _ hW hF (lv_sub hl [0, 1, 2, 3, 4] rfl)
