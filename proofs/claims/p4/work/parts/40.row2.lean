/-! calls of methods that make objects, and the row of crops -/
section CVXD
variable {p : Program} {l : Launch} {e : Env} {R : Room} {s S : State} {m : MethodId} {args : Array Value} {below : List Frame} {meth : Method} {c : Code} {H : Heap} {locs : List Loc} {cells slots : Nat} {Q : State → Prop}
variable {cc : ByteArray} {pc : Nat} {ls : Array Slot} {rest st0 : List Value} {G : va_G} {A : Nat → Prop} {cI cJ cZ cD cR cT : ClassId} {ret rety : Option FieldType} {nL : Nat} {own : String} {kp kp1 : Nat → Nat} {L L1 : List Nat} {f : Nat → va_E} {a K ci k index : Nat} {C : String} {T : u_T} {N : Nat} {X : va_W} {σ : SE}
variable {mc ms : Nat} {px : Option Value → (Nat → Nat) → List Nat → (Nat → va_E) → Prop} {y : MethodName} {bytes : ByteArray} {maxL n : Nat} {rm : Room} {As : List Value}
theorem t_callVXD (E : EV G cI cJ cZ cD cR cT A cc ret nL own p S m args meth c) (hdr : DR s S) (hW : WS G cI cJ cZ cD cR cT A kp L f S H locs) {b : Nat} (hM : MetD lw_cs l y (Cond.code y bytes maxL rety :: wTab) rm (va_Pc (.ref b :: As) (PreW G (tys6 cI cJ cZ cD cR cT) (va_pl L f) H.size)) (QX px G cI cJ cZ cD cR cT (va_A (va_pl L f) H.size) kp L) mc ms (va_A (va_pl L f) H.size))
    (hr : RK kp L b ci) (hci : ci < 100) (hcl : vwCl[ci]? = some (C, T, N)) (wk : Cond.code y bytes maxL rety ∈ wTab ∧ Cond.initialized y.cls ∈ wTab ∧ Cond.instanceMethod y ∈ wTab ∧ Cond.selects C y y ∈ wTab ∧ (y.cls ≠ "java/lang/invoke/MethodHandle" ∧ y.cls ≠ "java/lang/invoke/VarHandle" ∧ (parseMethodDescriptor y.desc).map (fun d => d.parameters.length) = some n)) (hl : Cond.methodLink own index y ∈ wTab)
    (hn : As.length = n) (hR : rm.frames + 1 ≤ R.frames ∧ 8 + (maxL + 11) + rm.locals ≤ R.locals) (hrm : rm.cells = mc ∧ rm.slots = ms)
    (hsize : ls.size = nL) (hst0 : st0 = As.reverse ++ .ref b :: rest) (hw : (rest.map fun v => v.category).sum ≤ 8) (hdg : decode cc pc = .ok (.invokevirtual index, 3)) (hf : cells + mc ≤ R.cells ∧ slots + ms ≤ R.slots)
    (kk : ∀ (v : Option Value) (kp1 : Nat → Nat) (L1 : List Nat) (f1 : Nat → va_E) (S : State) (H1 : Heap) (locs1 : List Loc), EXT kp L kp1 L1 → px v kp1 L1 f1 → EV G cI cJ cZ cD cR cT A cc ret nL own p S m args meth c → DR s S → WS G cI cJ cZ cD cR cT A kp1 L1 f1 S H1 locs1 → W p l e R S m args below meth c H1 locs1 (cells + mc) (slots + ms) Q (F0 m (pc + 3) ls (v.toList ++ rest))) : W p l e R S m args below meth c H locs cells slots Q (F0 m pc ls st0) := by
  obtain ⟨hx, hb, -, hml, hown, hts, -, hKK, hA⟩ := id E
  obtain ⟨fs, e1, -, -⟩ := th_obj hW.2.2.2 hr hci
  obtain ⟨q, hq⟩ := ws_at hW hr.1
  rw [e1] at hq
  have hpv : PreV S H C b (va_Pc (.ref b :: As) (PreW G (tys6 cI cJ cZ cD cR cT) (va_pl L f) H.size)) As := ⟨preW_blind, va_recv hKK.1 hW.1 hcl hq, (pre_S (As := .ref b :: As) hKK hW).2⟩
  exact callXD E hdr hW (va_runV_D ⟨hx, hb, hml, hown, hts⟩ hM ⟨callB_of As.length hts (good_y tw_good wk.1) rfl hrm.1 hrm.2 (hts _ wk.2.1) (hts _ hl) (by rw [hn]; exact wk.2.2.2.2) hR, hts _ wk.2.2.1, hts _ wk.2.2.2.1⟩ hpv rfl rfl hsize hst0 (lv_room hw) hdg hf) kk
theorem t_callVXS (E : EV G cI cJ cZ cD cR cT A cc ret nL own p s m args meth c) (hSX : SX σ A s s.heap) (hW : WS G cI cJ cZ cD cR cT A kp L f s H locs) {b : Nat} (hM : Met l y (Cond.code y bytes maxL rety :: wTab) rm (va_Pc (.ref b :: As) (PreWS σ G (tys6 cI cJ cZ cD cR cT) (va_pl L f) H.size)) (QX px G cI cJ cZ cD cR cT (va_A (va_pl L f) H.size) kp L) mc ms (va_A (va_pl L f) H.size))
    (hr : RK kp L b ci) (hci : ci < 100) (hcl : vwCl[ci]? = some (C, T, N)) (wk : Cond.code y bytes maxL rety ∈ wTab ∧ Cond.initialized y.cls ∈ wTab ∧ Cond.instanceMethod y ∈ wTab ∧ Cond.selects C y y ∈ wTab ∧ (y.cls ≠ "java/lang/invoke/MethodHandle" ∧ y.cls ≠ "java/lang/invoke/VarHandle" ∧ (parseMethodDescriptor y.desc).map (fun d => d.parameters.length) = some n)) (hl : Cond.methodLink own index y ∈ wTab)
    (hn : As.length = n) (hR : rm.frames + 1 ≤ R.frames ∧ 8 + (maxL + 11) + rm.locals ≤ R.locals) (hrm : rm.cells = mc ∧ rm.slots = ms)
    (hsize : ls.size = nL) (hst0 : st0 = As.reverse ++ .ref b :: rest) (hw : (rest.map fun v => v.category).sum ≤ 8) (hdg : decode cc pc = .ok (.invokevirtual index, 3)) (hf : cells + mc ≤ R.cells ∧ slots + ms ≤ R.slots)
    (kk : ∀ (v : Option Value) (kp1 : Nat → Nat) (L1 : List Nat) (f1 : Nat → va_E) (H1 : Heap) (locs1 : List Loc), EXT kp L kp1 L1 → px v kp1 L1 f1 → WS G cI cJ cZ cD cR cT A kp1 L1 f1 s H1 locs1 → W p l e R s m args below meth c H1 locs1 (cells + mc) (slots + ms) Q (F0 m (pc + 3) ls (v.toList ++ rest))) : W p l e R s m args below meth c H locs cells slots Q (F0 m pc ls st0) := by
  obtain ⟨hx, hb, -, hml, hown, hts, -, hKK, hA⟩ := id E
  obtain ⟨fs, e1, -, -⟩ := th_obj hW.2.2.2 hr hci
  obtain ⟨q, hq⟩ := ws_at hW hr.1
  rw [e1] at hq
  have hpv : PreV s H C b (va_Pc (.ref b :: As) (PreWS σ G (tys6 cI cJ cZ cD cR cT) (va_pl L f) H.size)) As := ⟨preWS_blind, va_recv hKK.1 hW.1 hcl hq, (pre_SS (As := .ref b :: As) E hSX hW).2⟩
  exact callX hA hW (va_runV ⟨hx, hb, hml, hown, hts⟩ hM ⟨callB_of As.length hts (good_y tw_good wk.1) rfl hrm.1 hrm.2 (hts _ wk.2.1) (hts _ hl) (by rw [hn]; exact wk.2.2.2.2) hR, hts _ wk.2.2.1, hts _ wk.2.2.2.1⟩ hpv rfl rfl hsize hst0 (lv_room hw) hdg hf) kk
end CVXD
theorem dX11_row_17 : decode cX11_row 17 = .ok (.goto 4, 3) := by decide +kernel
set_option maxHeartbeats 4000000 in
set_option maxRecDepth 100000 in
theorem c_X11_row (l : Launch) (G : va_G) (cI cJ cZ cD cR cT : ClassId) (kp : Nat → Nat) (L : List Nat) (f0 : Nat → va_E) (hTH : TH cI cJ cZ cD cR cT kp L f0) (sz : Nat) (h0 : Nat) (u1 u2 : Int32) (rh0 : RK kp L h0 11) : MetD lw_cs l yX11_row (Cond.code yX11_row cX11_row 5 (some .int) :: wTab) ({ frames := 4, cells := 2, slots := 42, locals := 200 }) (va_Pc [.ref h0, .int u1, .int u2] (PreW G (tys6 cI cJ cZ cD cR cT) (va_pl L f0) sz)) (QX (fun v _ _ f => (∃ r : Int32, v = some (.int r)) ∧ FM kp L (ms_X11_whyNoRow_x ++ ms_X8_readNumbers ++ ms_X11_keepRow ++ ms_X11_row) f0 f) G cI cJ cZ cD cR cT (va_A (va_pl L f0) sz) kp L) 2 42 (va_A (va_pl L f0) sz) := by
  refine metTXD (by decide) (Nat.le_of_ble_eq_true rfl) hTH ?_
  intro p e s S m below meth c A ls E hdr hW hl
  obtain ⟨hx, hb, -, hml, hown, hts, -, -, -⟩ := id E
  have hl : lv_has ls 5 [(0, .ref h0), (1, .int u1), (2, .int u2)] := hl
  refine lv_aload_n hx hb dX11_row_0 rfl (lv_at hl 0 rfl) ?_
  refine lv_iload_n hx hb dX11_row_1 rfl (lv_at hl 1 rfl) ?_
  refine lv_iload_n hx hb dX11_row_2 rfl (lv_at hl 2 rfl) ?_
  refine t_callV (As := [.int u1, .int u2]) (rest := []) E hW (c_X11_whyNoRow_x l G cI cJ cZ cD cR cT kp L f0 hW.2.2.2 _ h0 u1 u2 rh0) rh0 (by decide) rfl wk_X11_whyNoRow tw_787 rfl ⟨Nat.le_of_ble_eq_true rfl, Nat.le_of_ble_eq_true rfl⟩ ⟨rfl, rfl⟩ hl.1 rfl (Nat.le_of_ble_eq_true rfl) dX11_row_3 ⟨Nat.le_of_ble_eq_true rfl, Nat.le_of_ble_eq_true rfl⟩ (fun v f1 H locs q hW => ?_)
  obtain ⟨⟨x3, rfl, p3⟩, g1⟩ := q
  refine lv_istore_n (lv' := [(3, .int x3), (0, .ref h0), (1, .int u1), (2, .int u2)]) hx hb dX11_row_6 rfl hl (by decide) rfl (fun ls hl => ?_)
  refine lv_iload_n hx hb dX11_row_7 rfl (lv_at hl 0 rfl) ?_
  refine q_if_ne (tgt := 20) hx hb dX11_row_8 (by decide) rfl (fun c1 => ?_) (fun c1 => ?_)
  · refine lv_iconst (v := 0) hx hb dX11_row_20 (by decide) ?_
    refine W.widen (k := 2) (n := 42) (Nat.le_of_ble_eq_true rfl) (Nat.le_of_ble_eq_true rfl) ?_
    exact row_tail l G cI cJ cZ cD cR cT kp L f1 p e s m below meth c A _ h0 u1 u2 x3 0 rh0 ⟨by omega, by omega⟩ S ls H locs E hdr hW (lv_sub hl [1, 2, 3, 0] rfl) (fun pc r f S ls H locs E hdr hF hW hd => eXD_I E hdr ext_rf hW rfl ⟨⟨r, rfl⟩, FM.tr (FM.tr FM.rf g1 (by decide +kernel)) hF (by decide +kernel)⟩ hd)
  · refine lv_aload_n hx hb dX11_row_11 rfl (lv_at hl 1 rfl) ?_
    refine lv_iload_n hx hb dX11_row_12 rfl (lv_at hl 2 rfl) ?_
    refine lv_iload_n hx hb dX11_row_13 rfl (lv_at hl 3 rfl) ?_
    have p4 : (0 ≤ u1.toInt ∧ u1.toInt ≤ 399) ∧ 0 ≤ u2.toInt ∧ u2.toInt ≤ 39 := by omega
    refine t_callVXD (As := [.int u1, .int u2]) (rest := []) E hdr hW (c_X11_keepRow l G cI cJ cZ cD cR cT kp L f1 hW.2.2.2 _ h0 u1 u2 rh0 p4.1 p4.2) rh0 (by decide) rfl wk_X11_keepRow tw_795 rfl ⟨Nat.le_of_ble_eq_true rfl, Nat.le_of_ble_eq_true rfl⟩ ⟨rfl, rfl⟩ hl.1 rfl (Nat.le_of_ble_eq_true rfl) dX11_row_14 ⟨Nat.le_of_ble_eq_true rfl, Nat.le_of_ble_eq_true rfl⟩ (fun v kp1 L1 f2 S H locs hE q E hdr hW => ?_)
    obtain ⟨⟨x, rfl⟩, g2⟩ := q
    obtain ⟨hx, hb, -, hml, hown, hts, -, -, -⟩ := id E
    refine lv_goto (tgt := 21) hx hb dX11_row_17 (by decide) ?_
    exact row_tail l G cI cJ cZ cD cR cT kp1 L1 f2 p e s m below meth c A _ h0 u1 u2 x3 x (hE _ _ rh0) ⟨by omega, by omega⟩ S ls H locs E hdr hW (lv_sub hl [1, 2, 3, 0] rfl) (fun pc r f S ls H locs E hdr hF hW hd => eXD_I E hdr hE hW rfl ⟨⟨r, rfl⟩, FM.tr (FM.tr (FM.tr FM.rf g1 (by decide +kernel)) g2 (by decide +kernel)) (fm_res hE hF) (by decide +kernel)⟩ hd)
