/-! the row of crops is kept: its new object, then the rest -/
theorem dX11_keepRow_0 : decode cX11_keepRow 0 = .ok (.aload_n 0, 1) := by decide +kernel
theorem dX11_keepRow_1 : decode cX11_keepRow 1 = .ok (.getfield 12, 3) := by decide +kernel
theorem dX11_keepRow_4 : decode cX11_keepRow 4 = .ok (.getfield 114, 3) := by decide +kernel
theorem dX11_keepRow_7 : decode cX11_keepRow 7 = .ok (.astore_n 3, 1) := by decide +kernel
theorem dX11_keepRow_8 : decode cX11_keepRow 8 = .ok (.new 366, 3) := by decide +kernel
theorem dX11_keepRow_11 : decode cX11_keepRow 11 = .ok (.dup, 1) := by decide +kernel
theorem dX11_keepRow_12 : decode cX11_keepRow 12 = .ok (.iload_n 2, 1) := by decide +kernel
theorem dX11_keepRow_13 : decode cX11_keepRow 13 = .ok (.aload_n 0, 1) := by decide +kernel
theorem dX11_keepRow_14 : decode cX11_keepRow 14 = .ok (.getfield 30, 3) := by decide +kernel
theorem dX11_keepRow_17 : decode cX11_keepRow 17 = .ok (.invokevirtual 368, 3) := by decide +kernel
theorem dX11_keepRow_20 : decode cX11_keepRow 20 = .ok (.invokespecial 371, 3) := by decide +kernel
theorem dX11_keepRow_23 : decode cX11_keepRow 23 = .ok (.astore 4, 2) := by decide +kernel
theorem dX11_keepRow_109 : decode cX11_keepRow 109 = .ok (.ireturn, 1) := by decide +kernel
theorem metTXD {l : Launch} {y : MethodName} {rm : Room} {As : List Value} {G : va_G} {cI cJ cZ cD cR cT : ClassId} {kp : Nat → Nat} {L : List Nat} {f : Nat → va_E} {sz : Nat} {po : Option Value → (Nat → Nat) → List Nat → (Nat → va_E) → Prop} {mc ms : Nat} {cc : ByteArray} {maxL : Nat} {ret : Option FieldType}
    (hy : plainName y.cls = true) (hL : (lg_sl As).length ≤ maxL) (hTH : TH cI cJ cZ cD cR cT kp L f)
    (body : ∀ (p : Program) (e : Env) (s S : State) (m : MethodId) (below : List Frame) (meth : Method) (c : Code) (A : Nat → Prop) (ls : Array Slot), EV G cI cJ cZ cD cR cT A cc ret maxL y.cls p S m As.toArray meth c → DR s S → WS G cI cJ cZ cD cR cT A kp L f S s.heap [] → lv_has ls maxL (lv_args 0 As) → W p l e rm S m As.toArray below meth c s.heap [] 0 0 (MQD lw_cs below (QX po G cI cJ cZ cD cR cT A kp L) As.toArray s mc ms A) (F0 m 0 ls [])) :
    MetD lw_cs l y (Cond.code y cc maxL ret :: wTab) rm (va_Pc As (PreW G (tys6 cI cJ cZ cD cR cT) (va_pl L f) sz)) (QX po G cI cJ cZ cD cR cT (va_A (va_pl L f) sz) kp L) mc ms (va_A (va_pl L f) sz) := by
  refine MetD.ofW (cc := cc) (maxL := maxL) (ret := ret) hy rfl ?_
  intro p e s m args below meth c s₁ B hml hv hd0
  obtain ⟨rfl, hsz, hP, hK, hD0⟩ := hv
  have hts := atoms_spec (ws := Cond.code y cc maxL ret :: wTab) B.pre
  subst hsz
  have hl := lv_entry As (n := maxL) hL
  rw [lg_entry_eq]
  have E0 : EV G cI cJ cZ cD cR cT (va_A (va_pl L f) s.heap.size) cc ret maxL y.cls p (s.setDrawn s.drawn) m As.toArray meth c := ⟨B.exec, B.bytes, B.returns, hml, findClass_of_methodNamed B.named, fun w hw => (Cond.before_setDrawn _ _ _ _).trans (hts w (List.mem_cons_of_mem _ hw)), B.notSynchronized, hK, fun q h => Or.inr h⟩
  exact body p e s (s.setDrawn s.drawn) m below meth c (va_A (va_pl L f) s.heap.size) _ E0 ⟨_, hd0, rfl⟩ ⟨hP, hD0.self, va_S.rf, hTH⟩ hl
set_option maxHeartbeats 4000000 in
set_option maxRecDepth 100000 in
theorem c_X11_keepRow (l : Launch) (G : va_G) (cI cJ cZ cD cR cT : ClassId) (kp : Nat → Nat) (L : List Nat) (f0 : Nat → va_E) (hTH : TH cI cJ cZ cD cR cT kp L f0) (sz : Nat) (h0 : Nat) (u1 u2 : Int32) (rh0 : RK kp L h0 11) (pu1 : 0 ≤ u1.toInt ∧ u1.toInt ≤ 399) (pu2 : 0 ≤ u2.toInt ∧ u2.toInt ≤ 39) : MetD lw_cs l yX11_keepRow (Cond.code yX11_keepRow cX11_keepRow 6 (some .int) :: wTab) ({ frames := 3, cells := 2, slots := 42, locals := 160 }) (va_Pc [.ref h0, .int u1, .int u2] (PreW G (tys6 cI cJ cZ cD cR cT) (va_pl L f0) sz)) (QX (fun v _ _ f => (∃ r : Int32, v = some (.int r)) ∧ FM kp L (ms_X8_readNumbers ++ ms_X11_keepRow) f0 f) G cI cJ cZ cD cR cT (va_A (va_pl L f0) sz) kp L) 2 42 (va_A (va_pl L f0) sz) := by
  refine metTXD (by decide) (Nat.le_of_ble_eq_true rfl) hTH ?_
  intro p e s S m below meth c A ls E hdr hW hl
  obtain ⟨hx, hb, -, hml, hown, hts, -, -, -⟩ := id E
  have hl : lv_has ls 6 [(0, .ref h0), (1, .int u1), (2, .int u2)] := hl
  refine lv_aload_n hx hb dX11_keepRow_0 rfl (lv_at hl 0 rfl) ?_
  refine fg_RX11_12 E hW rh0 dX11_keepRow_1 (fun a1 m1 r1 => ?_)
  refine fg_RX11_114 E hW r1 dX11_keepRow_4 (fun a3 m3 r3 => ?_)
  refine lv_astore_n (lv' := [(3, .ref a3), (0, .ref h0), (1, .int u1), (2, .int u2)]) hx hb dX11_keepRow_7 rfl hl (by decide) rfl (fun ls hl => ?_)
  refine x_new6 E hW (Nat.le_of_ble_eq_true rfl) (Nat.le_of_ble_eq_true rfl) dX11_keepRow_8 (fun aN H haN hX => ?_)
  refine lv_dup hx hb dX11_keepRow_11 rfl ?_
  refine lv_iload_n hx hb dX11_keepRow_12 rfl (lv_at hl 3 rfl) ?_
  refine lv_aload_n hx hb dX11_keepRow_13 rfl (lv_at hl 1 rfl) ?_
  have hW := wx_ws hX
  refine fg_RX11_30 E hW rh0 dX11_keepRow_14 (fun a8 m8 r8 => ?_)
  refine t_callVDX (As := []) (rest := [.int u2, .ref aN, .ref aN]) E hdr hX (c_X8_readNumbers l G cI cJ cZ cD cR cT kp L f0 hW.2.2.2 _ a8 r8) r8 (by decide) rfl wk_X8_readNumbers tw_801 rfl ⟨Nat.le_of_ble_eq_true rfl, Nat.le_of_ble_eq_true rfl⟩ ⟨rfl, rfl⟩ hl.1 rfl (Nat.le_of_ble_eq_true rfl) dX11_keepRow_17 ⟨Nat.le_of_ble_eq_true rfl, Nat.le_of_ble_eq_true rfl⟩ (fun v f1 S H locs q E hdr hX => ?_)
  obtain ⟨⟨x9, rfl, p9⟩, g9⟩ := q
  obtain ⟨hx, hb, -, hml, hown, hts, -, -, -⟩ := id E
  refine x_init6 (a := aN) (u1 := u2) (u2 := x9) (rest := [.ref aN]) E hX pu2 p9.2 ⟨Nat.le_of_ble_eq_true rfl, Nat.le_of_ble_eq_true rfl⟩ hl.1 (Nat.le_of_ble_eq_true rfl) dX11_keepRow_20 ⟨Nat.le_of_ble_eq_true rfl, Nat.le_of_ble_eq_true rfl⟩ (fun bN H locs hE hFn hW => ?_)
  refine lv_astore (lv' := [(4, .ref aN), (3, .ref a3), (0, .ref h0), (1, .int u1), (2, .int u2)]) hx hb dX11_keepRow_23 hl (by decide) rfl (fun ls hl => ?_)
  refine keepRow_tail l G cI cJ cZ cD cR cT _ _ _ p e s m below meth c A _ h0 u1 u2 a3 aN (hE _ _ rh0) (hE _ _ r3) rk_new pu1 pu2 S ls H locs E hdr hW (lv_sub hl [2, 3, 4, 1, 0] rfl) (fun r f S ls H locs E hdr hF hW => ?_)
  exact eXD_I E hdr hE hW rfl ⟨⟨r, rfl⟩, FM.tr (FM.tr (FM.tr FM.rf g9 (by decide +kernel)) hFn rfl) (fm_res hE hF) (by decide +kernel)⟩ dX11_keepRow_109
