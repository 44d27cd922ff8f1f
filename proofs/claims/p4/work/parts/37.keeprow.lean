
theorem dX11_keepRow_25 : decode cX11_keepRow 25 = .ok (.iconst 0, 1) := by decide +kernel
theorem dX11_keepRow_26 : decode cX11_keepRow 26 = .ok (.istore 5, 2) := by decide +kernel
theorem dX11_keepRow_28 : decode cX11_keepRow 28 = .ok (.iload 5, 2) := by decide +kernel
theorem dX11_keepRow_30 : decode cX11_keepRow 30 = .ok (.aload 4, 2) := by decide +kernel
theorem dX11_keepRow_32 : decode cX11_keepRow 32 = .ok (.getfield 373, 3) := by decide +kernel
theorem dX11_keepRow_35 : decode cX11_keepRow 35 = .ok (.arraylength, 1) := by decide +kernel
theorem dX11_keepRow_36 : decode cX11_keepRow 36 = .ok (.if_icmp .ge 53, 3) := by decide +kernel
theorem dX11_keepRow_89 : decode cX11_keepRow 89 = .ok (.aload_n 0, 1) := by decide +kernel
theorem dX11_keepRow_90 : decode cX11_keepRow 90 = .ok (.getfield 12, 3) := by decide +kernel
theorem dX11_keepRow_93 : decode cX11_keepRow 93 = .ok (.getfield 194, 3) := by decide +kernel
theorem dX11_keepRow_96 : decode cX11_keepRow 96 = .ok (.getfield 359, 3) := by decide +kernel
theorem dX11_keepRow_99 : decode cX11_keepRow 99 = .ok (.iload_n 1, 1) := by decide +kernel
theorem dX11_keepRow_100 : decode cX11_keepRow 100 = .ok (.aload 4, 2) := by decide +kernel
theorem dX11_keepRow_102 : decode cX11_keepRow 102 = .ok (.aastore, 1) := by decide +kernel
theorem dX11_keepRow_103 : decode cX11_keepRow 103 = .ok (.aload 4, 2) := by decide +kernel
theorem dX11_keepRow_105 : decode cX11_keepRow 105 = .ok (.getfield 373, 3) := by decide +kernel
theorem dX11_keepRow_108 : decode cX11_keepRow 108 = .ok (.arraylength, 1) := by decide +kernel
theorem dX11_keepRow_39 : decode cX11_keepRow 39 = .ok (.iload_n 2, 1) := by decide +kernel
theorem dX11_keepRow_40 : decode cX11_keepRow 40 = .ok (.iload 5, 2) := by decide +kernel
theorem dX11_keepRow_42 : decode cX11_keepRow 42 = .ok (.iadd, 1) := by decide +kernel
theorem dX11_keepRow_43 : decode cX11_keepRow 43 = .ok (.aload_n 3, 1) := by decide +kernel
theorem dX11_keepRow_44 : decode cX11_keepRow 44 = .ok (.getfield 130, 3) := by decide +kernel
theorem dX11_keepRow_47 : decode cX11_keepRow 47 = .ok (.if_icmp .ge 42, 3) := by decide +kernel
theorem dX11_keepRow_50 : decode cX11_keepRow 50 = .ok (.aload 4, 2) := by decide +kernel
theorem dX11_keepRow_52 : decode cX11_keepRow 52 = .ok (.getfield 373, 3) := by decide +kernel
theorem dX11_keepRow_55 : decode cX11_keepRow 55 = .ok (.iload 5, 2) := by decide +kernel
theorem dX11_keepRow_57 : decode cX11_keepRow 57 = .ok (.aload_n 0, 1) := by decide +kernel
theorem dX11_keepRow_58 : decode cX11_keepRow 58 = .ok (.getfield 30, 3) := by decide +kernel
theorem dX11_keepRow_61 : decode cX11_keepRow 61 = .ok (.iload 5, 2) := by decide +kernel
theorem dX11_keepRow_63 : decode cX11_keepRow 63 = .ok (.invokevirtual 374, 3) := by decide +kernel
theorem dX11_keepRow_66 : decode cX11_keepRow 66 = .ok (.aload_n 3, 1) := by decide +kernel
theorem dX11_keepRow_67 : decode cX11_keepRow 67 = .ok (.getfield 378, 3) := by decide +kernel
theorem dX11_keepRow_70 : decode cX11_keepRow 70 = .ok (.iload_n 2, 1) := by decide +kernel
theorem dX11_keepRow_71 : decode cX11_keepRow 71 = .ok (.iload 5, 2) := by decide +kernel
theorem dX11_keepRow_73 : decode cX11_keepRow 73 = .ok (.iadd, 1) := by decide +kernel
theorem dX11_keepRow_74 : decode cX11_keepRow 74 = .ok (.iaload, 1) := by decide +kernel
theorem dX11_keepRow_75 : decode cX11_keepRow 75 = .ok (.i2d, 1) := by decide +kernel
theorem dX11_keepRow_76 : decode cX11_keepRow 76 = .ok (.dmul, 1) := by decide +kernel
theorem dX11_keepRow_77 : decode cX11_keepRow 77 = .ok (.ldc2_w 381, 3) := by decide +kernel
theorem dX11_keepRow_80 : decode cX11_keepRow 80 = .ok (.ddiv, 1) := by decide +kernel
theorem dX11_keepRow_81 : decode cX11_keepRow 81 = .ok (.d2i, 1) := by decide +kernel
theorem dX11_keepRow_82 : decode cX11_keepRow 82 = .ok (.iastore, 1) := by decide +kernel
theorem dX11_keepRow_83 : decode cX11_keepRow 83 = .ok (.iinc 5 1, 3) := by decide +kernel
theorem dX11_keepRow_86 : decode cX11_keepRow 86 = .ok (.goto (-58), 3) := by decide +kernel
def ms_X11_keepRow : List (Nat × Nat) := [(8, 3), (461, 0), (521, 0), (582, 0)]
set_option maxHeartbeats 4000000 in
set_option maxRecDepth 100000 in
theorem keepRow_tail (l : Launch) (G : va_G) (cI cJ cZ cD cR cT : ClassId) (kp : Nat → Nat) (L : List Nat) (f0 : Nat → va_E) (p : Program) (e : Env) (s : State) (m : MethodId) (below : List Frame) (meth : Method) (c : Code) (A : Nat → Prop) (Q : State → Prop) (h0 : Nat) (u1 u2 : Int32) (a3 a4 : Nat) (rh0 : RK kp L h0 11) (r3 : RK kp L a3 1) (r4 : RK kp L a4 6) (pu1 : 0 ≤ u1.toInt ∧ u1.toInt ≤ 399) (pu2 : 0 ≤ u2.toInt ∧ u2.toInt ≤ 39) (S : State) (ls : Array Slot) (H : Heap) (locs : List Loc) (E : EV G cI cJ cZ cD cR cT A cX11_keepRow (some .int) 6 yX11_keepRow.cls p S m ([.ref h0, .int u1, .int u2] : List Value).toArray meth c) (hdr : DR s S) (hW : WS G cI cJ cZ cD cR cT A kp L f0 S H locs) (hl : lv_has ls 6 [(0, .ref h0), (1, .int u1), (2, .int u2), (3, .ref a3), (4, .ref a4)])
  (hend : ∀ (r : Int32) (f : Nat → va_E) (S : State) (ls : Array Slot) (H : Heap) (locs : List Loc), EV G cI cJ cZ cD cR cT A cX11_keepRow (some .int) 6 yX11_keepRow.cls p S m ([.ref h0, .int u1, .int u2] : List Value).toArray meth c → DR s S → FM kp L ms_X11_keepRow f0 f → WS G cI cJ cZ cD cR cT A kp L f S H locs → W p l e ({ frames := 3, cells := 2, slots := 42, locals := 160 }) S m ([.ref h0, .int u1, .int u2] : List Value).toArray below meth c H locs 2 42 Q (F0 m 109 ls [.int r])) : W p l e ({ frames := 3, cells := 2, slots := 42, locals := 160 }) S m ([.ref h0, .int u1, .int u2] : List Value).toArray below meth c H locs 2 42 Q (F0 m 25 ls []) := by
  obtain ⟨hx, hb, -, hml, hown, hts, -, -, -⟩ := id E
  have hTH := hW.2.2.2
  have hF : FM kp L ms_X11_keepRow f0 f0 := FM.rf
  refine lv_iconst (v := 0) hx hb dX11_keepRow_25 (by decide) ?_
  refine lv_istore (lv' := [(5, .int 0), (0, .ref h0), (1, .int u1), (2, .int u2), (3, .ref a3), (4, .ref a4)]) hx hb dX11_keepRow_26 hl (by decide) rfl (fun ls hl => ?_)
  have L2164 : ∀ (n : Nat), ∀ (f2161 : Nat → va_E) (y2162 : Int32) (b2163 : (0 : Int) ≤ y2162.toInt ∧ y2162.toInt ≤ 400) (hm : (401 : Int) - y2162.toInt ≤ n) (S : State) (E : EV G cI cJ cZ cD cR cT A cX11_keepRow (some .int) 6 yX11_keepRow.cls p S m ([.ref h0, .int u1, .int u2] : List Value).toArray meth c) (hdr : DR s S) (H : Heap) (locs : List Loc) (ls : Array Slot), WS G cI cJ cZ cD cR cT A kp L f2161 S H locs → FM kp L ms_X11_keepRow f0 f2161 → lv_has ls 6 [(5, .int y2162), (0, .ref h0), (1, .int u1), (2, .int u2), (3, .ref a3), (4, .ref a4)] → W p l e ({ frames := 3, cells := 2, slots := 42, locals := 160 }) S m ([.ref h0, .int u1, .int u2] : List Value).toArray below meth c H locs 2 42 Q (F0 m 28 ls []) := by
    intro n
    induction n with
    | zero =>
      intro f2161 y2162 b2163 hm S E hdr H locs ls hW hF hl
      have hz := i32_b y2162
      exfalso; omega
    | succ n ih =>
      intro f2161 y2162 b2163 hm S E hdr H locs ls hW hF hl
      obtain ⟨hx, hb, -, hml, hown, hts, -, -, -⟩ := id E
      have ih28 := ih
      refine lv_iload hx hb dX11_keepRow_28 (lv_at hl 0 rfl) ?_
      refine lv_aload hx hb dX11_keepRow_30 (lv_at hl 5 rfl) ?_
      refine fg_RX11_373 E hW r4 dX11_keepRow_32 (fun a2165 m2166 r2167 => ?_)
      have h2170 : aN (f2161 a2165) ≤ 400 := (th_len hW r2167 (by decide)).1 rfl
      refine r_alen E hW r2167 (by decide) dX11_keepRow_35 (fun n2168 h2169 => ?_) (by omega)
      have J2206 : ∀ (S : State) (E : EV G cI cJ cZ cD cR cT A cX11_keepRow (some .int) 6 yX11_keepRow.cls p S m ([.ref h0, .int u1, .int u2] : List Value).toArray meth c) (hdr : DR s S) (H : Heap) (locs : List Loc) (ls : Array Slot), WS G cI cJ cZ cD cR cT A kp L f2161 S H locs → FM kp L ms_X11_keepRow f0 f2161 → lv_has ls 6 [(5, .int y2162), (0, .ref h0), (1, .int u1), (2, .int u2), (3, .ref a3), (4, .ref a4)] → W p l e ({ frames := 3, cells := 2, slots := 42, locals := 160 }) S m ([.ref h0, .int u1, .int u2] : List Value).toArray below meth c H locs 2 42 Q (F0 m 89 ls []) := by
        intro  S E hdr H locs ls hW hF hl
        obtain ⟨hx, hb, -, hml, hown, hts, -, -, -⟩ := id E
        clear h2169 h2170
        refine lv_aload_n hx hb dX11_keepRow_89 rfl (lv_at hl 1 rfl) ?_
        refine fg_RX11_12 E hW rh0 dX11_keepRow_90 (fun a2207 m2208 r2209 => ?_)
        refine fg_RX11_194 E hW r2209 dX11_keepRow_93 (fun a2210 m2211 r2212 => ?_)
        refine fg_RX11_359 E hW r2212 dX11_keepRow_96 (fun a2213 m2214 r2215 => ?_)
        refine lv_iload_n hx hb dX11_keepRow_99 rfl (lv_at hl 2 rfl) ?_
        refine lv_aload hx hb dX11_keepRow_100 (lv_at hl 5 rfl) ?_
        refine r_astR E hW r2215 (by decide) rfl (by decide) r4 (ixN (N := 400) hW r2215 (by decide) rfl (by decide) ⟨by omega, by omega⟩) dX11_keepRow_102 (fun f2216 H locs n2217 g2218 hW => ?_)
        have hF := FM.tr hF g2218 rfl
        refine lv_aload hx hb dX11_keepRow_103 (lv_at hl 5 rfl) ?_
        refine fg_RX11_373 E hW r4 dX11_keepRow_105 (fun a2219 m2220 r2221 => ?_)
        obtain rfl : a2165 = a2219 := (((fm_R g2218 r4 rfl).trans m2166)).symm.trans m2220
        have h2224 : aN (f2216 a2165) ≤ 400 := (th_len hW r2167 (by decide)).1 rfl
        refine r_alen E hW r2167 (by decide) dX11_keepRow_108 (fun n2222 h2223 => ?_) (by omega)
        exact hend _ _ _ _ _ _ E hdr hF hW
      refine q_icmp_ge (tgt := 89) hx hb dX11_keepRow_36 (by decide) rfl rfl (fun c2225 => ?_) (fun c2225 => ?_)
      · exact J2206   S E hdr _ _ _ hW hF (lv_sub hl [0, 1, 2, 3, 4, 5] rfl)
      · refine lv_iload_n hx hb dX11_keepRow_39 rfl (lv_at hl 3 rfl) ?_
        refine lv_iload hx hb dX11_keepRow_40 (lv_at hl 0 rfl) ?_
        refine q_iadd hx hb dX11_keepRow_42 rfl rfl (by omega) (fun x2226 h2227 => ?_)
        refine lv_aload_n hx hb dX11_keepRow_43 rfl (lv_at hl 4 rfl) ?_
        refine fg_RX11_130 E hW r3 dX11_keepRow_44 (fun y2228 m2229 b2230 => ?_)
        refine q_icmp_ge (tgt := 89) hx hb dX11_keepRow_47 (by decide) rfl rfl (fun c2231 => ?_) (fun c2231 => ?_)
        · exact J2206   S E hdr _ _ _ hW hF (lv_sub hl [0, 1, 2, 3, 4, 5] rfl)
        · refine lv_aload hx hb dX11_keepRow_50 (lv_at hl 5 rfl) ?_
          refine fg_RX11_373 E hW r4 dX11_keepRow_52 (fun a2232 m2233 r2234 => ?_)
          obtain rfl : a2165 = a2232 := (m2166).symm.trans m2233
          refine lv_iload hx hb dX11_keepRow_55 (lv_at hl 0 rfl) ?_
          refine lv_aload_n hx hb dX11_keepRow_57 rfl (lv_at hl 1 rfl) ?_
          refine fg_RX11_30 E hW rh0 dX11_keepRow_58 (fun a2235 m2236 r2237 => ?_)
          refine lv_iload hx hb dX11_keepRow_61 (lv_at hl 0 rfl) ?_
          refine t_callVD (As := [.int y2162]) (rest := [.int y2162, .ref a2165]) E hdr hW (c_X8_numberOf l G cI cJ cZ cD cR cT kp L f2161 hW.2.2.2 _ a2235 y2162 r2237) r2237 (by decide) rfl wk_X8_numberOf tw_830 rfl ⟨Nat.le_of_ble_eq_true rfl, Nat.le_of_ble_eq_true rfl⟩ ⟨rfl, rfl⟩ hl.1 rfl (Nat.le_of_ble_eq_true rfl) dX11_keepRow_63 ⟨Nat.le_of_ble_eq_true rfl, Nat.le_of_ble_eq_true rfl⟩ (fun v2238 f2239 S H locs q2240 E hdr hW => ?_)
          obtain ⟨hx, hb, -, hml, hown, hts, -, -, -⟩ := id E
          obtain ⟨⟨d2242, rfl⟩, g2241⟩ := q2240
          have hF := FM.tr hF g2241 rfl
          refine lv_aload_n hx hb dX11_keepRow_66 rfl (lv_at hl 4 rfl) ?_
          refine fg_RX11_378 E hW r3 dX11_keepRow_67 (fun a2243 m2244 r2245 => ?_)
          refine lv_iload_n hx hb dX11_keepRow_70 rfl (lv_at hl 3 rfl) ?_
          refine lv_iload hx hb dX11_keepRow_71 (lv_at hl 0 rfl) ?_
          refine q_iadd hx hb dX11_keepRow_73 rfl rfl (by omega) (fun x2246 h2247 => ?_)
          refine gl_162 E hW r2245 ⟨by omega, by omega⟩ dX11_keepRow_74 (fun y2248 m2249 => ?_)
          refine lv_i2d hx hb dX11_keepRow_75 (lv_topd (fun d2251 _ => ?_))
          refine dw_dmul E hdr hW dX11_keepRow_76 (fun d2252 S E hdr hW => ?_)
          obtain ⟨hx, hb, -, hml, hown, hts, -, -, -⟩ := id E
          refine lv_ldc2d hx hb hown (hts _ tw_838) dX11_keepRow_77 ?_
          refine dw_ddiv E hdr hW dX11_keepRow_80 (fun d2253 S E hdr hW => ?_)
          obtain ⟨hx, hb, -, hml, hown, hts, -, -, -⟩ := id E
          refine lv_d2i hx hb dX11_keepRow_81 (lv_topi (fun x2254 _ => ?_))
          refine gs_461 E hW r2167 (by rw [((congrArg aN (fm_A g2241 r2167 (by decide) rfl)).trans (show aN (f2161 a2165) = n2168.toInt.toNat by omega))]; omega) dX11_keepRow_82 (fun f2255 H locs e2256 n2257 g2258 hW => ?_)
          have hF := FM.tr hF g2258 rfl
          refine q_iinc hx hb dX11_keepRow_83 hl (k := 0) rfl rfl rfl (by omega) (by decide) (fun i2259 ls h2260 hl => ?_)
          have hl : lv_has ls 6 [(5, .int i2259), (0, .ref h0), (1, .int u1), (2, .int u2), (3, .ref a3), (4, .ref a4)] := hl
          refine lv_goto (tgt := 28) hx hb dX11_keepRow_86 (by decide) ?_
          exact ih28 f2255 i2259 (by omega) (by omega) S E hdr _ _ _ hW hF (lv_sub hl [0, 1, 2, 3, 4, 5] rfl)
  have hk2261 : (0 : Int32).toInt = 0 := rfl
  exact L2164 401 f0 0 (by decide) (by omega) S E hdr _ _ _ hW hF (lv_sub hl [0, 1, 2, 3, 4, 5] rfl)
