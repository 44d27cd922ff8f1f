/-! calls with the words of a method in one; what else a walk wants -/
theorem tn_ne {i j : Int32} (h0 : 0 ≤ i.toInt) (h1 : 0 ≤ j.toInt) (h : ¬ j.toInt = i.toInt) : j.toNatClampNeg ≠ i.toNatClampNeg := by
  intro e
  have a := tnc h0
  have b := tnc h1
  rw [e] at b
  omega
theorem up_s {f : Nat → Int32} {k : Nat} {x : Int32} : upd f k x k = x := by simp [upd]
theorem up_n {f : Nat → Int32} {k j : Nat} {x : Int32} (h : j ≠ k) : upd f k x j = f j := by simp [upd, h]
theorem andm (k : Nat) {x m : Int32} {M : Int} (hk : k ≤ 30) (hm : m.toBitVec.toNat = 2 ^ k - 1) (hM : M = ((2 ^ k - 1 : Nat) : Int)) : 0 ≤ (x &&& m).toInt ∧ (x &&& m).toInt ≤ M := by
  obtain ⟨j, hj, ej⟩ := pk_andE x k hm
  have hp : 2 ^ k ≤ 2 ^ 30 := Nat.pow_le_pow_right (by decide) hk
  rw [ej, nI_toInt (by omega)]
  omega
section MORE
variable {p : Program} {l : Launch} {e : Env} {R : Room} {s : State} {m : MethodId} {args : Array Value} {below : List Frame} {meth : Method} {c : Code} {H : Heap} {locs : List Loc} {cells slots : Nat} {Q : State → Prop}
variable {cc : ByteArray} {pc : Nat} {ls : Array Slot} {rest st0 : List Value} {G : va_G} {A : Nat → Prop} {cI cJ cZ cD cR cT : ClassId} {ret rety : Option FieldType} {nL : Nat} {own : String} {kp : Nat → Nat} {L : List Nat} {f : Nat → va_E} {a K ci k index : Nat} {C : String} {T : u_T} {N : Nat}
variable {po : Option Value → (Nat → va_E) → Prop} {y : MethodName} {bytes : ByteArray} {maxL n : Nat} {rm : Room} {As : List Value}
theorem q_iand (hx : p.tables.exec = Jvm.exec) (hb : c.code = cc) {x y : Int32} {M : Int} (hdg : decode cc pc = .ok (.iand, 1)) (hk : k ≤ 30) (hm : y.toBitVec.toNat = 2 ^ k - 1) (hM : M = ((2 ^ k - 1 : Nat) : Int)) (kk : ∀ z : Int32, 0 ≤ z.toInt ∧ z.toInt ≤ M → W p l e R s m args below meth c H locs cells slots Q (F0 m (pc + 1) ls (.int z :: rest))) : W p l e R s m args below meth c H locs cells slots Q (F0 m pc ls (.int y :: .int x :: rest)) := lv_iand hx hb hdg (kk _ (andm k hk hm hM))
theorem t_callS (E : EV G cI cJ cZ cD cR cT A cc ret nL own p s m args meth c) (hW : WS G cI cJ cZ cD cR cT A kp L f s H locs) (hM : Met l y (Cond.code y bytes maxL rety :: wTab) rm (va_Pc As (PreW G (tys6 cI cJ cZ cD cR cT) (va_pl L f) H.size)) (QT po G cI cJ cZ cD cR cT (va_A (va_pl L f) H.size) kp L) 0 0 (va_A (va_pl L f) H.size))
    (wk : Cond.code y bytes maxL rety ∈ wTab ∧ Cond.initialized y.cls ∈ wTab ∧ Cond.static y ∈ wTab ∧ (y.cls ≠ "java/lang/invoke/MethodHandle" ∧ y.cls ≠ "java/lang/invoke/VarHandle" ∧ (parseMethodDescriptor y.desc).map (fun d => d.parameters.length) = some n)) (hl : Cond.methodLink own index y ∈ wTab)
    (hn : As.length = n) (hR : rm.frames + 1 ≤ R.frames ∧ 8 + (maxL + 11) + rm.locals ≤ R.locals) (hrm : rm.cells = 0 ∧ rm.slots = 0)
    (hsize : ls.size = nL) (hst0 : st0 = As.reverse ++ rest) (hw : (rest.map fun v => v.category).sum ≤ 8) (hdg : decode cc pc = .ok (.invokestatic index, 3)) (hf : cells ≤ R.cells ∧ slots ≤ R.slots)
    (kk : ∀ (v : Option Value) (f1 : Nat → va_E) (H1 : Heap) (locs1 : List Loc), po v f1 → WS G cI cJ cZ cD cR cT A kp L f1 s H1 locs1 → W p l e R s m args below meth c H1 locs1 cells slots Q (F0 m (pc + 3) ls (v.toList ++ rest))) : W p l e R s m args below meth c H locs cells slots Q (F0 m pc ls st0) :=
  r_callS E hW hM tw_good wk.1 hrm.1 hrm.2 wk.2.1 hl wk.2.2.1 (by rw [hn]; exact wk.2.2.2) hR hsize hst0 hw hdg hf kk
theorem t_callV (E : EV G cI cJ cZ cD cR cT A cc ret nL own p s m args meth c) (hW : WS G cI cJ cZ cD cR cT A kp L f s H locs) {b : Nat} (hM : Met l y (Cond.code y bytes maxL rety :: wTab) rm (va_Pc (.ref b :: As) (PreW G (tys6 cI cJ cZ cD cR cT) (va_pl L f) H.size)) (QT po G cI cJ cZ cD cR cT (va_A (va_pl L f) H.size) kp L) 0 0 (va_A (va_pl L f) H.size))
    (hr : RK kp L b ci) (hci : ci < 100) (hcl : vwCl[ci]? = some (C, T, N)) (wk : Cond.code y bytes maxL rety ∈ wTab ∧ Cond.initialized y.cls ∈ wTab ∧ Cond.instanceMethod y ∈ wTab ∧ Cond.selects C y y ∈ wTab ∧ (y.cls ≠ "java/lang/invoke/MethodHandle" ∧ y.cls ≠ "java/lang/invoke/VarHandle" ∧ (parseMethodDescriptor y.desc).map (fun d => d.parameters.length) = some n)) (hl : Cond.methodLink own index y ∈ wTab)
    (hn : As.length = n) (hR : rm.frames + 1 ≤ R.frames ∧ 8 + (maxL + 11) + rm.locals ≤ R.locals) (hrm : rm.cells = 0 ∧ rm.slots = 0)
    (hsize : ls.size = nL) (hst0 : st0 = As.reverse ++ .ref b :: rest) (hw : (rest.map fun v => v.category).sum ≤ 8) (hdg : decode cc pc = .ok (.invokevirtual index, 3)) (hf : cells ≤ R.cells ∧ slots ≤ R.slots)
    (kk : ∀ (v : Option Value) (f1 : Nat → va_E) (H1 : Heap) (locs1 : List Loc), po v f1 → WS G cI cJ cZ cD cR cT A kp L f1 s H1 locs1 → W p l e R s m args below meth c H1 locs1 cells slots Q (F0 m (pc + 3) ls (v.toList ++ rest))) : W p l e R s m args below meth c H locs cells slots Q (F0 m pc ls st0) :=
  r_callV E hW hM hr hci hcl tw_good wk.1 hrm.1 hrm.2 wk.2.1 hl wk.2.2.1 wk.2.2.2.1 (by rw [hn]; exact wk.2.2.2.2) hR hsize hst0 hw hdg hf kk
end MORE
theorem AB_cpy {f g : Nat → Int32} {lo hi : Int} {sp dp n : Nat} (hf : AB f lo hi) (hg : AB g lo hi) : AB (va_cpy f g sp dp n) lo hi := by
  intro j
  unfold va_cpy
  split
  · exact hf _
  · exact hg j
section LIB
variable {p : Program} {l : Launch} {e : Env} {R : Room} {s : State} {m : MethodId} {args : Array Value} {below : List Frame} {meth : Method} {c : Code} {H : Heap} {locs : List Loc} {cells slots : Nat} {Q : State → Prop}
variable {cc : ByteArray} {pc : Nat} {ls : Array Slot} {rest st0 : List Value} {G : va_G} {A : Nat → Prop} {cI cJ cZ cD cR cT : ClassId} {ret rety : Option FieldType} {nL : Nat} {own : String} {kp : Nat → Nat} {L : List Nat} {f : Nat → va_E} {a a0 K K0 ci k index : Nat}
theorem th_int (hW : WS G cI cJ cZ cD cR cT A kp L f s H locs) (hr : RK kp L a K) (hK : 100 ≤ K) (hT : aTag K = 0) : ∃ (n : Nat) (g : Nat → Int32), f a = .inl (cI, n, .inl g) ∧ lenOk K n ∧ aCP K g := by
  have h := th_arr hW.2.2.2 hr hK
  unfold okA at h
  rw [hT] at h
  exact h
/-- System.arraycopy from place 0 to place 0, of ints -/
theorem t_copy {n0 n1 : Nat} {n : Int32} {N : Int} (E : EV G cI cJ cZ cD cR cT A cc ret nL own p s m args meth c) (hW : WS G cI cJ cZ cD cR cT A kp L f s H locs) (hlk : Cond.methodLink own index arraycopyName ∈ wTab) (hw : Cond.native arraycopyName ∈ wTab ∧ Cond.static arraycopyName ∈ wTab ∧ Cond.initialized "java/lang/System" ∈ wTab) (hsz : ls.size = nL) (hnN : n.toInt = N) (hr0 : RK kp L a0 K0) (hK0 : 100 ≤ K0) (hT0 : aTag K0 = 0) (hr : RK kp L a K)  (hK : 100 ≤ K) (hT : aTag K = 0) (hl0 : aLen K0 = n0) (h00 : n0 ≠ 0) (hl1 : aLen K = n1) (h01 : n1 ≠ 0) (hsk : sKind K = false) (hN : 0 ≤ N ∧ N ≤ (min n0 n1 : Nat)) (hcp : aCP K0 (aI (f a0)) → aCP K (aI (f a)) → aCP K (va_cpy (aI (f a0)) (aI (f a)) 0 0 n.toNatClampNeg))
    (hR : 1 ≤ R.frames ∧ (rest.map fun v => v.category).sum + (nativeFrameWords "java/lang/System" "arraycopy" 5 + 11) ≤ R.locals) (hdg : decode cc pc = .ok (.invokestatic index, 3))
    (kk : ∀ (f1 : Nat → va_E) (H1 : Heap) (locs1 : List Loc), (∀ b, b ≠ a → f1 b = f b) → FM kp L [(K, 0)] f f1 → WS G cI cJ cZ cD cR cT A kp L f1 s H1 locs1 → W p l e R s m args below meth c H1 locs1 cells slots Q (F0 m (pc + 3) ls rest)) : W p l e R s m args below meth c H locs cells slots Q (F0 m pc ls (.int n :: .int 0 :: .ref a :: .int 0 :: .ref a0 :: rest)) := by
  obtain ⟨hx, hb, -, hml, hown, hts, -, hKK, -⟩ := E
  obtain ⟨x0, g0, e0, l0, c0⟩ := th_int hW hr0 hK0 hT0
  obtain ⟨x1, g1, e1, l1, c1⟩ := th_int hW hr hK hT
  obtain ⟨hP, hD, hS, hTH⟩ := hW
  obtain ⟨q0, hq0⟩ := ws_at ⟨hP, hD, hS, hTH⟩ hr0.1
  obtain ⟨q1, hq1⟩ := ws_at ⟨hP, hD, hS, hTH⟩ hr.1
  have hset : ∀ x, (va_pl L f).set q1 (a, x) = va_pl L (va_up f a x) := fun x => pl_set hD hr.1 hq1
  have hq1' := hq1
  rw [e0] at hq0
  rw [e1] at hq1'
  obtain ⟨d1, d2⟩ := aI_of e0
  obtain ⟨d3, d4⟩ := aI_of e1
  rw [d1, d3] at hcp
  have hx0 := lenOk_n l0 hl0 h00
  have hx1 := lenOk_n l1 hl1 h01
  have hn0 : ¬ n < 0 := fun z => by have := i32_lt.mp z; have h0 : (0 : Int32).toInt = 0 := rfl; omega
  have hnn : ((n.toNatClampNeg : Nat) : Int) = n.toInt := tnc (by omega)
  refine va_copyi (ty := .int) hx hb (hml.trans hsz.symm) hown (hts _ hlk) (hts _ hw.1) (hts _ hw.2.1) (hts _ hw.2.2) hKK.1 hP hD hS q0 q1 0 0 hq0 hq1' rfl rfl rfl (by decide) (by decide) hn0 (by show 0 + _ ≤ _; omega) (by show 0 + _ ≤ _; omega) (fun _ _ => rfl) hR.1 hR.2 hdg (fun H1 locs1 hP1 hD1 hS1 => ?_)
  rw [hset] at hP1 hD1
  refine kk _ H1 locs1 (fun b hb => va_up_ne _ _ hb) (fm_ast hr hK (fun k => by rw [e1]; rfl)) ⟨hP1, hD1, hS1, th_up hTH hr ⟨fun h2 => absurd h2 (by omega), fun _ => ?_⟩ hsk⟩
  unfold okA
  rw [hT]
  exact ⟨x1, _, rfl, l1, hcp c0 c1⟩
theorem t_min {x y : Int32} {X Y : Int} (E : EV G cI cJ cZ cD cR cT A cc ret nL own p s m args meth c) (hlk : Cond.methodLink own index Lib.Math.min.name ∈ wTab) (hw : Cond.static Lib.Math.min.name ∈ wTab ∧ Cond.initialized "java/lang/Math" ∈ wTab ∧ Cond.code Lib.Math.min.name Lib.Math.min.code 2 (some .int) ∈ wTab) (hsz : ls.size = nL) (hR : 1 ≤ R.frames ∧ (rest.map fun v => v.category).sum + 13 ≤ R.locals) (hf : cells ≤ R.cells ∧ slots ≤ R.slots) (ex : x.toInt = X) (ey : y.toInt = Y) (hdg : decode cc pc = .ok (.invokestatic index, 3))
    (kk : ∀ z : Int32, z.toInt ≤ X ∧ z.toInt ≤ Y ∧ (z.toInt = X ∨ z.toInt = Y) → W p l e R s m args below meth c H locs cells slots Q (F0 m (pc + 3) ls (.int z :: rest))) : W p l e R s m args below meth c H locs cells slots Q (F0 m pc ls (.int y :: .int x :: rest)) := by
  obtain ⟨hx, hb, -, hml, hown, hts, -, hKK, -⟩ := E
  refine va_mmin hx hb (hml.trans hsz.symm) hown (hts _ hlk) (hts _ hw.1) (hts _ hw.2.1) (hts _ hw.2.2) hR.1 hR.2 hf.1 hf.2 hdg (kk _ ?_)
  split
  · rename_i h; have := i32_lt.mp h; omega
  · rename_i h
    have h2 : ¬ (y.toInt < x.toInt) := fun z => h (i32_lt.mpr z)
    omega
theorem t_max {x y : Int32} {X Y : Int} (E : EV G cI cJ cZ cD cR cT A cc ret nL own p s m args meth c) (hlk : Cond.methodLink own index Lib.Math.max.name ∈ wTab) (hw : Cond.static Lib.Math.max.name ∈ wTab ∧ Cond.initialized "java/lang/Math" ∈ wTab ∧ Cond.code Lib.Math.max.name Lib.Math.max.code 2 (some .int) ∈ wTab) (hsz : ls.size = nL) (hR : 1 ≤ R.frames ∧ (rest.map fun v => v.category).sum + 13 ≤ R.locals) (hf : cells ≤ R.cells ∧ slots ≤ R.slots) (ex : x.toInt = X) (ey : y.toInt = Y) (hdg : decode cc pc = .ok (.invokestatic index, 3))
    (kk : ∀ z : Int32, X ≤ z.toInt ∧ Y ≤ z.toInt ∧ (z.toInt = X ∨ z.toInt = Y) → W p l e R s m args below meth c H locs cells slots Q (F0 m (pc + 3) ls (.int z :: rest))) : W p l e R s m args below meth c H locs cells slots Q (F0 m pc ls (.int y :: .int x :: rest)) := by
  obtain ⟨hx, hb, -, hml, hown, hts, -, hKK, -⟩ := E
  refine va_mmax hx hb (hml.trans hsz.symm) hown (hts _ hlk) (hts _ hw.1) (hts _ hw.2.1) (hts _ hw.2.2) hR.1 hR.2 hf.1 hf.2 hdg (kk _ ?_)
  split
  · rename_i h; have := i32_lt.mp h; omega
  · rename_i h
    have h2 : ¬ (x.toInt < y.toInt) := fun z => h (i32_lt.mpr z)
    omega
theorem t_min_long {x y : Int64} {X Y : Int} (E : EV G cI cJ cZ cD cR cT A cc ret nL own p s m args meth c) (hlk : Cond.methodLink own index Lib.MathLoose.min_long.x ∈ wTab) (hw : Cond.static Lib.MathLoose.min_long.x ∈ wTab ∧ Cond.initialized "java/lang/Math" ∈ wTab ∧ Cond.code Lib.MathLoose.min_long.x Lib.MathLoose.min_long.code 4 (some .long) ∈ wTab) (hsz : ls.size = nL) (hR : 1 ≤ R.frames ∧ (rest.map fun v => v.category).sum + 15 ≤ R.locals) (hf : cells ≤ R.cells ∧ slots ≤ R.slots) (ex : x.toInt = X) (ey : y.toInt = Y) (hdg : decode cc pc = .ok (.invokestatic index, 3))
    (kk : ∀ z : Int64, z.toInt ≤ X ∧ z.toInt ≤ Y ∧ (z.toInt = X ∨ z.toInt = Y) → W p l e R s m args below meth c H locs cells slots Q (F0 m (pc + 3) ls (.long z :: rest))) : W p l e R s m args below meth c H locs cells slots Q (F0 m pc ls (.long y :: .long x :: rest)) := by
  obtain ⟨hx, hb, -, hml, hown, hts, -, hKK, -⟩ := E
  refine va_mmin_long hx hb (hml.trans hsz.symm) hown (hts _ hlk) (hts _ hw.1) (hts _ hw.2.1) (hts _ hw.2.2) hR.1 hR.2 hf.1 hf.2 hdg (kk _ ?_)
  split
  · rename_i h; have := i64_lt.mp h; omega
  · rename_i h
    have h2 : ¬ (y.toInt < x.toInt) := fun z => h (i64_lt.mpr z)
    omega
theorem t_max_long {x y : Int64} {X Y : Int} (E : EV G cI cJ cZ cD cR cT A cc ret nL own p s m args meth c) (hlk : Cond.methodLink own index Lib.MathLoose.max_long.x ∈ wTab) (hw : Cond.static Lib.MathLoose.max_long.x ∈ wTab ∧ Cond.initialized "java/lang/Math" ∈ wTab ∧ Cond.code Lib.MathLoose.max_long.x Lib.MathLoose.max_long.code 4 (some .long) ∈ wTab) (hsz : ls.size = nL) (hR : 1 ≤ R.frames ∧ (rest.map fun v => v.category).sum + 15 ≤ R.locals) (hf : cells ≤ R.cells ∧ slots ≤ R.slots) (ex : x.toInt = X) (ey : y.toInt = Y) (hdg : decode cc pc = .ok (.invokestatic index, 3))
    (kk : ∀ z : Int64, X ≤ z.toInt ∧ Y ≤ z.toInt ∧ (z.toInt = X ∨ z.toInt = Y) → W p l e R s m args below meth c H locs cells slots Q (F0 m (pc + 3) ls (.long z :: rest))) : W p l e R s m args below meth c H locs cells slots Q (F0 m pc ls (.long y :: .long x :: rest)) := by
  obtain ⟨hx, hb, -, hml, hown, hts, -, hKK, -⟩ := E
  refine va_mmax_long hx hb (hml.trans hsz.symm) hown (hts _ hlk) (hts _ hw.1) (hts _ hw.2.1) (hts _ hw.2.2) hR.1 hR.2 hf.1 hf.2 hdg (kk _ ?_)
  split
  · rename_i h; have := i64_lt.mp h; omega
  · rename_i h
    have h2 : ¬ (y.toInt < x.toInt) := fun z => h (i64_lt.mpr z)
    omega
end LIB
theorem dJ7_fill_53178_0 : decode cJ7_fill_53178 0 = .ok (.iconst 0, 1) := by decide +kernel
theorem dJ7_fill_53178_1 : decode cJ7_fill_53178 1 = .ok (.istore_n 2, 1) := by decide +kernel
theorem dJ7_fill_53178_2 : decode cJ7_fill_53178 2 = .ok (.aload_n 0, 1) := by decide +kernel
theorem dJ7_fill_53178_3 : decode cJ7_fill_53178 3 = .ok (.arraylength, 1) := by decide +kernel
theorem dJ7_fill_53178_4 : decode cJ7_fill_53178 4 = .ok (.istore_n 3, 1) := by decide +kernel
theorem dJ7_fill_53178_5 : decode cJ7_fill_53178 5 = .ok (.iload_n 2, 1) := by decide +kernel
theorem dJ7_fill_53178_6 : decode cJ7_fill_53178 6 = .ok (.iload_n 3, 1) := by decide +kernel
theorem dJ7_fill_53178_7 : decode cJ7_fill_53178 7 = .ok (.if_icmp .ge 13, 3) := by decide +kernel
theorem dJ7_fill_53178_20 : decode cJ7_fill_53178 20 = .ok (.return_, 1) := by decide +kernel
theorem dJ7_fill_53178_10 : decode cJ7_fill_53178 10 = .ok (.aload_n 0, 1) := by decide +kernel
theorem dJ7_fill_53178_11 : decode cJ7_fill_53178 11 = .ok (.iload_n 2, 1) := by decide +kernel
theorem dJ7_fill_53178_12 : decode cJ7_fill_53178 12 = .ok (.iload_n 1, 1) := by decide +kernel
theorem dJ7_fill_53178_13 : decode cJ7_fill_53178 13 = .ok (.iastore, 1) := by decide +kernel
theorem dJ7_fill_53178_14 : decode cJ7_fill_53178 14 = .ok (.iinc 2 1, 3) := by decide +kernel
theorem dJ7_fill_53178_17 : decode cJ7_fill_53178 17 = .ok (.goto (-12), 3) := by decide +kernel
set_option maxHeartbeats 4000000 in
/-- java.util.Arrays.fill of an array of ints of any kind whose contents bear the value -/
theorem c_fill (l : Launch) (G : va_G) (cI cJ cZ cD cR cT : ClassId) (kp : Nat → Nat) (L : List Nat) (f0 : Nat → va_E) (hTH : TH cI cJ cZ cD cR cT kp L f0) (sz : Nat) (a : Nat) (v : Int32) (K : Nat) (hr : RK kp L a K) (hK : 100 ≤ K) (hT : aTag K = 0) (hsk : sKind K = false) (hcp : ∀ (g : Nat → Int32) (j : Nat), aCP K g → aCP K (upd g j v)) (hlen : aLen K < 1000000) : Met l yJ7_fill_53178 (Cond.code yJ7_fill_53178 cJ7_fill_53178 4 none :: wTab) ({ frames := 1, cells := 0, slots := 0, locals := 40 }) (va_Pc [.ref a, .int v] (PreW G (tys6 cI cJ cZ cD cR cT) (va_pl L f0) sz)) (QT (fun r f => r = none ∧ FM kp L [(K, 0)] f0 f) G cI cJ cZ cD cR cT (va_A (va_pl L f0) sz) kp L) 0 0 (va_A (va_pl L f0) sz) := by
  refine metT (by decide) (Nat.le_of_ble_eq_true rfl) hTH ?_
  intro p e s m below meth c A ls E hW hl
  obtain ⟨hx, hb, -, hml, hown, hts, -, -, -⟩ := id E
  have hF : FM kp L [(K, 0)] f0 f0 := FM.rf
  have hl : lv_has ls 4 [(0, .ref a), (1, .int v)] := hl
  have hlK : ∀ {f : Nat → va_E} {H : Heap} {locs : List Loc}, WS G cI cJ cZ cD cR cT A kp L f s H locs → aN (f a) < 1000000 := fun {f H locs} hW => by
    obtain ⟨u1, u2⟩ := th_len hW hr hK
    by_cases hz : aLen K = 0
    · have := u1 hz; omega
    · have := u2 hz; omega
  refine lv_iconst (v := 0) hx hb dJ7_fill_53178_0 (by decide) ?_
  refine lv_istore_n (lv' := [(2, .int 0), (0, .ref a), (1, .int v)]) hx hb dJ7_fill_53178_1 rfl hl (by decide) rfl (fun ls hl => ?_)
  refine lv_aload_n hx hb dJ7_fill_53178_2 rfl (lv_at hl 1 rfl) ?_
  refine r_alen E hW hr hK dJ7_fill_53178_3 (fun y hy => ?_) (by have := hlK hW; omega)
  have hy2 : y.toInt < 1000000 := by have := hlK hW; omega
  refine lv_istore_n (lv' := [(3, .int y), (2, .int 0), (0, .ref a), (1, .int v)]) hx hb dJ7_fill_53178_4 rfl hl (by decide) rfl (fun ls hl => ?_)
  have loop5 : ∀ (n : Nat) (f : Nat → va_E) (i : Int32) (hi : 0 ≤ i.toInt) (hm : (1000001 : Int) - i.toInt ≤ n) (hyf : y.toInt = ((aN (f a) : Nat) : Int)) (H : Heap) (locs : List Loc) (ls : Array Slot), WS G cI cJ cZ cD cR cT A kp L f s H locs → FM kp L [(K, 0)] f0 f → lv_has ls 4 [(3, .int y), (2, .int i), (0, .ref a), (1, .int v)] → W p l e ({ frames := 1, cells := 0, slots := 0, locals := 40 }) s m ([.ref a, .int v] : List Value).toArray below meth c H locs 0 0 (MQ below (QT (fun r f => r = none ∧ FM kp L [(K, 0)] f0 f) G cI cJ cZ cD cR cT A kp L) ([.ref a, .int v] : List Value).toArray s 0 0 A) (F0 m 5 ls []) := by
    intro n
    induction n with
    | zero =>
      intro f i hi hm hyf H locs ls hW hF hl
      refine lv_iload_n hx hb dJ7_fill_53178_5 rfl (lv_at hl 1 rfl) ?_
      refine lv_iload_n hx hb dJ7_fill_53178_6 rfl (lv_at hl 0 rfl) ?_
      refine q_icmp_ge (tgt := 20) hx hb dJ7_fill_53178_7 (by decide) rfl rfl (fun c1 => ?_) (fun c1 => ?_)
      · exact e_V E hW rfl ⟨rfl, hF⟩ dJ7_fill_53178_20
      · exfalso; omega
    | succ n ih =>
      intro f i hi hm hyf H locs ls hW hF hl
      refine lv_iload_n hx hb dJ7_fill_53178_5 rfl (lv_at hl 1 rfl) ?_
      refine lv_iload_n hx hb dJ7_fill_53178_6 rfl (lv_at hl 0 rfl) ?_
      refine q_icmp_ge (tgt := 20) hx hb dJ7_fill_53178_7 (by decide) rfl rfl (fun c1 => ?_) (fun c1 => ?_)
      · exact e_V E hW rfl ⟨rfl, hF⟩ dJ7_fill_53178_20
      · refine lv_aload_n hx hb dJ7_fill_53178_10 rfl (lv_at hl 2 rfl) ?_
        refine lv_iload_n hx hb dJ7_fill_53178_11 rfl (lv_at hl 1 rfl) ?_
        refine lv_iload_n hx hb dJ7_fill_53178_12 rfl (lv_at hl 3 rfl) ?_
        refine r_iast E hW hr hK hT hsk ⟨hi, by omega⟩ (hcp _ _) dJ7_fill_53178_13 (fun f1 H locs e1 en e2 g hW => ?_)
        refine q_iinc hx hb dJ7_fill_53178_14 hl (k := 1) rfl rfl rfl (by omega) (by decide) (fun z ls hz hl => ?_)
        have hl : lv_has ls 4 [(2, .int z), (3, .int y), (0, .ref a), (1, .int v)] := hl
        refine lv_goto (tgt := 5) hx hb dJ7_fill_53178_17 (by decide) ?_
        exact ih f1 z (by omega) (by omega) (by rw [en]; exact hyf) _ _ _ hW (FM.tr hF g (by simp)) (lv_sub hl [1, 0, 2, 3] rfl)
  exact loop5 1000001 f0 0 (by decide) (by decide) hy _ _ _ hW hF hl
section AST
variable {p : Program} {l : Launch} {e : Env} {R : Room} {s : State} {m : MethodId} {args : Array Value} {below : List Frame} {meth : Method} {c : Code} {H : Heap} {locs : List Loc} {cells slots : Nat} {Q : State → Prop}
variable {cc : ByteArray} {pc : Nat} {ls : Array Slot} {rest st0 : List Value} {G : va_G} {A : Nat → Prop} {cI cJ cZ cD cR cT : ClassId} {ret rety : Option FieldType} {nL : Nat} {own : String} {kp : Nat → Nat} {L : List Nat} {f : Nat → va_E} {a b K : Nat}
theorem aQ_up {P : Nat → Prop} {g : Nat → Option Nat} {j : Nat} {x : Option Nat} (h : ∀ i r : Nat, g i = some r → P r) (hx : ∀ r, x = some r → P r) : ∀ i r : Nat, va_up g j x i = some r → P r := by
  intro i r hi
  by_cases hij : i = j
  · subst hij; rw [va_up_self] at hi; exact hx r hi
  · rw [va_up_ne _ _ hij] at hi; exact h i r hi
theorem r_astR (E : EV G cI cJ cZ cD cR cT A cc ret nL own p s m args meth c) (hW : WS G cI cJ cZ cD cR cT A kp L f s H locs) (hr : RK kp L a K) (hK : 100 ≤ K) (hT : aTag K = 4) (hsk : sKind K = false) (hb9 : RK kp L b 6) {i : Int32} (hi : 0 ≤ i.toInt ∧ i.toInt < ((aN (f a) : Nat) : Int)) (hdg : decode cc pc = .ok (.aastore, 1))
    (kk : ∀ (f1 : Nat → va_E) (H1 : Heap) (locs1 : List Loc), (∀ b, b ≠ a → f1 b = f b) → FM kp L [(K, 0)] f f1 → WS G cI cJ cZ cD cR cT A kp L f1 s H1 locs1 → W p l e R s m args below meth c H1 locs1 cells slots Q (F0 m (pc + 1) ls rest)) : W p l e R s m args below meth c H locs cells slots Q (F0 m pc ls (.ref b :: .int i :: .ref a :: rest)) := by
  obtain ⟨hx, hb, -, -, hown, hts, -, hKK, -⟩ := E
  obtain ⟨hP, hD, hS, hTH⟩ := hW
  have h := th_arr hTH hr hK
  unfold okA at h
  rw [hT] at h
  obtain ⟨n, g, e1, e2, e3⟩ := h
  obtain ⟨q, hq⟩ := ws_at ⟨hP, hD, hS, hTH⟩ hr.1
  have hset : ∀ x, (va_pl L f).set q (a, x) = va_pl L (va_up f a x) := fun x => pl_set hD hr.1 hq
  have hq2 := hq
  rw [e1] at hq2
  obtain ⟨e4, e5⟩ := aQ_of e1
  rw [e5] at hi
  obtain ⟨fs, b1, -, -⟩ := th_obj hTH hb9 (by decide)
  obtain ⟨qb, hqb⟩ := ws_at ⟨hP, hD, hS, hTH⟩ hb9.1
  rw [b1] at hqb
  refine va_astq (r := (RX6, TX6, 2)) hx hb hKK.1 hP hD hS q 4 qb 6 hq2 rfl hqb rfl (vin hi) hdg (fun H1 locs1 hP1 hD1 hS1 => ?_)
  rw [hset] at hP1 hD1
  refine kk _ H1 locs1 (fun b hb => va_up_ne _ _ hb) (fm_ast hr hK (fun k => by rw [e1]; rfl)) ⟨hP1, hD1, hS1, th_up hTH hr ⟨fun h2 => absurd h2 (by omega), fun _ => ?_⟩ hsk⟩
  unfold okA
  rw [hT]
  exact ⟨n, _, rfl, e2, aQ_up e3 (fun r hr => by cases hr; exact hb9)⟩
theorem r_astRN (E : EV G cI cJ cZ cD cR cT A cc ret nL own p s m args meth c) (hW : WS G cI cJ cZ cD cR cT A kp L f s H locs) (hr : RK kp L a K) (hK : 100 ≤ K) (hT : aTag K = 4) (hsk : sKind K = false) {i : Int32} (hi : 0 ≤ i.toInt ∧ i.toInt < ((aN (f a) : Nat) : Int)) (hdg : decode cc pc = .ok (.aastore, 1))
    (kk : ∀ (f1 : Nat → va_E) (H1 : Heap) (locs1 : List Loc), (∀ b, b ≠ a → f1 b = f b) → FM kp L [(K, 0)] f f1 → WS G cI cJ cZ cD cR cT A kp L f1 s H1 locs1 → W p l e R s m args below meth c H1 locs1 cells slots Q (F0 m (pc + 1) ls rest)) : W p l e R s m args below meth c H locs cells slots Q (F0 m pc ls (.null :: .int i :: .ref a :: rest)) := by
  obtain ⟨hx, hb, -, -, hown, hts, -, hKK, -⟩ := E
  obtain ⟨hP, hD, hS, hTH⟩ := hW
  have h := th_arr hTH hr hK
  unfold okA at h
  rw [hT] at h
  obtain ⟨n, g, e1, e2, e3⟩ := h
  obtain ⟨q, hq⟩ := ws_at ⟨hP, hD, hS, hTH⟩ hr.1
  have hset : ∀ x, (va_pl L f).set q (a, x) = va_pl L (va_up f a x) := fun x => pl_set hD hr.1 hq
  have hq2 := hq
  rw [e1] at hq2
  obtain ⟨e4, e5⟩ := aQ_of e1
  rw [e5] at hi
  refine va_astqN (C := RX6) hx hb hKK.1 hP hD hS q 4 hq2 rfl (vin hi) hdg (fun H1 locs1 hP1 hD1 hS1 => ?_)
  rw [hset] at hP1 hD1
  refine kk _ H1 locs1 (fun b hb => va_up_ne _ _ hb) (fm_ast hr hK (fun k => by rw [e1]; rfl)) ⟨hP1, hD1, hS1, th_up hTH hr ⟨fun h2 => absurd h2 (by omega), fun _ => ?_⟩ hsk⟩
  unfold okA
  rw [hT]
  exact ⟨n, _, rfl, e2, aQ_up e3 (fun r hr => by cases hr)⟩
theorem r_astT (E : EV G cI cJ cZ cD cR cT A cc ret nL own p s m args meth c) (hW : WS G cI cJ cZ cD cR cT A kp L f s H locs) (hr : RK kp L a K) (hK : 100 ≤ K) (hT : aTag K = 5) (hsk : sKind K = false) (hb9 : RK kp L b 9) {i : Int32} (hi : 0 ≤ i.toInt ∧ i.toInt < ((aN (f a) : Nat) : Int)) (hdg : decode cc pc = .ok (.aastore, 1))
    (kk : ∀ (f1 : Nat → va_E) (H1 : Heap) (locs1 : List Loc), (∀ b, b ≠ a → f1 b = f b) → FM kp L [(K, 0)] f f1 → WS G cI cJ cZ cD cR cT A kp L f1 s H1 locs1 → W p l e R s m args below meth c H1 locs1 cells slots Q (F0 m (pc + 1) ls rest)) : W p l e R s m args below meth c H locs cells slots Q (F0 m pc ls (.ref b :: .int i :: .ref a :: rest)) := by
  obtain ⟨hx, hb, -, -, hown, hts, -, hKK, -⟩ := E
  obtain ⟨hP, hD, hS, hTH⟩ := hW
  have h := th_arr hTH hr hK
  unfold okA at h
  rw [hT] at h
  obtain ⟨n, g, e1, e2, e3⟩ := h
  obtain ⟨q, hq⟩ := ws_at ⟨hP, hD, hS, hTH⟩ hr.1
  have hset : ∀ x, (va_pl L f).set q (a, x) = va_pl L (va_up f a x) := fun x => pl_set hD hr.1 hq
  have hq2 := hq
  rw [e1] at hq2
  obtain ⟨e4, e5⟩ := aQ_of e1
  rw [e5] at hi
  obtain ⟨fs, b1, -, -⟩ := th_obj hTH hb9 (by decide)
  obtain ⟨qb, hqb⟩ := ws_at ⟨hP, hD, hS, hTH⟩ hb9.1
  rw [b1] at hqb
  refine va_astq (r := (RX9, TX9, 10)) hx hb hKK.1 hP hD hS q 5 qb 9 hq2 rfl hqb rfl (vin hi) hdg (fun H1 locs1 hP1 hD1 hS1 => ?_)
  rw [hset] at hP1 hD1
  refine kk _ H1 locs1 (fun b hb => va_up_ne _ _ hb) (fm_ast hr hK (fun k => by rw [e1]; rfl)) ⟨hP1, hD1, hS1, th_up hTH hr ⟨fun h2 => absurd h2 (by omega), fun _ => ?_⟩ hsk⟩
  unfold okA
  rw [hT]
  exact ⟨n, _, rfl, e2, aQ_up e3 (fun r hr => by cases hr; exact hb9)⟩
theorem r_astTN (E : EV G cI cJ cZ cD cR cT A cc ret nL own p s m args meth c) (hW : WS G cI cJ cZ cD cR cT A kp L f s H locs) (hr : RK kp L a K) (hK : 100 ≤ K) (hT : aTag K = 5) (hsk : sKind K = false) {i : Int32} (hi : 0 ≤ i.toInt ∧ i.toInt < ((aN (f a) : Nat) : Int)) (hdg : decode cc pc = .ok (.aastore, 1))
    (kk : ∀ (f1 : Nat → va_E) (H1 : Heap) (locs1 : List Loc), (∀ b, b ≠ a → f1 b = f b) → FM kp L [(K, 0)] f f1 → WS G cI cJ cZ cD cR cT A kp L f1 s H1 locs1 → W p l e R s m args below meth c H1 locs1 cells slots Q (F0 m (pc + 1) ls rest)) : W p l e R s m args below meth c H locs cells slots Q (F0 m pc ls (.null :: .int i :: .ref a :: rest)) := by
  obtain ⟨hx, hb, -, -, hown, hts, -, hKK, -⟩ := E
  obtain ⟨hP, hD, hS, hTH⟩ := hW
  have h := th_arr hTH hr hK
  unfold okA at h
  rw [hT] at h
  obtain ⟨n, g, e1, e2, e3⟩ := h
  obtain ⟨q, hq⟩ := ws_at ⟨hP, hD, hS, hTH⟩ hr.1
  have hset : ∀ x, (va_pl L f).set q (a, x) = va_pl L (va_up f a x) := fun x => pl_set hD hr.1 hq
  have hq2 := hq
  rw [e1] at hq2
  obtain ⟨e4, e5⟩ := aQ_of e1
  rw [e5] at hi
  refine va_astqN (C := RX9) hx hb hKK.1 hP hD hS q 5 hq2 rfl (vin hi) hdg (fun H1 locs1 hP1 hD1 hS1 => ?_)
  rw [hset] at hP1 hD1
  refine kk _ H1 locs1 (fun b hb => va_up_ne _ _ hb) (fm_ast hr hK (fun k => by rw [e1]; rfl)) ⟨hP1, hD1, hS1, th_up hTH hr ⟨fun h2 => absurd h2 (by omega), fun _ => ?_⟩ hsk⟩
  unfold okA
  rw [hT]
  exact ⟨n, _, rfl, e2, aQ_up e3 (fun r hr => by cases hr)⟩
end AST
