/-! methods that may draw (the bits of a NaN): over some record of draws -/
def DR (s S : State) : Prop := ∃ d : Drawn, s.drawn.sameBut d lw_cs ∧ S = s.setDrawn d
section DRAWS
variable {p : Program} {l : Launch} {e : Env} {R : Room} {s S : State} {m : MethodId} {args : Array Value} {below : List Frame} {meth : Method} {c : Code} {H : Heap} {locs : List Loc} {cells slots : Nat} {Q : State → Prop}
variable {cc : ByteArray} {pc : Nat} {ls : Array Slot} {rest st0 : List Value} {G : va_G} {A : Nat → Prop} {cI cJ cZ cD cR cT : ClassId} {ret rety : Option FieldType} {nL : Nat} {own : String} {kp : Nat → Nat} {L : List Nat} {f : Nat → va_E} {a K ci k index : Nat} {C : String} {T : u_T} {N : Nat}
variable {po : Option Value → (Nat → va_E) → Prop} {mc ms : Nat} {y : MethodName} {bytes : ByteArray} {maxL n : Nat} {rm : Room} {As : List Value}
theorem ev_d {d d' : Drawn} (E : EV G cI cJ cZ cD cR cT A cc ret nL own p (s.setDrawn d) m args meth c) : EV G cI cJ cZ cD cR cT A cc ret nL own p (s.setDrawn d') m args meth c := by
  obtain ⟨h1, h2, h3, h4, h5, h6, h7, h8, h9⟩ := E
  refine ⟨h1, h2, h3, h4, h5, fun w hw => ?_, h7, h8, h9⟩
  have z := h6 w hw
  rw [Cond.before_setDrawn] at z ⊢
  exact z
theorem ws_d {d d' : Drawn} (hW : WS G cI cJ cZ cD cR cT A kp L f (s.setDrawn d) H locs) : WS G cI cJ cZ cD cR cT A kp L f (s.setDrawn d') H locs := hW
theorem dw_dmul (E : EV G cI cJ cZ cD cR cT A cc ret nL own p S m args meth c) (hdr : DR s S) (hW : WS G cI cJ cZ cD cR cT A kp L f S H locs) {x y : UInt64} (hdg : decode cc pc = .ok (.dmul, 1)) (kk : ∀ (r : UInt64) (S : State), EV G cI cJ cZ cD cR cT A cc ret nL own p S m args meth c → DR s S → WS G cI cJ cZ cD cR cT A kp L f S H locs → W p l e R S m args below meth c H locs cells slots Q (F0 m (pc + 1) ls (.double r :: rest))) : W p l e R S m args below meth c H locs cells slots Q (F0 m pc ls (.double y :: .double x :: rest)) := by
  obtain ⟨d, hd, rfl⟩ := hdr
  obtain ⟨hx, hb, -⟩ := id E
  exact lv_dmul_any hd lw_bits hx hb hdg (fun r d' _ hd' => kk r _ (ev_d E) ⟨d', hd', rfl⟩ (ws_d hW))
theorem dw_ddiv (E : EV G cI cJ cZ cD cR cT A cc ret nL own p S m args meth c) (hdr : DR s S) (hW : WS G cI cJ cZ cD cR cT A kp L f S H locs) {x y : UInt64} (hdg : decode cc pc = .ok (.ddiv, 1)) (kk : ∀ (r : UInt64) (S : State), EV G cI cJ cZ cD cR cT A cc ret nL own p S m args meth c → DR s S → WS G cI cJ cZ cD cR cT A kp L f S H locs → W p l e R S m args below meth c H locs cells slots Q (F0 m (pc + 1) ls (.double r :: rest))) : W p l e R S m args below meth c H locs cells slots Q (F0 m pc ls (.double y :: .double x :: rest)) := by
  obtain ⟨d, hd, rfl⟩ := hdr
  obtain ⟨hx, hb, -⟩ := id E
  exact lv_ddiv_any hd lw_bits hx hb hdg (fun r d' _ hd' => kk r _ (ev_d E) ⟨d', hd', rfl⟩ (ws_d hW))
theorem dw_dadd (E : EV G cI cJ cZ cD cR cT A cc ret nL own p S m args meth c) (hdr : DR s S) (hW : WS G cI cJ cZ cD cR cT A kp L f S H locs) {x y : UInt64} (hdg : decode cc pc = .ok (.dadd, 1)) (kk : ∀ (r : UInt64) (S : State), EV G cI cJ cZ cD cR cT A cc ret nL own p S m args meth c → DR s S → WS G cI cJ cZ cD cR cT A kp L f S H locs → W p l e R S m args below meth c H locs cells slots Q (F0 m (pc + 1) ls (.double r :: rest))) : W p l e R S m args below meth c H locs cells slots Q (F0 m pc ls (.double y :: .double x :: rest)) := by
  obtain ⟨d, hd, rfl⟩ := hdr
  obtain ⟨hx, hb, -⟩ := id E
  exact lv_dadd_any hd lw_bits hx hb hdg (fun r d' _ hd' => kk r _ (ev_d E) ⟨d', hd', rfl⟩ (ws_d hW))
theorem callTD {av : Array Value} (E : EV G cI cJ cZ cD cR cT A cc ret nL own p S m args meth c) (hdr : DR s S) (hW : WS G cI cJ cZ cD cR cT A kp L f S H locs) (hrun : va_RunD lw_cs p l e R S m args below meth c H locs cells slots mc ms (F0 m pc ls st0) rest (QT po G cI cJ cZ cD cR cT (va_A (va_pl L f) H.size) kp L av) (va_A (va_pl L f) H.size))
    (kk : ∀ (v : Option Value) (f1 : Nat → va_E) (S : State) (H1 : Heap) (locs1 : List Loc), po v f1 → EV G cI cJ cZ cD cR cT A cc ret nL own p S m args meth c → DR s S → WS G cI cJ cZ cD cR cT A kp L f1 S H1 locs1 → W p l e R S m args below meth c H1 locs1 (cells + mc) (slots + ms) Q (F0 m (pc + 3) ls (v.toList ++ rest))) : W p l e R S m args below meth c H locs cells slots Q (F0 m pc ls st0) := by
  obtain ⟨d, hd, rfl⟩ := hdr
  have hA := E.2.2.2.2.2.2.2.2
  obtain ⟨hP, hD, hS, hTH⟩ := hW
  have hF : ∀ q : Nat, va_A (va_pl L f) H.size q → A q := fun q h => by
    rcases h with ⟨k, x, hk⟩ | h
    · exact hD.2 k _ hk
    · exact hA q (Nat.le_trans hS.1 h)
  intro T hT X
  obtain ⟨v, st₀, t, T', Lo, d', hd', h0, X', hL, e1, e2, ⟨⟨v', f1, hv, hpo, hTH1, hP1, hD1⟩, hz, hk⟩, st⟩ := hrun T hT X
  cases hv
  rw [h0] at hz hk
  obtain ⟨t2, a1, b1⟩ := kk v f1 (s.setDrawn d') T'.heap (locs ++ Lo) hpo (ev_d E) ⟨d', hd.trans hd', rfl⟩ ⟨by rw [e1]; exact hP1, hD1.weaken (fun k q _ h => hF q.1 h), ⟨Nat.le_trans hS.1 (by rw [e1]; exact hz), fun x h1 h2 => by rw [e1, hk x (Nat.lt_of_lt_of_le h1 hS.1) (fun z => h2 (hF x z))]; exact hS.2.1 x h1 h2, fun x hx => by
      rcases List.mem_append.mp hx with h | h
      · exact hS.2.2 x h
      · exact hF _ (hL x h)⟩, hTH1⟩ T' rfl X'
  exact ⟨t2, st t2 a1, b1⟩
theorem t_callVD (E : EV G cI cJ cZ cD cR cT A cc ret nL own p S m args meth c) (hdr : DR s S) (hW : WS G cI cJ cZ cD cR cT A kp L f S H locs) {b : Nat} (hM : MetD lw_cs l y (Cond.code y bytes maxL rety :: wTab) rm (va_Pc (.ref b :: As) (PreW G (tys6 cI cJ cZ cD cR cT) (va_pl L f) H.size)) (QT po G cI cJ cZ cD cR cT (va_A (va_pl L f) H.size) kp L) 0 0 (va_A (va_pl L f) H.size))
    (hr : RK kp L b ci) (hci : ci < 100) (hcl : vwCl[ci]? = some (C, T, N)) (wk : Cond.code y bytes maxL rety ∈ wTab ∧ Cond.initialized y.cls ∈ wTab ∧ Cond.instanceMethod y ∈ wTab ∧ Cond.selects C y y ∈ wTab ∧ (y.cls ≠ "java/lang/invoke/MethodHandle" ∧ y.cls ≠ "java/lang/invoke/VarHandle" ∧ (parseMethodDescriptor y.desc).map (fun d => d.parameters.length) = some n)) (hl : Cond.methodLink own index y ∈ wTab)
    (hn : As.length = n) (hR : rm.frames + 1 ≤ R.frames ∧ 8 + (maxL + 11) + rm.locals ≤ R.locals) (hrm : rm.cells = 0 ∧ rm.slots = 0)
    (hsize : ls.size = nL) (hst0 : st0 = As.reverse ++ .ref b :: rest) (hw : (rest.map fun v => v.category).sum ≤ 8) (hdg : decode cc pc = .ok (.invokevirtual index, 3)) (hf : cells ≤ R.cells ∧ slots ≤ R.slots)
    (kk : ∀ (v : Option Value) (f1 : Nat → va_E) (S : State) (H1 : Heap) (locs1 : List Loc), po v f1 → EV G cI cJ cZ cD cR cT A cc ret nL own p S m args meth c → DR s S → WS G cI cJ cZ cD cR cT A kp L f1 S H1 locs1 → W p l e R S m args below meth c H1 locs1 cells slots Q (F0 m (pc + 3) ls (v.toList ++ rest))) : W p l e R S m args below meth c H locs cells slots Q (F0 m pc ls st0) := by
  obtain ⟨hx, hb, -, hml, hown, hts, -, hKK, hA⟩ := id E
  obtain ⟨fs, e1, -, -⟩ := th_obj hW.2.2.2 hr hci
  obtain ⟨q, hq⟩ := ws_at hW hr.1
  rw [e1] at hq
  have hpv : PreV S H C b (va_Pc (.ref b :: As) (PreW G (tys6 cI cJ cZ cD cR cT) (va_pl L f) H.size)) As := ⟨preW_blind, va_recv hKK.1 hW.1 hcl hq, (pre_S (As := .ref b :: As) hKK hW).2⟩
  exact callTD (mc := 0) (ms := 0) E hdr hW (va_runV_D ⟨hx, hb, hml, hown, hts⟩ hM ⟨callB_of As.length hts (good_y tw_good wk.1) rfl hrm.1 hrm.2 (hts _ wk.2.1) (hts _ hl) (by rw [hn]; exact wk.2.2.2.2) hR, hts _ wk.2.2.1, hts _ wk.2.2.2.1⟩ hpv rfl rfl hsize hst0 (lv_room hw) hdg hf) kk
theorem t_callSD (E : EV G cI cJ cZ cD cR cT A cc ret nL own p S m args meth c) (hdr : DR s S) (hW : WS G cI cJ cZ cD cR cT A kp L f S H locs) (hM : MetD lw_cs l y (Cond.code y bytes maxL rety :: wTab) rm (va_Pc As (PreW G (tys6 cI cJ cZ cD cR cT) (va_pl L f) H.size)) (QT po G cI cJ cZ cD cR cT (va_A (va_pl L f) H.size) kp L) 0 0 (va_A (va_pl L f) H.size))
    (wk : Cond.code y bytes maxL rety ∈ wTab ∧ Cond.initialized y.cls ∈ wTab ∧ Cond.static y ∈ wTab ∧ (y.cls ≠ "java/lang/invoke/MethodHandle" ∧ y.cls ≠ "java/lang/invoke/VarHandle" ∧ (parseMethodDescriptor y.desc).map (fun d => d.parameters.length) = some n)) (hl : Cond.methodLink own index y ∈ wTab)
    (hn : As.length = n) (hR : rm.frames + 1 ≤ R.frames ∧ 8 + (maxL + 11) + rm.locals ≤ R.locals) (hrm : rm.cells = 0 ∧ rm.slots = 0)
    (hsize : ls.size = nL) (hst0 : st0 = As.reverse ++ rest) (hw : (rest.map fun v => v.category).sum ≤ 8) (hdg : decode cc pc = .ok (.invokestatic index, 3)) (hf : cells ≤ R.cells ∧ slots ≤ R.slots)
    (kk : ∀ (v : Option Value) (f1 : Nat → va_E) (S : State) (H1 : Heap) (locs1 : List Loc), po v f1 → EV G cI cJ cZ cD cR cT A cc ret nL own p S m args meth c → DR s S → WS G cI cJ cZ cD cR cT A kp L f1 S H1 locs1 → W p l e R S m args below meth c H1 locs1 cells slots Q (F0 m (pc + 3) ls (v.toList ++ rest))) : W p l e R S m args below meth c H locs cells slots Q (F0 m pc ls st0) := by
  obtain ⟨hx, hb, -, hml, hown, hts, -, hKK, hA⟩ := id E
  exact callTD (mc := 0) (ms := 0) E hdr hW (va_runS_D ⟨hx, hb, hml, hown, hts⟩ hM ⟨callB_of As.length hts (good_y tw_good wk.1) rfl hrm.1 hrm.2 (hts _ wk.2.1) (hts _ hl) (by rw [hn]; exact wk.2.2.2) hR, hts _ wk.2.2.1⟩ (pre_S hKK hW) rfl rfl hsize hst0 (lv_room hw) hdg hf) kk
/-- ends -/
theorem eD_I {v : Int32} (E : EV G cI cJ cZ cD cR cT A cc ret nL own p S m args meth c) (hdr : DR s S) (hW : WS G cI cJ cZ cD cR cT A kp L f S H locs) (hret : ret = some .int) (hpo : po (some (.int v)) f) (hdg : decode cc pc = .ok (.ireturn, 1)) : W p l e R S m args below meth c H locs cells slots (MQD lw_cs below (QT po G cI cJ cZ cD cR cT A kp L) args s cells slots A) (F0 m pc ls [.int v]) := by
  obtain ⟨d, hd, rfl⟩ := hdr
  exact W.endD hd (e_I E hW hret hpo hdg)
theorem eD_Z {v : Int32} (E : EV G cI cJ cZ cD cR cT A cc ret nL own p S m args meth c) (hdr : DR s S) (hW : WS G cI cJ cZ cD cR cT A kp L f S H locs) (hret : ret = some .boolean) (h01 : 0 ≤ v.toInt ∧ v.toInt ≤ 1) (hpo : po (some (.int v)) f) (hdg : decode cc pc = .ok (.ireturn, 1)) : W p l e R S m args below meth c H locs cells slots (MQD lw_cs below (QT po G cI cJ cZ cD cR cT A kp L) args s cells slots A) (F0 m pc ls [.int v]) := by
  obtain ⟨d, hd, rfl⟩ := hdr
  exact W.endD hd (e_Z E hW hret h01 hpo hdg)
theorem eD_V (E : EV G cI cJ cZ cD cR cT A cc ret nL own p S m args meth c) (hdr : DR s S) (hW : WS G cI cJ cZ cD cR cT A kp L f S H locs) (hret : ret = none) (hpo : po none f) (hdg : decode cc pc = .ok (.return_, 1)) : W p l e R S m args below meth c H locs cells slots (MQD lw_cs below (QT po G cI cJ cZ cD cR cT A kp L) args s cells slots A) (F0 m pc ls []) := by
  obtain ⟨d, hd, rfl⟩ := hdr
  exact W.endD hd (e_V E hW hret hpo hdg)
theorem e_D {v : UInt64} (E : EV G cI cJ cZ cD cR cT A cc ret nL own p s m args meth c) (hW : WS G cI cJ cZ cD cR cT A kp L f s H locs) (hret : ret = some .double) (hpo : po (some (.double v)) f) (hdg : decode cc pc = .ok (.dreturn, 1)) : W p l e R s m args below meth c H locs cells slots (MQ below (QT po G cI cJ cZ cD cR cT A kp L) args s cells slots A) (F0 m pc ls [.double v]) := by
  obtain ⟨hx, hb, hr, hml, hown, hts, hlocks, hKK, hA⟩ := E
  exact W.dret (v := v) hx hb (hr.trans hret) (fun t ht _ => ⟨⟨_, f, rfl, hpo, hW.2.2.2, by rw [ht]; exact hW.1, hW.2.1⟩, hW.2.2.1.F ht⟩) hW.2.2.1.2.2 hdg hlocks
theorem eD_D {v : UInt64} (E : EV G cI cJ cZ cD cR cT A cc ret nL own p S m args meth c) (hdr : DR s S) (hW : WS G cI cJ cZ cD cR cT A kp L f S H locs) (hret : ret = some .double) (hpo : po (some (.double v)) f) (hdg : decode cc pc = .ok (.dreturn, 1)) : W p l e R S m args below meth c H locs cells slots (MQD lw_cs below (QT po G cI cJ cZ cD cR cT A kp L) args s cells slots A) (F0 m pc ls [.double v]) := by
  obtain ⟨d, hd, rfl⟩ := hdr
  exact W.endD hd (e_D E hW hret hpo hdg)
end DRAWS
/-- a drawing method's contract out of the walk of its body -/
theorem metTD {l : Launch} {y : MethodName} {rm : Room} {As : List Value} {G : va_G} {cI cJ cZ cD cR cT : ClassId} {kp : Nat → Nat} {L : List Nat} {f : Nat → va_E} {sz : Nat} {po : Option Value → (Nat → va_E) → Prop} {mc ms : Nat} {cc : ByteArray} {maxL : Nat} {ret : Option FieldType}
    (hy : plainName y.cls = true) (hL : (lg_sl As).length ≤ maxL) (hTH : TH cI cJ cZ cD cR cT kp L f)
    (body : ∀ (p : Program) (e : Env) (s S : State) (m : MethodId) (below : List Frame) (meth : Method) (c : Code) (A : Nat → Prop) (ls : Array Slot), EV G cI cJ cZ cD cR cT A cc ret maxL y.cls p S m As.toArray meth c → DR s S → WS G cI cJ cZ cD cR cT A kp L f S s.heap [] → lv_has ls maxL (lv_args 0 As) → W p l e rm S m As.toArray below meth c s.heap [] 0 0 (MQD lw_cs below (QT po G cI cJ cZ cD cR cT A kp L) As.toArray s mc ms A) (F0 m 0 ls [])) :
    MetD lw_cs l y (Cond.code y cc maxL ret :: wTab) rm (va_Pc As (PreW G (tys6 cI cJ cZ cD cR cT) (va_pl L f) sz)) (QT po G cI cJ cZ cD cR cT (va_A (va_pl L f) sz) kp L) mc ms (va_A (va_pl L f) sz) := by
  refine MetD.ofW (cc := cc) (maxL := maxL) (ret := ret) hy rfl ?_
  intro p e s m args below meth c s₁ B hml hv hd0
  obtain ⟨rfl, hsz, hP, hK, hD0⟩ := hv
  have hts := atoms_spec (ws := Cond.code y cc maxL ret :: wTab) B.pre
  subst hsz
  have hl := lv_entry As (n := maxL) hL
  rw [lg_entry_eq]
  have E0 : EV G cI cJ cZ cD cR cT (va_A (va_pl L f) s.heap.size) cc ret maxL y.cls p (s.setDrawn s.drawn) m As.toArray meth c := ⟨B.exec, B.bytes, B.returns, hml, findClass_of_methodNamed B.named, fun w hw => (Cond.before_setDrawn _ _ _ _).trans (hts w (List.mem_cons_of_mem _ hw)), B.notSynchronized, hK, fun q h => Or.inr h⟩
  exact body p e s (s.setDrawn s.drawn) m below meth c (va_A (va_pl L f) s.heap.size) _ E0 ⟨_, hd0, rfl⟩ ⟨hP, hD0.self, va_S.rf, hTH⟩ hl
