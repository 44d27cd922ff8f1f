/-! the one string constant: the words of a text -/
/-- the string q, its bytes v, and what String's methods read -/
def SV (q v n : Nat) (byt : Nat → Int32) (w : Option Nat) (A : Nat → Prop) (U : State) (H : Heap) : Prop :=
  va_O "java/lang/String" q A U H ∧ va_OF "java/lang/String" "coder" "B" (.int 0) q A U H ∧ va_OF "java/lang/String" "value" "[B" (.ref v) q A U H ∧ va_T .byte v n (fun j => .int (byt j)) A U H ∧ va_Z "java/lang/String" "COMPACT_STRINGS" "Z" (.int 1) A U H ∧ va_Z "jdk/internal/util/Preconditions" "SIOOBE_FORMATTER" "Ljava/util/function/BiFunction;" (va_rf w) A U H
/-- with its place among the constants of the Reader -/
def SE : Type := {x : Nat × Nat × Nat × (Nat → Int32) × Option Nat × String // x.2.2.1 < 65536}
def SE.q (σ : SE) : Nat := σ.val.1
def SE.v (σ : SE) : Nat := σ.val.2.1
def SE.n (σ : SE) : Nat := σ.val.2.2.1
def SE.byt (σ : SE) : Nat → Int32 := σ.val.2.2.2.1
def SE.w (σ : SE) : Option Nat := σ.val.2.2.2.2.1
def SE.tx (σ : SE) : String := σ.val.2.2.2.2.2
theorem SE.hn (σ : SE) : σ.n < 65536 := σ.property
def SX (σ : SE) (A : Nat → Prop) (U : State) (H : Heap) : Prop := SV σ.q σ.v σ.n σ.byt σ.w A U H ∧ vk_R RX5 113 σ.tx σ.q U
section STR0
variable {q v n : Nat} {w : Option Nat} {byt : Nat → Int32} {A B : Nat → Prop} {u U : State} {H H1 : Heap} {σ : SE}
theorem SV.moved (hvm : u.vm.Alike U.vm) (h : SV q v n byt w A u H) : SV q v n byt w A U H := ⟨va_O.moved hvm h.1, va_OF.moved hvm h.2.1, va_OF.moved hvm h.2.2.1, va_T.moved hvm h.2.2.2.1, va_Z.moved hvm h.2.2.2.2.1, va_Z.moved hvm h.2.2.2.2.2⟩
theorem SV.kept (h : SV q v n byt w A U H) (hq : ∀ a : Nat, a < H.size → ¬ A a → H1[a]? = H[a]?) : SV q v n byt w A U H1 := ⟨va_O.kept h.1 hq, va_OF.kept h.2.1 hq, va_OF.kept h.2.2.1 hq, va_T.kept h.2.2.2.1 hq, va_Z.kept h.2.2.2.2.1 hq, va_Z.kept h.2.2.2.2.2 hq⟩
theorem SV.narrow (h : SV q v n byt w A U H) (hAB : ∀ a, B a → A a) : SV q v n byt w B U H := ⟨va_O.narrow h.1 hAB, va_OF.narrow h.2.1 hAB, va_OF.narrow h.2.2.1 hAB, va_T.narrow h.2.2.2.1 hAB, va_Z.narrow h.2.2.2.2.1 hAB, va_Z.narrow h.2.2.2.2.2 hAB⟩
end STR0
def PreWS (σ : SE) (G : va_G) (ty : List (ClassId × FieldType)) (ws : va_W) (sz : Nat) : State → Prop := fun U => PreW G ty ws sz U ∧ SX σ (va_A ws sz) U U.heap
theorem preWS_blind {σ : SE} {G : va_G} {ty : List (ClassId × FieldType)} {ws : va_W} {sz : Nat} {As : List Value} : FrameBlind (va_Pc As (PreWS σ G ty ws sz)) := fun a U g mk q => by
  obtain ⟨q0, q1, q2, q3⟩ := q
  exact ⟨q0, (preW_blind (As := As) a U g mk ⟨q0, q1⟩).2, SV.moved (u := U) (U := U.calling g mk a) (Vm.Alike.refl U.vm) q2, vk_R.same (u := U) rfl q3⟩
section STR1
variable {p : Program} {l : Launch} {e : Env} {R : Room} {s : State} {m : MethodId} {args : Array Value} {below : List Frame} {meth : Method} {c : Code} {H : Heap} {locs : List Loc} {cells slots : Nat} {Q : State → Prop}
variable {cc : ByteArray} {pc : Nat} {ls : Array Slot} {rest st0 : List Value} {G : va_G} {A : Nat → Prop} {cI cJ cZ cD cR cT : ClassId} {ret rety : Option FieldType} {nL : Nat} {own : String} {kp : Nat → Nat} {L : List Nat} {f : Nat → va_E} {a K ci k index : Nat} {C : String} {T : u_T} {N : Nat}
variable {po : Option Value → (Nat → va_E) → Prop} {y : MethodName} {bytes : ByteArray} {maxL n : Nat} {rm : Room} {As : List Value} {σ : SE}
theorem hF_of (hA : ∀ q : Nat, s.heap.size ≤ q → A q) (hW : WS G cI cJ cZ cD cR cT A kp L f s H locs) : ∀ q : Nat, va_A (va_pl L f) H.size q → A q := fun q h => by
  rcases h with ⟨k, x, hk⟩ | h
  · exact hW.2.1.2 k _ hk
  · exact hA q (Nat.le_trans hW.2.2.1.1 h)
theorem pre_SS (E : EV G cI cJ cZ cD cR cT A cc ret nL own p s m args meth c) (hSX : SX σ A s s.heap) (hW : WS G cI cJ cZ cD cR cT A kp L f s H locs) : PreS s H (va_Pc As (PreWS σ G (tys6 cI cJ cZ cD cR cT) (va_pl L f) H.size)) As :=
  ⟨preWS_blind, fun U hU hw => ⟨rfl, ((pre_S (As := As) E.2.2.2.2.2.2.2.1 hW).2 U hU hw).2, by
    rw [hU]
    exact SV.moved hw.alike ((hSX.1.kept hW.2.2.1.2.1).narrow (hF_of E.2.2.2.2.2.2.2.2 hW)), vk_R.warm hw hSX.2⟩⟩
theorem t_callSS (E : EV G cI cJ cZ cD cR cT A cc ret nL own p s m args meth c) (hSX : SX σ A s s.heap) (hW : WS G cI cJ cZ cD cR cT A kp L f s H locs) (hM : Met l y (Cond.code y bytes maxL rety :: wTab) rm (va_Pc As (PreWS σ G (tys6 cI cJ cZ cD cR cT) (va_pl L f) H.size)) (QT po G cI cJ cZ cD cR cT (va_A (va_pl L f) H.size) kp L) 0 0 (va_A (va_pl L f) H.size))
    (wk : Cond.code y bytes maxL rety ∈ wTab ∧ Cond.initialized y.cls ∈ wTab ∧ Cond.static y ∈ wTab ∧ (y.cls ≠ "java/lang/invoke/MethodHandle" ∧ y.cls ≠ "java/lang/invoke/VarHandle" ∧ (parseMethodDescriptor y.desc).map (fun d => d.parameters.length) = some n)) (hl : Cond.methodLink own index y ∈ wTab)
    (hn : As.length = n) (hR : rm.frames + 1 ≤ R.frames ∧ 8 + (maxL + 11) + rm.locals ≤ R.locals) (hrm : rm.cells = 0 ∧ rm.slots = 0)
    (hsize : ls.size = nL) (hst0 : st0 = As.reverse ++ rest) (hw : (rest.map fun v => v.category).sum ≤ 8) (hdg : decode cc pc = .ok (.invokestatic index, 3)) (hf : cells ≤ R.cells ∧ slots ≤ R.slots)
    (kk : ∀ (v : Option Value) (f1 : Nat → va_E) (H1 : Heap) (locs1 : List Loc), po v f1 → WS G cI cJ cZ cD cR cT A kp L f1 s H1 locs1 → W p l e R s m args below meth c H1 locs1 cells slots Q (F0 m (pc + 3) ls (v.toList ++ rest))) : W p l e R s m args below meth c H locs cells slots Q (F0 m pc ls st0) := by
  obtain ⟨hx, hb, -, hml, hown, hts, -, hKK, hA⟩ := id E
  exact callT (mc := 0) (ms := 0) hA hW (va_runS ⟨hx, hb, hml, hown, hts⟩ hM ⟨callB_of As.length hts (good_y tw_good wk.1) rfl hrm.1 hrm.2 (hts _ wk.2.1) (hts _ hl) (by rw [hn]; exact wk.2.2.2) hR, hts _ wk.2.2.1⟩ (pre_SS E hSX hW) rfl rfl hsize hst0 (lv_room hw) hdg hf) kk
theorem t_callVS (E : EV G cI cJ cZ cD cR cT A cc ret nL own p s m args meth c) (hSX : SX σ A s s.heap) (hW : WS G cI cJ cZ cD cR cT A kp L f s H locs) {b : Nat} (hM : Met l y (Cond.code y bytes maxL rety :: wTab) rm (va_Pc (.ref b :: As) (PreWS σ G (tys6 cI cJ cZ cD cR cT) (va_pl L f) H.size)) (QT po G cI cJ cZ cD cR cT (va_A (va_pl L f) H.size) kp L) 0 0 (va_A (va_pl L f) H.size))
    (hr : RK kp L b ci) (hci : ci < 100) (hcl : vwCl[ci]? = some (C, T, N)) (wk : Cond.code y bytes maxL rety ∈ wTab ∧ Cond.initialized y.cls ∈ wTab ∧ Cond.instanceMethod y ∈ wTab ∧ Cond.selects C y y ∈ wTab ∧ (y.cls ≠ "java/lang/invoke/MethodHandle" ∧ y.cls ≠ "java/lang/invoke/VarHandle" ∧ (parseMethodDescriptor y.desc).map (fun d => d.parameters.length) = some n)) (hl : Cond.methodLink own index y ∈ wTab)
    (hn : As.length = n) (hR : rm.frames + 1 ≤ R.frames ∧ 8 + (maxL + 11) + rm.locals ≤ R.locals) (hrm : rm.cells = 0 ∧ rm.slots = 0)
    (hsize : ls.size = nL) (hst0 : st0 = As.reverse ++ .ref b :: rest) (hw : (rest.map fun v => v.category).sum ≤ 8) (hdg : decode cc pc = .ok (.invokevirtual index, 3)) (hf : cells ≤ R.cells ∧ slots ≤ R.slots)
    (kk : ∀ (v : Option Value) (f1 : Nat → va_E) (H1 : Heap) (locs1 : List Loc), po v f1 → WS G cI cJ cZ cD cR cT A kp L f1 s H1 locs1 → W p l e R s m args below meth c H1 locs1 cells slots Q (F0 m (pc + 3) ls (v.toList ++ rest))) : W p l e R s m args below meth c H locs cells slots Q (F0 m pc ls st0) := by
  obtain ⟨hx, hb, -, hml, hown, hts, -, hKK, hA⟩ := id E
  obtain ⟨fs, e1, -, -⟩ := th_obj hW.2.2.2 hr hci
  obtain ⟨q, hq⟩ := ws_at hW hr.1
  rw [e1] at hq
  have hpv : PreV s H C b (va_Pc (.ref b :: As) (PreWS σ G (tys6 cI cJ cZ cD cR cT) (va_pl L f) H.size)) As := ⟨preWS_blind, va_recv hKK.1 hW.1 hcl hq, (pre_SS (As := .ref b :: As) E hSX hW).2⟩
  exact callT (mc := 0) (ms := 0) hA hW (va_runV ⟨hx, hb, hml, hown, hts⟩ hM ⟨callB_of As.length hts (good_y tw_good wk.1) rfl hrm.1 hrm.2 (hts _ wk.2.1) (hts _ hl) (by rw [hn]; exact wk.2.2.2.2) hR, hts _ wk.2.2.1, hts _ wk.2.2.2.1⟩ hpv rfl rfl hsize hst0 (lv_room hw) hdg hf) kk
/-- a method of the string itself -/
theorem t_callQS (E : EV G cI cJ cZ cD cR cT A cc ret nL own p s m args meth c) (hSX : SX σ A s s.heap) (hW : WS G cI cJ cZ cD cR cT A kp L f s H locs) (hM : Met l y (Cond.code y bytes maxL rety :: wTab) rm (va_Pc (.ref σ.q :: As) (PreWS σ G (tys6 cI cJ cZ cD cR cT) (va_pl L f) H.size)) (QT po G cI cJ cZ cD cR cT (va_A (va_pl L f) H.size) kp L) 0 0 (va_A (va_pl L f) H.size))
    (wk : Cond.code y bytes maxL rety ∈ wTab ∧ Cond.initialized y.cls ∈ wTab ∧ Cond.instanceMethod y ∈ wTab ∧ Cond.selects "java/lang/String" y y ∈ wTab ∧ (y.cls ≠ "java/lang/invoke/MethodHandle" ∧ y.cls ≠ "java/lang/invoke/VarHandle" ∧ (parseMethodDescriptor y.desc).map (fun d => d.parameters.length) = some n)) (hl : Cond.methodLink own index y ∈ wTab)
    (hn : As.length = n) (hR : rm.frames + 1 ≤ R.frames ∧ 8 + (maxL + 11) + rm.locals ≤ R.locals) (hrm : rm.cells = 0 ∧ rm.slots = 0)
    (hsize : ls.size = nL) (hst0 : st0 = As.reverse ++ .ref σ.q :: rest) (hw : (rest.map fun v => v.category).sum ≤ 8) (hdg : decode cc pc = .ok (.invokevirtual index, 3)) (hf : cells ≤ R.cells ∧ slots ≤ R.slots)
    (kk : ∀ (v : Option Value) (f1 : Nat → va_E) (H1 : Heap) (locs1 : List Loc), po v f1 → WS G cI cJ cZ cD cR cT A kp L f1 s H1 locs1 → W p l e R s m args below meth c H1 locs1 cells slots Q (F0 m (pc + 3) ls (v.toList ++ rest))) : W p l e R s m args below meth c H locs cells slots Q (F0 m pc ls st0) := by
  obtain ⟨hx, hb, -, hml, hown, hts, -, hKK, hA⟩ := id E
  obtain ⟨cell, h1, h2, h3, -⟩ := va_O.kept hSX.1.1 hW.2.2.1.2.1
  have hpv : PreV s H "java/lang/String" σ.q (va_Pc (.ref σ.q :: As) (PreWS σ G (tys6 cI cJ cZ cD cR cT) (va_pl L f) H.size)) As := ⟨preWS_blind, ⟨cell, h1, h2, h3⟩, (pre_SS (As := .ref σ.q :: As) E hSX hW).2⟩
  exact callT (mc := 0) (ms := 0) hA hW (va_runV ⟨hx, hb, hml, hown, hts⟩ hM ⟨callB_of As.length hts (good_y tw_good wk.1) rfl hrm.1 hrm.2 (hts _ wk.2.1) (hts _ hl) (by rw [hn]; exact wk.2.2.2.2) hR, hts _ wk.2.2.1, hts _ wk.2.2.2.1⟩ hpv rfl rfl hsize hst0 (lv_room hw) hdg hf) kk
/-- what String's methods read -/
theorem s_ldc (E : EV G cI cJ cZ cD cR cT A cc ret nL RX5 p s m args meth c) (hSX : SX σ A s s.heap) (hdg : decode cc pc = .ok (.ldc 113, 2)) (kk : W p l e R s m args below meth c H locs cells slots Q (F0 m (pc + 2) ls (.ref σ.q :: rest))) : W p l e R s m args below meth c H locs cells slots Q (F0 m pc ls rest) := by
  obtain ⟨hx, hb, -, hml, hown, -⟩ := id E
  exact va_ldcS hx hb hown hSX.2 hdg kk
theorem s_value (E : EV G cI cJ cZ cD cR cT A cc ret nL own p s m args meth c) (hSX : SX σ A s s.heap) (hW : WS G cI cJ cZ cD cR cT A kp L f s H locs) (hlk : Cond.fieldLink own index "java/lang/String" "value" "[B" ∈ wTab) (hdg : decode cc pc = .ok (.getfield index, 3)) (kk : W p l e R s m args below meth c H locs cells slots Q (F0 m (pc + 3) ls (.ref σ.v :: rest))) : W p l e R s m args below meth c H locs cells slots Q (F0 m pc ls (.ref σ.q :: rest)) := by
  obtain ⟨hx, hb, -, hml, hown, hts, -⟩ := id E
  exact vk_getf hx hb hSX.1.2.2.1 hW.2.2.1 hown (hts _ hlk) (fun _ h => h) hdg kk
theorem s_coder (E : EV G cI cJ cZ cD cR cT A cc ret nL own p s m args meth c) (hSX : SX σ A s s.heap) (hW : WS G cI cJ cZ cD cR cT A kp L f s H locs) (hlk : Cond.fieldLink own index "java/lang/String" "coder" "B" ∈ wTab) (hdg : decode cc pc = .ok (.getfield index, 3)) (kk : W p l e R s m args below meth c H locs cells slots Q (F0 m (pc + 3) ls (.int 0 :: rest))) : W p l e R s m args below meth c H locs cells slots Q (F0 m pc ls (.ref σ.q :: rest)) := by
  obtain ⟨hx, hb, -, hml, hown, hts, -⟩ := id E
  exact vk_getf hx hb hSX.1.2.1 hW.2.2.1 hown (hts _ hlk) (fun _ h => h) hdg kk
theorem s_compact (E : EV G cI cJ cZ cD cR cT A cc ret nL own p s m args meth c) (hSX : SX σ A s s.heap) (hW : WS G cI cJ cZ cD cR cT A kp L f s H locs) (hlk : Cond.fieldLink own index "java/lang/String" "COMPACT_STRINGS" "Z" ∈ wTab) (hdg : decode cc pc = .ok (.getstatic index, 3)) (kk : W p l e R s m args below meth c H locs cells slots Q (F0 m (pc + 3) ls (.int 1 :: rest))) : W p l e R s m args below meth c H locs cells slots Q (F0 m pc ls rest) := by
  obtain ⟨hx, hb, -, hml, hown, hts, -⟩ := id E
  exact va_gets hx hb hSX.1.2.2.2.2.1 hW.2.2.1 hown (hts _ hlk) (fun _ h => h) hdg kk
theorem s_fmt (E : EV G cI cJ cZ cD cR cT A cc ret nL own p s m args meth c) (hSX : SX σ A s s.heap) (hW : WS G cI cJ cZ cD cR cT A kp L f s H locs) (hlk : Cond.fieldLink own index "jdk/internal/util/Preconditions" "SIOOBE_FORMATTER" "Ljava/util/function/BiFunction;" ∈ wTab) (hdg : decode cc pc = .ok (.getstatic index, 3)) (kk : W p l e R s m args below meth c H locs cells slots Q (F0 m (pc + 3) ls (va_rf σ.w :: rest))) : W p l e R s m args below meth c H locs cells slots Q (F0 m pc ls rest) := by
  obtain ⟨hx, hb, -, hml, hown, hts, -⟩ := id E
  exact va_gets hx hb hSX.1.2.2.2.2.2 hW.2.2.1 hown (hts _ hlk) (fun _ h => h) hdg kk
theorem s_blen (E : EV G cI cJ cZ cD cR cT A cc ret nL own p s m args meth c) (hSX : SX σ A s s.heap) (hW : WS G cI cJ cZ cD cR cT A kp L f s H locs) (hdg : decode cc pc = .ok (.arraylength, 1)) (kk : ∀ y : Int32, y.toInt = ((σ.n : Nat) : Int) → W p l e R s m args below meth c H locs cells slots Q (F0 m (pc + 1) ls (.int y :: rest))) : W p l e R s m args below meth c H locs cells slots Q (F0 m pc ls (.ref σ.v :: rest)) := by
  obtain ⟨hx, hb, -, hml, hown, hts, -⟩ := id E
  have h := σ.hn
  exact va_tlen hx hb hSX.1.2.2.2.1 hW.2.2.1 rfl hdg (kk _ (nI_toInt (by omega)))
theorem s_bald (E : EV G cI cJ cZ cD cR cT A cc ret nL own p s m args meth c) (hSX : SX σ A s s.heap) (hW : WS G cI cJ cZ cD cR cT A kp L f s H locs) {i : Int32} (hi : 0 ≤ i.toInt ∧ i.toInt < ((σ.n : Nat) : Int)) (hdg : decode cc pc = .ok (.baload, 1)) (kk : ∀ y : Int32, W p l e R s m args below meth c H locs cells slots Q (F0 m (pc + 1) ls (.int y :: rest))) : W p l e R s m args below meth c H locs cells slots Q (F0 m pc ls (.int i :: .ref σ.v :: rest)) := by
  obtain ⟨hx, hb, -, hml, hown, hts, -⟩ := id E
  exact va_tb hx hb hSX.1.2.2.2.1 hW.2.2.1 (vin hi) rfl hdg (kk _)
/-- ends of a byte, of a char -/
theorem e_B0 (E : EV G cI cJ cZ cD cR cT A cc ret nL own p s m args meth c) (hW : WS G cI cJ cZ cD cR cT A kp L f s H locs) (hret : ret = some .byte) (hpo : po (some (.int 0)) f) (hdg : decode cc pc = .ok (.ireturn, 1)) : W p l e R s m args below meth c H locs cells slots (MQ below (QT po G cI cJ cZ cD cR cT A kp L) args s cells slots A) (F0 m pc ls [.int 0]) := by
  obtain ⟨hx, hb, hr, hml, hown, hts, hlocks, hKK, hA⟩ := E
  exact W.zret (v := 0) hx hb (hr.trans hret) rfl (fun t ht _ => ⟨⟨_, f, rfl, hpo, hW.2.2.2, by rw [ht]; exact hW.1, hW.2.1⟩, hW.2.2.1.F ht⟩) hW.2.2.1.2.2 hdg hlocks
theorem e_C {v : Int32} (E : EV G cI cJ cZ cD cR cT A cc ret nL own p s m args meth c) (hW : WS G cI cJ cZ cD cR cT A kp L f s H locs) (hret : ret = some .char) (hn : narrow .char (.int v) = .int v) (hpo : po (some (.int v)) f) (hdg : decode cc pc = .ok (.ireturn, 1)) : W p l e R s m args below meth c H locs cells slots (MQ below (QT po G cI cJ cZ cD cR cT A kp L) args s cells slots A) (F0 m pc ls [.int v]) := by
  obtain ⟨hx, hb, hr, hml, hown, hts, hlocks, hKK, hA⟩ := E
  exact W.zret (v := v) hx hb (hr.trans hret) hn (fun t ht _ => ⟨⟨_, f, rfl, hpo, hW.2.2.2, by rw [ht]; exact hW.1, hW.2.1⟩, hW.2.2.1.F ht⟩) hW.2.2.1.2.2 hdg hlocks
end STR1
/-- a string-reading method's contract out of the walk of its body -/
theorem metTS {l : Launch} {y : MethodName} {rm : Room} {As : List Value} {G : va_G} {cI cJ cZ cD cR cT : ClassId} {kp : Nat → Nat} {L : List Nat} {f : Nat → va_E} {sz : Nat} {po : Option Value → (Nat → va_E) → Prop} {mc ms : Nat} {cc : ByteArray} {maxL : Nat} {ret : Option FieldType} {σ : SE}
    (hy : plainName y.cls = true) (hL : (lg_sl As).length ≤ maxL) (hTH : TH cI cJ cZ cD cR cT kp L f)
    (body : ∀ (p : Program) (e : Env) (s : State) (m : MethodId) (below : List Frame) (meth : Method) (c : Code) (A : Nat → Prop) (ls : Array Slot), EV G cI cJ cZ cD cR cT A cc ret maxL y.cls p s m As.toArray meth c → SX σ A s s.heap → WS G cI cJ cZ cD cR cT A kp L f s s.heap [] → lv_has ls maxL (lv_args 0 As) → W p l e rm s m As.toArray below meth c s.heap [] 0 0 (MQ below (QT po G cI cJ cZ cD cR cT A kp L) As.toArray s mc ms A) (F0 m 0 ls [])) :
    Met l y (Cond.code y cc maxL ret :: wTab) rm (va_Pc As (PreWS σ G (tys6 cI cJ cZ cD cR cT) (va_pl L f) sz)) (QT po G cI cJ cZ cD cR cT (va_A (va_pl L f) sz) kp L) mc ms (va_A (va_pl L f) sz) := by
  refine Met.ofW (cc := cc) (maxL := maxL) (ret := ret) hy rfl ?_
  intro p e s m args below meth c s₁ B hml hv
  obtain ⟨rfl, ⟨hsz, hP, hK, hD0⟩, hSX⟩ := hv
  have hts := atoms_spec (ws := Cond.code y cc maxL ret :: wTab) B.pre
  subst hsz
  have hl := lv_entry As (n := maxL) hL
  rw [lg_entry_eq]
  exact body p e s m below meth c (va_A (va_pl L f) s.heap.size) _ ⟨B.exec, B.bytes, B.returns, hml, findClass_of_methodNamed B.named, fun w hw => hts w (List.mem_cons_of_mem _ hw), B.notSynchronized, hK, fun q h => Or.inr h⟩ hSX ⟨hP, hD0.self, va_S.rf, hTH⟩ hl
theorem ishr0 (x : Int32) : x >>> ((0 : Int32) &&& 31) = x := by simp
theorem i32_nat {v : Int32} (h : 0 ≤ v.toInt) : (v.toBitVec.toNat : Int) = v.toInt := by
  have e : v.toInt = v.toBitVec.toInt := rfl
  rw [e] at h ⊢
  rw [BitVec.toInt_eq_toNat_cond] at h ⊢
  split at h
  · rw [if_pos (by assumption)]
  · have := v.toBitVec.isLt; omega
theorem nar_c {v : Int32} (h : 0 ≤ v.toInt ∧ v.toInt ≤ 65535) : narrow .char (.int v) = .int v := by
  have hn := i32_nat h.1
  show Value.int v.toUInt32.toUInt16.toUInt32.toInt32 = .int v
  congr 1
  apply Int32.toBitVec_inj.mp
  apply BitVec.eq_of_toNat_eq
  show (BitVec.setWidth 32 (BitVec.setWidth 16 v.toBitVec)).toNat = _
  simp only [BitVec.toNat_setWidth]
  omega
theorem i2c_rng (x : Int32) : 0 ≤ ((x.toUInt32 % 65536).toInt32).toInt ∧ ((x.toUInt32 % 65536).toInt32).toInt ≤ 65535 := by
  have e : ((x.toUInt32 % 65536).toInt32).toBitVec.toNat = x.toBitVec.toNat % 65536 := by
    show (x.toUInt32 % 65536).toBitVec.toNat = _
    rfl
  have e2 : ((x.toUInt32 % 65536).toInt32).toInt = (((x.toUInt32 % 65536).toInt32).toBitVec).toInt := rfl
  rw [e2, BitVec.toInt_eq_toNat_cond, e]
  have := Nat.mod_lt x.toBitVec.toNat (show 65536 > 0 by decide)
  rw [if_pos (by omega)]
  omega
section SH
variable {p : Program} {l : Launch} {e : Env} {R : Room} {s : State} {m : MethodId} {args : Array Value} {below : List Frame} {meth : Method} {c : Code} {H : Heap} {locs : List Loc} {cells slots : Nat} {Q : State → Prop}
variable {cc : ByteArray} {pc : Nat} {ls : Array Slot} {rest : List Value}
theorem q_ishr0 (hx : p.tables.exec = Jvm.exec) (hb : c.code = cc) {x : Int32} (hdg : decode cc pc = .ok (.ishr, 1)) (kk : W p l e R s m args below meth c H locs cells slots Q (F0 m (pc + 1) ls (.int x :: rest))) : W p l e R s m args below meth c H locs cells slots Q (F0 m pc ls (.int 0 :: .int x :: rest)) := lv_ishr hx hb hdg (by rw [ishr0]; exact kk)
theorem q_i2c (hx : p.tables.exec = Jvm.exec) (hb : c.code = cc) {x : Int32} (hdg : decode cc pc = .ok (.i2c, 1)) (kk : ∀ z : Int32, 0 ≤ z.toInt ∧ z.toInt ≤ 65535 → W p l e R s m args below meth c H locs cells slots Q (F0 m (pc + 1) ls (.int z :: rest))) : W p l e R s m args below meth c H locs cells slots Q (F0 m pc ls (.int x :: rest)) := lv_i2c hx hb hdg rfl (kk _ (i2c_rng x))
end SH
theorem wk_J0_length_8abf5 : Cond.code yJ0_length_8abf5 cJ0_length_8abf5 1 (some .int) ∈ wTab ∧ Cond.initialized RJ0 ∈ wTab ∧ Cond.instanceMethod yJ0_length_8abf5 ∈ wTab ∧ Cond.selects "java/lang/String" yJ0_length_8abf5 yJ0_length_8abf5 ∈ wTab ∧ (yJ0_length_8abf5.cls ≠ "java/lang/invoke/MethodHandle" ∧ yJ0_length_8abf5.cls ≠ "java/lang/invoke/VarHandle" ∧ (parseMethodDescriptor yJ0_length_8abf5.desc).map (fun d => d.parameters.length) = some 0) := ⟨tw_892, tw_117, tw_890, tw_891, by decide +kernel⟩
theorem wk_J0_coder_7d493 : Cond.code yJ0_coder_7d493 cJ0_coder_7d493 1 (some .byte) ∈ wTab ∧ Cond.initialized RJ0 ∈ wTab ∧ Cond.instanceMethod yJ0_coder_7d493 ∈ wTab ∧ Cond.selects "java/lang/String" yJ0_coder_7d493 yJ0_coder_7d493 ∈ wTab ∧ (yJ0_coder_7d493.cls ≠ "java/lang/invoke/MethodHandle" ∧ yJ0_coder_7d493.cls ≠ "java/lang/invoke/VarHandle" ∧ (parseMethodDescriptor yJ0_coder_7d493.desc).map (fun d => d.parameters.length) = some 0) := ⟨tw_896, tw_117, tw_894, tw_895, by decide +kernel⟩
theorem wk_J0_charAt_5068e : Cond.code yJ0_charAt_5068e cJ0_charAt_5068e 2 (some .char) ∈ wTab ∧ Cond.initialized RJ0 ∈ wTab ∧ Cond.instanceMethod yJ0_charAt_5068e ∈ wTab ∧ Cond.selects "java/lang/String" yJ0_charAt_5068e yJ0_charAt_5068e ∈ wTab ∧ (yJ0_charAt_5068e.cls ≠ "java/lang/invoke/MethodHandle" ∧ yJ0_charAt_5068e.cls ≠ "java/lang/invoke/VarHandle" ∧ (parseMethodDescriptor yJ0_charAt_5068e.desc).map (fun d => d.parameters.length) = some 1) := ⟨tw_902, tw_117, tw_900, tw_901, by decide +kernel⟩
theorem wk_J0_isLatin1_aae02 : Cond.code yJ0_isLatin1_aae02 cJ0_isLatin1_aae02 1 (some .boolean) ∈ wTab ∧ Cond.initialized RJ0 ∈ wTab ∧ Cond.instanceMethod yJ0_isLatin1_aae02 ∈ wTab ∧ Cond.selects "java/lang/String" yJ0_isLatin1_aae02 yJ0_isLatin1_aae02 ∈ wTab ∧ (yJ0_isLatin1_aae02.cls ≠ "java/lang/invoke/MethodHandle" ∧ yJ0_isLatin1_aae02.cls ≠ "java/lang/invoke/VarHandle" ∧ (parseMethodDescriptor yJ0_isLatin1_aae02.desc).map (fun d => d.parameters.length) = some 0) := ⟨tw_906, tw_117, tw_904, tw_905, by decide +kernel⟩
theorem wk_J1_charAt_3b067 : Cond.code yJ1_charAt_3b067 cJ1_charAt_3b067 2 (some .char) ∈ wTab ∧ Cond.initialized RJ1 ∈ wTab ∧ Cond.static yJ1_charAt_3b067 ∈ wTab ∧ (yJ1_charAt_3b067.cls ≠ "java/lang/invoke/MethodHandle" ∧ yJ1_charAt_3b067.cls ≠ "java/lang/invoke/VarHandle" ∧ (parseMethodDescriptor yJ1_charAt_3b067.desc).map (fun d => d.parameters.length) = some 2) := ⟨tw_909, tw_118, tw_908, by decide +kernel⟩
theorem wk_J0_checkIndex_df160 : Cond.code yJ0_checkIndex_df160 cJ0_checkIndex_df160 2 none ∈ wTab ∧ Cond.initialized RJ0 ∈ wTab ∧ Cond.static yJ0_checkIndex_df160 ∈ wTab ∧ (yJ0_checkIndex_df160.cls ≠ "java/lang/invoke/MethodHandle" ∧ yJ0_checkIndex_df160.cls ≠ "java/lang/invoke/VarHandle" ∧ (parseMethodDescriptor yJ0_checkIndex_df160.desc).map (fun d => d.parameters.length) = some 2) := ⟨tw_912, tw_117, tw_911, by decide +kernel⟩
theorem wk_J3_checkIndex_8e157 : Cond.code yJ3_checkIndex_8e157 cJ3_checkIndex_8e157 3 (some .int) ∈ wTab ∧ Cond.initialized RJ3 ∈ wTab ∧ Cond.static yJ3_checkIndex_8e157 ∈ wTab ∧ (yJ3_checkIndex_8e157.cls ≠ "java/lang/invoke/MethodHandle" ∧ yJ3_checkIndex_8e157.cls ≠ "java/lang/invoke/VarHandle" ∧ (parseMethodDescriptor yJ3_checkIndex_8e157.desc).map (fun d => d.parameters.length) = some 3) := ⟨tw_917, tw_119, tw_916, by decide +kernel⟩
