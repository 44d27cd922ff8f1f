/-! What every contract here is made of: a method's world before (PreW), its answer and its world behind (QW), a call, an end -/
abbrev tys6 (cI cJ cZ cD cR cT : ClassId) : List (ClassId × FieldType) := [(cI, .int), (cJ, .long), (cZ, .boolean), (cD, .double), (cR, .object RX6), (cT, .object RX9)]
def KK (G : va_G) (ty : List (ClassId × FieldType)) (U : State) : Prop := va_K G vwCl ty U ∧ va_AO RX6 U ∧ va_AO RX9 U
theorem KK.moved {G : va_G} {ty : List (ClassId × FieldType)} {u U : State} (hvm : u.vm.Alike U.vm) (h : KK G ty u) : KK G ty U := ⟨va_K.moved hvm h.1, va_AO.moved hvm h.2.1, va_AO.moved hvm h.2.2⟩
def PreW (G : va_G) (ty : List (ClassId × FieldType)) (ws : va_W) (sz : Nat) : State → Prop := fun U => U.heap.size = sz ∧ va_P G vwCl ws U.heap ∧ KK G ty U ∧ va_D (fun _ => True) ws
theorem preW_blind {G : va_G} {ty : List (ClassId × FieldType)} {ws : va_W} {sz : Nat} {As : List Value} : FrameBlind (va_Pc As (PreW G ty ws sz)) := fun a U g mk q => by
  obtain ⟨q0, q1, qP, qK, qD⟩ := q
  exact ⟨q0, q1, qP, KK.moved (u := U) (U := U.calling g mk a) (Vm.Alike.refl U.vm) qK, qD⟩
def QW (φ : Option Value → Prop) (G : va_G) (A : Nat → Prop) (w1 : (Nat → Nat) → (Nat → Nat → Int32) → va_W) : Array Value → State → Outcome → State → Prop := fun _ st oc t =>
  (∃ (v : Option Value) (q : Nat → Nat) (g : Nat → Nat → Int32), oc = .returned v ∧ φ v ∧ va_P G vwCl (w1 q g) t.heap ∧ va_D A (w1 q g)) ∧ va_F A st t
/-- the answers: an int, a long, nothing, null -/
def RI (ψ : Int32 → Prop) : Option Value → Prop := fun v => ∃ r : Int32, v = some (.int r) ∧ ψ r
def RL_ (ψ : Int64 → Prop) : Option Value → Prop := fun v => ∃ r : Int64, v = some (.long r) ∧ ψ r
def RV : Option Value → Prop := fun v => v = none
def RN : Option Value → Prop := fun v => v = some .null
theorem P_subm {D : va_G} {cl : List vw_C} {ws wc : va_W} {H : Heap} (h : va_P D cl ws H) (is : List Nat) (hs : is.map (fun i => ws[i]?) = wc.map some) : va_P D cl wc H := by
  intro k q hq
  have h1 : (is.map (fun i => ws[i]?))[k]? = some (some q) := by rw [hs, List.getElem?_map, hq]; rfl
  rw [List.getElem?_map] at h1
  cases hi : is[k]? with
  | none => rw [hi] at h1; cases h1
  | some i => rw [hi] at h1; exact h i q (Option.some.inj h1)
theorem sub_app {ws wr wc : va_W} (hw : ws = wr ++ wc) : ((List.range wc.length).map (fun i => wr.length + i)).map (fun i => ws[i]?) = wc.map some ∧ (List.range wr.length).map (fun i => ws[i]?) = wr.map some := by
  subst hw
  constructor
  · apply List.ext_getElem?
    intro i
    simp only [List.getElem?_map]
    by_cases h : i < wc.length
    · rw [List.getElem?_range h]
      simp [h]
    · rw [List.getElem?_eq_none (by simpa using Nat.not_lt.mp h), List.getElem?_eq_none (Nat.not_lt.mp h)]
      rfl
  · apply List.ext_getElem?
    intro i
    simp only [List.getElem?_map]
    by_cases h : i < wr.length
    · rw [List.getElem?_range h]
      simp [List.getElem?_append_left h, h]
    · rw [List.getElem?_eq_none (by simpa using Nat.not_lt.mp h), List.getElem?_eq_none (Nat.not_lt.mp h)]
      rfl
section TOOLS
variable {p : Program} {l : Launch} {e : Env} {R : Room} {s : State} {m : MethodId} {args : Array Value} {below : List Frame} {meth : Method} {c : Code} {H : Heap} {locs : List Loc} {cells slots : Nat} {Q : State → Prop}
variable {cc : ByteArray} {pc : Nat} {ls : Array Slot} {rest st0 : List Value} {G : va_G} {A A0 : Nat → Prop} {a : Nat} {ty : List (ClassId × FieldType)} {ws wc wr : va_W} {w1 : (Nat → Nat) → (Nat → Nat → Int32) → va_W} {H0 : Heap} {mc ms : Nat} {φ : Option Value → Prop}
theorem callW {av : Array Value} (hr : va_Run p l e R s m args below meth c H locs cells slots mc ms (F0 m pc ls st0) rest (QW φ G (va_A wc H.size) w1 av) (va_A wc H.size)) (hP : va_P G vwCl ws H) (hD : va_D A0 ws) (hS : va_S A0 H0 H locs) (hA : ∀ q, H0.size ≤ q → A0 q) (isC isR : List Nat) (hC : isC.map (fun i => ws[i]?) = wc.map some) (hR : isR.map (fun i => ws[i]?) = wr.map some) (hn : va_nd isR = true) (hdis : ∀ i ∈ isR, i ∉ isC)
    (kk : ∀ (v : Option Value) (q : Nat → Nat) (g : Nat → Nat → Int32) (H1 : Heap) (locs1 : List Loc), φ v → va_P G vwCl (wr ++ w1 q g) H1 → va_D A0 (wr ++ w1 q g) → va_S A0 H0 H1 locs1 → W p l e R s m args below meth c H1 locs1 (cells + mc) (slots + ms) Q (F0 m (pc + 3) ls (v.toList ++ rest))) : W p l e R s m args below meth c H locs cells slots Q (F0 m pc ls st0) := by
  have hF := va_free hD hS hA isC hC
  intro T hT X
  obtain ⟨v, st₀, t, T', L, h0, X', hL, e1, e2, ⟨⟨v', q, g, hv, hφ, hP1, hD1⟩, hz, hk⟩, st⟩ := hr T hT X
  cases hv
  rw [h0] at hz hk
  obtain ⟨hPj, hDj⟩ := va_join hP hD isC isR hC hR hn hdis (H1 := T'.heap) (fun x h1 h2 => by rw [e1]; exact hk x h1 h2) hF (by rw [e1]; exact hP1) hD1
  obtain ⟨t2, a1, b1⟩ := kk v q g T'.heap (locs ++ L) hφ hPj hDj
    ⟨Nat.le_trans hS.1 (by rw [e1]; exact hz), fun x h1 h2 => by rw [e1, hk x (Nat.lt_of_lt_of_le h1 hS.1) (fun z => h2 (hF x z))]; exact hS.2.1 x h1 h2, fun x hx => by
      rcases List.mem_append.mp hx with h | h
      · exact hS.2.2 x h
      · exact hF _ (hL x h)⟩ T' rfl X'
  exact ⟨t2, st t2 a1, b1⟩
theorem preS_W {As : List Value} (hKK : KK G ty s) (hP : va_P G vwCl ws H) (hD : va_D A0 ws) (isC : List Nat) (hn : va_nd isC = true) (hC : isC.map (fun i => ws[i]?) = wc.map some) : PreS s H (va_Pc As (PreW G ty wc H.size)) As :=
  ⟨preW_blind, fun U hU hW => ⟨rfl, by rw [hU], by rw [hU]; exact P_subm hP isC hC, KK.moved hW.alike hKK, (hD.sub isC hn hC).weaken (fun _ _ _ _ => trivial)⟩⟩
theorem preV_W {As : List Value} {C : String} {b ci q0 : Nat} {r : vw_C} {fs : List Value} (hKK : KK G ty s) (hP : va_P G vwCl ws H) (hD : va_D A0 ws) (isC : List Nat) (hn : va_nd isC = true) (hC : isC.map (fun i => ws[i]?) = wc.map some) (hc : vwCl[ci]? = some r) (hr : r.1 = C) (he : ws[q0]? = some (b, .inr (ci, fs))) : PreV s H C b (va_Pc (.ref b :: As) (PreW G ty wc H.size)) As :=
  ⟨preW_blind, by subst hr; exact va_recv hKK.1 hP hc he, (preS_W (As := .ref b :: As) hKK hP hD isC hn hC).2⟩
/-- an array of numbers, of the class that is known already -/
theorem newaW (hexec : p.tables.exec = Jvm.exec) (hb : c.code = cc) {atype : ArrayType} (harr : (Cond.arrayClass (newarray.typeOf atype)).before args s = true) {ft : FieldType} (hty : newarray.typeOf atype = ft) (hKK : KK G ty s) (t0 : Nat) {cA : ClassId} (ht0 : ty[t0]? = some (cA, ft)) (hP : va_P G vwCl ws H) (hD : va_D A ws) (hS : va_S A H0 H locs) (hA : ∀ q, H0.size ≤ q → A q)
    {n : Int32} {N' : Nat} {a0 : vp_A} (ha : ∀ cA : ClassId, vp_cell cA a0 = arrV cA N' (fun _ => defaultValue ft)) (hn : ¬ n < 0) (hN : n.toNatClampNeg = N') (hbytes : N' * componentBytes ft ≤ 536870912) (hcells : cells + 1 ≤ R.cells) (hslots : slots + N' ≤ R.slots) (hdg : decode cc pc = .ok (.newarray atype, 2))
    (kk : ∀ (q : Nat) (H1 : Heap), va_P G vwCl (ws ++ [(q, .inl (cA, a0))]) H1 → va_D A (ws ++ [(q, .inl (cA, a0))]) → va_S A H0 H1 locs →
      W p l e R s m args below meth c H1 locs (cells + 1) (slots + N') Q (F0 m (pc + 2) ls (.ref q :: rest))) : W p l e R s m args below meth c H locs cells slots Q (F0 m pc ls (.int n :: rest)) := by
  refine va_newa hexec hb harr hty hKK.1 hP hD hS hA ha hn hN hbytes hcells hslots hdg (fun q cB H1 hK1 hP1 hD1 hS1 => ?_)
  have h1 := (hK1.2 ty.length (cB, ft) (by simp)).2
  have h2 := (hKK.1.2 t0 _ ht0).2
  have he : cB = cA := by
    subst hty
    cases atype <;> exact Option.some.inj (Eq.trans (Eq.symm h1) h2)
  subst he
  exact kk q H1 hP1 hD1 hS1
theorem newqW (hexec : p.tables.exec = Jvm.exec) (hb : c.code = cc) {own C : String} {index : Nat} (hown : s.vm.findClass own = some m.cls) (hclink : (Cond.classLink own index C).before args s = true) (hover : va_AO C s) (hKK : KK G ty s) (t0 : Nat) {cA : ClassId} (ht0 : ty[t0]? = some (cA, .object C)) (hP : va_P G vwCl ws H) (hD : va_D A ws) (hS : va_S A H0 H locs) (hA : ∀ q, H0.size ≤ q → A q)
    {n : Int32} {N' : Nat} (hn : ¬ n < 0) (hN : n.toNatClampNeg = N') (hbytes : N' * 4 ≤ 536870912) (hcells : cells + 1 ≤ R.cells) (hslots : slots + N' ≤ R.slots) (hdg : decode cc pc = .ok (.anewarray index, 3))
    (kk : ∀ (q : Nat) (H1 : Heap), va_P G vwCl (ws ++ [(q, .inl (cA, N', .inr (.inr (.inr (.inr (fun _ => none))))))]) H1 → va_D A (ws ++ [(q, .inl (cA, N', .inr (.inr (.inr (.inr (fun _ => none))))))]) → va_S A H0 H1 locs →
      W p l e R s m args below meth c H1 locs (cells + 1) (slots + N') Q (F0 m (pc + 3) ls (.ref q :: rest))) : W p l e R s m args below meth c H locs cells slots Q (F0 m pc ls (.int n :: rest)) := by
  refine va_newq hexec hb hown hclink hover hKK.1 hP hD hS hA hn hN hbytes hcells hslots hdg (fun q cB H1 hK1 hP1 hD1 hS1 => ?_)
  obtain ⟨kA, comp, -, -, -, h1⟩ := (hK1.2 ty.length (cB, .object C) (by simp)).2
  obtain ⟨kA2, comp2, -, -, -, h2⟩ := (hKK.1.2 t0 _ ht0).2
  have he : cB = cA := Option.some.inj (Eq.trans (Eq.symm h1) h2)
  subst he
  exact kk q H1 hP1 hD1 hS1
theorem setW {ws' : va_W} {x : Nat × va_E} {q0 : Nat} (h : ws.set q0 x = ws') {A : Nat → Prop} {H1 : Heap} {locs1 : List Loc} (kk : va_P G vwCl ws' H1 → va_D A ws' → va_S A H0 H1 locs1 → W p l e R s m args below meth c H1 locs1 cells slots Q (F0 m pc ls rest)) : va_P G vwCl (ws.set q0 x) H1 → va_D A (ws.set q0 x) → va_S A H0 H1 locs1 → W p l e R s m args below meth c H1 locs1 cells slots Q (F0 m pc ls rest) := by
  subst h
  exact kk
theorem appW {ws' : va_W} {x : va_W} (h : ws ++ x = ws') {A : Nat → Prop} {H1 : Heap} {locs1 : List Loc} (kk : va_P G vwCl ws' H1 → va_D A ws' → va_S A H0 H1 locs1 → W p l e R s m args below meth c H1 locs1 cells slots Q (F0 m pc ls rest)) : va_P G vwCl (ws ++ x) H1 → va_D A (ws ++ x) → va_S A H0 H1 locs1 → W p l e R s m args below meth c H1 locs1 cells slots Q (F0 m pc ls rest) := by
  subst h
  exact kk
section CALLS
variable {y : MethodName} {bytes : ByteArray} {maxL nL n index : Nat} {ret : Option FieldType} {wy : List Cond} {rm : Room} {Ts : List Cond} {own C : String} {b : Addr} {As : List Value}
theorem goS (S : CallFix p m c cc nL s args Ts own) (hM : Met l y wy rm (va_Pc As (PreW G ty wc H.size)) (QW φ G (va_A wc H.size) w1) mc ms (va_A wc H.size)) (cw : CallB R s args own index y bytes maxL ret wy rm mc ms n ∧ (Cond.static y).before args s = true) (hKK : KK G ty s) (hP : va_P G vwCl ws H) (hD : va_D A0 ws) (hS : va_S A0 H0 H locs) (hA : ∀ q, H0.size ≤ q → A0 q) (isC isR : List Nat) (hC : isC.map (fun i => ws[i]?) = wc.map some) (hR : isR.map (fun i => ws[i]?) = wr.map some) (hnC : va_nd isC = true) (hnR : va_nd isR = true) (hdis : ∀ i ∈ isR, i ∉ isC)
    (hn : As.length = n) (hsize : ls.size = nL) (hst : st0 = As.reverse ++ rest) (hW : 2 * (F0 m pc ls st0).monitorRoom + (rest.map fun v => v.category).sum ≤ 8) (hdg : decode cc pc = .ok (.invokestatic index, 3)) (hf : cells + mc ≤ R.cells ∧ slots + ms ≤ R.slots)
    (kk : ∀ (v : Option Value) (q : Nat → Nat) (g : Nat → Nat → Int32) (H1 : Heap) (locs1 : List Loc), φ v → va_P G vwCl (wr ++ w1 q g) H1 → va_D A0 (wr ++ w1 q g) → va_S A0 H0 H1 locs1 → W p l e R s m args below meth c H1 locs1 (cells + mc) (slots + ms) Q (F0 m (pc + 3) ls (v.toList ++ rest))) : W p l e R s m args below meth c H locs cells slots Q (F0 m pc ls st0) :=
  callW (va_runS S hM cw (preS_W hKK hP hD isC hnC hC) rfl hn hsize hst hW hdg hf) hP hD hS hA isC isR hC hR hnR hdis kk
theorem goV (S : CallFix p m c cc nL s args Ts own) (hM : Met l y wy rm (va_Pc (.ref b :: As) (PreW G ty wc H.size)) (QW φ G (va_A wc H.size) w1) mc ms (va_A wc H.size)) (cw : CallW R s args own C index y bytes maxL ret wy rm mc ms n) (q0 : Nat) {ci : Nat} {r : vw_C} {fs : List Value} (hc : vwCl[ci]? = some r) (hrC : r.1 = C) (he : ws[q0]? = some (b, .inr (ci, fs))) (hKK : KK G ty s) (hP : va_P G vwCl ws H) (hD : va_D A0 ws) (hS : va_S A0 H0 H locs) (hA : ∀ q, H0.size ≤ q → A0 q) (isC isR : List Nat) (hC : isC.map (fun i => ws[i]?) = wc.map some) (hR : isR.map (fun i => ws[i]?) = wr.map some) (hnC : va_nd isC = true) (hnR : va_nd isR = true) (hdis : ∀ i ∈ isR, i ∉ isC)
    (hn : As.length = n) (hsize : ls.size = nL) (hst : st0 = As.reverse ++ .ref b :: rest) (hW : 2 * (F0 m pc ls st0).monitorRoom + (rest.map fun v => v.category).sum ≤ 8) (hdg : decode cc pc = .ok (.invokevirtual index, 3)) (hf : cells + mc ≤ R.cells ∧ slots + ms ≤ R.slots)
    (kk : ∀ (v : Option Value) (q : Nat → Nat) (g : Nat → Nat → Int32) (H1 : Heap) (locs1 : List Loc), φ v → va_P G vwCl (wr ++ w1 q g) H1 → va_D A0 (wr ++ w1 q g) → va_S A0 H0 H1 locs1 → W p l e R s m args below meth c H1 locs1 (cells + mc) (slots + ms) Q (F0 m (pc + 3) ls (v.toList ++ rest))) : W p l e R s m args below meth c H locs cells slots Q (F0 m pc ls st0) :=
  callW (va_runV S hM cw (preV_W hKK hP hD isC hnC hC hc hrC he) rfl hn hsize hst hW hdg hf) hP hD hS hA isC isR hC hR hnR hdis kk
theorem goI (S : CallFix p m c cc nL s args Ts own) (hM : Met l y wy rm (va_Pc (.ref b :: As) (PreW G ty wc H.size)) (QW φ G (va_A wc H.size) w1) mc ms (va_A wc H.size)) (cw : CallB R s args own index y bytes maxL none wy rm mc ms n ∧ y.name = "<init>" ∧ (Cond.instanceMethod y).before args s = true) (hKK : KK G ty s) (hP : va_P G vwCl ws H) (hD : va_D A0 ws) (hS : va_S A0 H0 H locs) (hA : ∀ q, H0.size ≤ q → A0 q) (hws : ws = wr ++ wc)
    (hn : As.length = n) (hsize : ls.size = nL) (hst : st0 = As.reverse ++ .ref b :: rest) (hW : 2 * (F0 m pc ls st0).monitorRoom + (rest.map fun v => v.category).sum ≤ 8) (hdg : decode cc pc = .ok (.invokespecial index, 3)) (hf : cells + mc ≤ R.cells ∧ slots + ms ≤ R.slots)
    (kk : ∀ (v : Option Value) (q : Nat → Nat) (g : Nat → Nat → Int32) (H1 : Heap) (locs1 : List Loc), φ v → va_P G vwCl (wr ++ w1 q g) H1 → va_D A0 (wr ++ w1 q g) → va_S A0 H0 H1 locs1 → W p l e R s m args below meth c H1 locs1 (cells + mc) (slots + ms) Q (F0 m (pc + 3) ls (v.toList ++ rest))) : W p l e R s m args below meth c H locs cells slots Q (F0 m pc ls st0) := by
  obtain ⟨hC, hR⟩ := sub_app hws
  have hPc : va_P G vwCl wc H := P_subm hP _ hC
  have hDc : va_D A0 wc := ⟨fun i j x z hi hj hxz => by
      have h := hD.1 (wr.length + i) (wr.length + j) x z (by rw [hws, List.getElem?_append_right (Nat.le_add_right _ _), Nat.add_sub_cancel_left]; exact hi) (by rw [hws, List.getElem?_append_right (Nat.le_add_right _ _), Nat.add_sub_cancel_left]; exact hj) hxz
      omega, fun k x hk => hD.2 (wr.length + k) x (by rw [hws, List.getElem?_append_right (Nat.le_add_right _ _), Nat.add_sub_cancel_left]; exact hk)⟩
  have hpre : PreS s H (va_Pc (.ref b :: As) (PreW G ty wc H.size)) (.ref b :: As) :=
    ⟨preW_blind, fun U hU hW => ⟨rfl, by rw [hU], by rw [hU]; exact hPc, KK.moved hW.alike hKK, hDc.weaken (fun _ _ _ _ => trivial)⟩⟩
  have hnd : ∀ n : Nat, va_nd (List.range n) = true := by
    intro n
    have key : ∀ l : List Nat, l.Nodup → va_nd l = true := by
      intro l
      induction l with
      | nil => intro _; rfl
      | cons x t ih =>
        intro h
        have h2 := List.nodup_cons.mp h
        have h3 := ih h2.2
        simp [va_nd, h2.1, h3]
    exact key _ List.nodup_range
  exact callW (va_runI S hM cw hpre rfl hn hsize hst hW hdg hf) hP hD hS hA _ _ hC hR (hnd _) (fun i hi hx => by
    obtain ⟨j, -, rfl⟩ := List.mem_map.mp hx
    have := List.mem_range.mp hi
    omega) kk
end CALLS
theorem retI {v : Int32} (hexec : p.tables.exec = Jvm.exec) (hb : c.code = cc) (hr : meth.sig.returnType = some .int) (hlocks : meth.locks = false) (hφ : φ (some (.int v))) (hP : va_P G vwCl ws H) (hD : va_D A ws) (hS : va_S A s.heap H locs) (q : Nat → Nat) (g : Nat → Nat → Int32) (is : List Nat) (hn : va_nd is = true) (hw : is.map (fun i => ws[i]?) = (w1 q g).map some) (hdg : decode cc pc = .ok (.ireturn, 1)) : W p l e R s m args below meth c H locs cells slots (MQ below (QW φ G A w1) args s cells slots A) (F0 m pc ls [.int v]) :=
  W.iret (v := v) hexec hb hr (fun t ht hW => ⟨⟨_, q, g, rfl, hφ, by rw [ht]; exact P_subm hP is hw, hD.sub is hn hw⟩, hS.F ht⟩) hS.2.2 hdg hlocks
theorem retZ {v : Int32} (hexec : p.tables.exec = Jvm.exec) (hb : c.code = cc) (hr : meth.sig.returnType = some .boolean) (hlocks : meth.locks = false) (hz : narrow .boolean (.int v) = .int v) (hφ : φ (some (.int v))) (hP : va_P G vwCl ws H) (hD : va_D A ws) (hS : va_S A s.heap H locs) (q : Nat → Nat) (g : Nat → Nat → Int32) (is : List Nat) (hn : va_nd is = true) (hw : is.map (fun i => ws[i]?) = (w1 q g).map some) (hdg : decode cc pc = .ok (.ireturn, 1)) : W p l e R s m args below meth c H locs cells slots (MQ below (QW φ G A w1) args s cells slots A) (F0 m pc ls [.int v]) :=
  W.zret (v := v) hexec hb hr hz (fun t ht hW => ⟨⟨_, q, g, rfl, hφ, by rw [ht]; exact P_subm hP is hw, hD.sub is hn hw⟩, hS.F ht⟩) hS.2.2 hdg hlocks
theorem retL {v : Int64} (hexec : p.tables.exec = Jvm.exec) (hb : c.code = cc) (hr : meth.sig.returnType = some .long) (hlocks : meth.locks = false) (hφ : φ (some (.long v))) (hP : va_P G vwCl ws H) (hD : va_D A ws) (hS : va_S A s.heap H locs) (q : Nat → Nat) (g : Nat → Nat → Int32) (is : List Nat) (hn : va_nd is = true) (hw : is.map (fun i => ws[i]?) = (w1 q g).map some) (hdg : decode cc pc = .ok (.lreturn, 1)) : W p l e R s m args below meth c H locs cells slots (MQ below (QW φ G A w1) args s cells slots A) (F0 m pc ls [.long v]) :=
  W.lret (v := v) hexec hb hr (fun t ht hW => ⟨⟨_, q, g, rfl, hφ, by rw [ht]; exact P_subm hP is hw, hD.sub is hn hw⟩, hS.F ht⟩) hS.2.2 hdg hlocks
theorem retV (hexec : p.tables.exec = Jvm.exec) (hb : c.code = cc) (hr : meth.sig.returnType = none) (hlocks : meth.locks = false) (hφ : φ none) (hP : va_P G vwCl ws H) (hD : va_D A ws) (hS : va_S A s.heap H locs) (q : Nat → Nat) (g : Nat → Nat → Int32) (is : List Nat) (hn : va_nd is = true) (hw : is.map (fun i => ws[i]?) = (w1 q g).map some) (hdg : decode cc pc = .ok (.return_, 1)) : W p l e R s m args below meth c H locs cells slots (MQ below (QW φ G A w1) args s cells slots A) (F0 m pc ls []) :=
  W.vret hexec hb hr (fun t ht hW => ⟨⟨_, q, g, rfl, hφ, by rw [ht]; exact P_subm hP is hw, hD.sub is hn hw⟩, hS.F ht⟩) hS.2.2 hdg hlocks
theorem retN {rt : FieldType} (hexec : p.tables.exec = Jvm.exec) (hb : c.code = cc) (hr : meth.sig.returnType = some rt) (hrt : (∃ n, rt = .object n) ∨ ∃ t, rt = .array t) (hlocks : meth.locks = false) (hφ : φ (some .null)) (hP : va_P G vwCl ws H) (hD : va_D A ws) (hS : va_S A s.heap H locs) (q : Nat → Nat) (g : Nat → Nat → Int32) (is : List Nat) (hn : va_nd is = true) (hw : is.map (fun i => ws[i]?) = (w1 q g).map some) (hdg : decode cc pc = .ok (.areturn, 1)) : W p l e R s m args below meth c H locs cells slots (MQ below (QW φ G A w1) args s cells slots A) (F0 m pc ls [.null]) :=
  W.aret (v := .null) hexec hb hr hrt (Or.inl rfl) (fun t ht hW => ⟨⟨_, q, g, rfl, hφ, by rw [ht]; exact P_subm hP is hw, hD.sub is hn hw⟩, hS.F ht⟩) hS.2.2 hdg hlocks
end TOOLS
/-- a method's contract out of the walk of its body -/
theorem metW {l : Launch} {y : MethodName} {wy wy' : List Cond} {rm : Room} {As : List Value} {G : va_G} {ty : List (ClassId × FieldType)} {wc : va_W} {sz : Nat} {φ : Option Value → Prop} {w1 : (Nat → Nat) → (Nat → Nat → Int32) → va_W} {mc ms : Nat} {cc : ByteArray} {maxL : Nat} {ret : Option FieldType}
    (hy : plainName y.cls = true) (hw : wy = Cond.code y cc maxL ret :: wy') (hL : (lg_sl As).length ≤ maxL)
    (body : ∀ (p : Program) (e : Env) (s : State) (m : MethodId) (below : List Frame) (meth : Method) (c : Code) (A : Nat → Prop) (ls : Array Slot), p.tables.exec = Jvm.exec → c.code = cc → meth.sig.returnType = ret → c.maxLocals = maxL → s.vm.findClass y.cls = some m.cls → (∀ w ∈ wy, w.before As.toArray s = true) → meth.locks = false → meth.name = y.name → KK G ty s → va_P G vwCl wc s.heap → va_D A wc → (∀ q : Nat, s.heap.size ≤ q → A q) → va_S A s.heap s.heap [] → lv_has ls maxL (lv_args 0 As) → W p l e rm s m As.toArray below meth c s.heap [] 0 0 (MQ below (QW φ G A w1) As.toArray s mc ms A) (F0 m 0 ls [])) :
    Met l y wy rm (va_Pc As (PreW G ty wc sz)) (QW φ G (va_A wc sz) w1) mc ms (va_A wc sz) := by
  refine Met.ofW (cc := cc) (maxL := maxL) (ret := ret) hy hw ?_
  intro p e s m args below meth c s₁ B hml hv
  obtain ⟨rfl, hsz, hP, hK, hD0⟩ := hv
  have hts := atoms_spec (ws := wy) B.pre
  have hin : meth.name = y.name := (name_of_methodNamed B.named B.method).1
  subst hsz
  have hl := lv_entry As (n := maxL) hL
  rw [lg_entry_eq]
  exact body p e s m below meth c (va_A wc s.heap.size) _ B.exec B.bytes B.returns hml (findClass_of_methodNamed B.named) hts B.notSynchronized hin hK hP hD0.self (fun q h => Or.inr h) va_S.rf hl
