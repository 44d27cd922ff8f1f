/-! constructors of nest mates: what the tables say of their links stands in the start -/
def NS (U : State) : Prop := va_Nw (.methodLinkNest RX0 11 yX4_init RX11) U ∧ va_Nw (.methodLinkNest RX0 20 yX1_init RX11) U ∧ va_Nw (.methodLinkNest RX0 27 yX10_init RX11) U ∧ va_Nw (.methodLinkNest RX0 41 yX2_init RX11) U ∧ va_Nw (.methodLinkNest RX0 48 yX3_init RX11) U ∧ va_Nw (.methodLinkNest RX11 29 yX8_init RX11) U ∧ va_Nw (.methodLinkNest RX11 36 yX5_init RX11) U
theorem NS.warm {s U : State} (hW : s.WarmedH U.vm) (h : NS s) : NS U := ⟨va_Nw.warmM hW h.1, va_Nw.warmM hW h.2.1, va_Nw.warmM hW h.2.2.1, va_Nw.warmM hW h.2.2.2.1, va_Nw.warmM hW h.2.2.2.2.1, va_Nw.warmM hW h.2.2.2.2.2.1, va_Nw.warmM hW h.2.2.2.2.2.2⟩
theorem NS.same {u U : State} (h : u.vm = U.vm) (hN : NS u) : NS U := ⟨va_Nw.same rfl h hN.1, va_Nw.same rfl h hN.2.1, va_Nw.same rfl h hN.2.2.1, va_Nw.same rfl h hN.2.2.2.1, va_Nw.same rfl h hN.2.2.2.2.1, va_Nw.same rfl h hN.2.2.2.2.2.1, va_Nw.same rfl h hN.2.2.2.2.2.2⟩
def PreN (G : va_G) (ty : List (ClassId × FieldType)) (ws : va_W) (sz : Nat) : State → Prop := fun U => PreW G ty ws sz U ∧ NS U
theorem preN_blind {G : va_G} {ty : List (ClassId × FieldType)} {ws : va_W} {sz : Nat} {As : List Value} : FrameBlind (va_Pc As (PreN G ty ws sz)) := fun a U g mk q => by
  obtain ⟨q0, qW, qN⟩ := q
  obtain ⟨-, h2⟩ := preW_blind (As := As) a U g mk ⟨q0, qW⟩
  exact ⟨q0, h2, NS.same rfl qN⟩
theorem nd_range (n : Nat) : va_nd (List.range n) = true := by
  have key : ∀ l : List Nat, l.Nodup → va_nd l = true := by
    intro l
    induction l with
    | nil => intro _; rfl
    | cons x t ih =>
      intro h
      have h2 := List.nodup_cons.mp h
      have h3 := ih h2.2
      simp [va_nd, h2.1, h3]
  exact key _ List.nodup_range
theorem D_tail {A : Nat → Prop} {ws wr wc : va_W} (hws : ws = wr ++ wc) (hD : va_D A ws) : va_D A wc :=
  ⟨fun i j x z hi hj hxz => by
      have h := hD.1 (wr.length + i) (wr.length + j) x z (by rw [hws, List.getElem?_append_right (Nat.le_add_right _ _), Nat.add_sub_cancel_left]; exact hi) (by rw [hws, List.getElem?_append_right (Nat.le_add_right _ _), Nat.add_sub_cancel_left]; exact hj) hxz
      omega, fun k x hk => hD.2 (wr.length + k) x (by rw [hws, List.getElem?_append_right (Nat.le_add_right _ _), Nat.add_sub_cancel_left]; exact hk)⟩
section NEST
variable {p : Program} {l : Launch} {e : Env} {R : Room} {s : State} {m : MethodId} {args : Array Value} {below : List Frame} {meth : Method} {c : Code} {H : Heap} {locs : List Loc} {cells slots : Nat} {Q : State → Prop}
variable {cc : ByteArray} {pc : Nat} {ls : Array Slot} {rest st0 : List Value} {G : va_G} {A A0 : Nat → Prop} {a : Nat} {ty : List (ClassId × FieldType)} {ws wc wr : va_W} {w1 : (Nat → Nat) → (Nat → Nat → Int32) → va_W} {H0 : Heap} {mc ms : Nat} {φ : Option Value → Prop}
variable {y : MethodName} {bytes : ByteArray} {maxL nL n index : Nat} {ret : Option FieldType} {wy : List Cond} {rm : Room} {Ts : List Cond} {own C host : String} {b : Addr} {As : List Value}
theorem goIN (S : CallFix p m c cc nL s args Ts own) (hM : Met l y wy rm (va_Pc (.ref b :: As) (PreW G ty wc H.size)) (QW φ G (va_A wc H.size) w1) mc ms (va_A wc H.size)) (cw : va_CN R s args own index y host bytes maxL none wy rm mc ms n ∧ y.name = "<init>" ∧ (Cond.instanceMethod y).before args s = true) (hKK : KK G ty s) (hP : va_P G vwCl ws H) (hD : va_D A0 ws) (hS : va_S A0 H0 H locs) (hA : ∀ q, H0.size ≤ q → A0 q) (hws : ws = wr ++ wc)
    (hn : As.length = n) (hsize : ls.size = nL) (hst : st0 = As.reverse ++ .ref b :: rest) (hW : 2 * (F0 m pc ls st0).monitorRoom + (rest.map fun v => v.category).sum ≤ 8) (hdg : decode cc pc = .ok (.invokespecial index, 3)) (hf : cells + mc ≤ R.cells ∧ slots + ms ≤ R.slots)
    (kk : ∀ (v : Option Value) (q : Nat → Nat) (g : Nat → Nat → Int32) (H1 : Heap) (locs1 : List Loc), φ v → va_P G vwCl (wr ++ w1 q g) H1 → va_D A0 (wr ++ w1 q g) → va_S A0 H0 H1 locs1 → W p l e R s m args below meth c H1 locs1 (cells + mc) (slots + ms) Q (F0 m (pc + 3) ls (v.toList ++ rest))) : W p l e R s m args below meth c H locs cells slots Q (F0 m pc ls st0) := by
  obtain ⟨hC, hR⟩ := sub_app hws
  have hpre : PreS s H (va_Pc (.ref b :: As) (PreW G ty wc H.size)) (.ref b :: As) :=
    ⟨preW_blind, fun U hU hW => ⟨rfl, by rw [hU], by rw [hU]; exact P_subm hP _ hC, KK.moved hW.alike hKK, (D_tail hws hD).weaken (fun _ _ _ _ => trivial)⟩⟩
  exact callW (va_runIN S hM cw hpre rfl hn hsize hst hW hdg hf) hP hD hS hA _ _ hC hR (nd_range _) (fun i hi hx => by
    obtain ⟨j, -, rfl⟩ := List.mem_map.mp hx
    have := List.mem_range.mp hi
    omega) kk
theorem goIP (S : CallFix p m c cc nL s args Ts own) (hM : Met l y wy rm (va_Pc (.ref b :: As) (PreN G ty wc H.size)) (QW φ G (va_A wc H.size) w1) mc ms (va_A wc H.size)) (cw : CallB R s args own index y bytes maxL none wy rm mc ms n ∧ y.name = "<init>" ∧ (Cond.instanceMethod y).before args s = true) (hNS : NS s) (hKK : KK G ty s) (hP : va_P G vwCl ws H) (hD : va_D A0 ws) (hS : va_S A0 H0 H locs) (hA : ∀ q, H0.size ≤ q → A0 q) (hws : ws = wr ++ wc)
    (hn : As.length = n) (hsize : ls.size = nL) (hst : st0 = As.reverse ++ .ref b :: rest) (hW : 2 * (F0 m pc ls st0).monitorRoom + (rest.map fun v => v.category).sum ≤ 8) (hdg : decode cc pc = .ok (.invokespecial index, 3)) (hf : cells + mc ≤ R.cells ∧ slots + ms ≤ R.slots)
    (kk : ∀ (v : Option Value) (q : Nat → Nat) (g : Nat → Nat → Int32) (H1 : Heap) (locs1 : List Loc), φ v → va_P G vwCl (wr ++ w1 q g) H1 → va_D A0 (wr ++ w1 q g) → va_S A0 H0 H1 locs1 → W p l e R s m args below meth c H1 locs1 (cells + mc) (slots + ms) Q (F0 m (pc + 3) ls (v.toList ++ rest))) : W p l e R s m args below meth c H locs cells slots Q (F0 m pc ls st0) := by
  obtain ⟨hC, hR⟩ := sub_app hws
  have hpre : PreS s H (va_Pc (.ref b :: As) (PreN G ty wc H.size)) (.ref b :: As) :=
    ⟨preN_blind, fun U hU hW => ⟨rfl, ⟨by rw [hU], by rw [hU]; exact P_subm hP _ hC, KK.moved hW.alike hKK, (D_tail hws hD).weaken (fun _ _ _ _ => trivial)⟩, NS.warm hW hNS⟩⟩
  exact callW (va_runI S hM cw hpre rfl hn hsize hst hW hdg hf) hP hD hS hA _ _ hC hR (nd_range _) (fun i hi hx => by
    obtain ⟨j, -, rfl⟩ := List.mem_map.mp hx
    have := List.mem_range.mp hi
    omega) kk
end NEST
theorem metWN {l : Launch} {y : MethodName} {wy wy' : List Cond} {rm : Room} {As : List Value} {G : va_G} {ty : List (ClassId × FieldType)} {wc : va_W} {sz : Nat} {φ : Option Value → Prop} {w1 : (Nat → Nat) → (Nat → Nat → Int32) → va_W} {mc ms : Nat} {cc : ByteArray} {maxL : Nat} {ret : Option FieldType}
    (hy : plainName y.cls = true) (hw : wy = Cond.code y cc maxL ret :: wy') (hL : (lg_sl As).length ≤ maxL)
    (body : ∀ (p : Program) (e : Env) (s : State) (m : MethodId) (below : List Frame) (meth : Method) (c : Code) (A : Nat → Prop) (ls : Array Slot), NS s → p.tables.exec = Jvm.exec → c.code = cc → meth.sig.returnType = ret → c.maxLocals = maxL → s.vm.findClass y.cls = some m.cls → (∀ w ∈ wy, w.before As.toArray s = true) → meth.locks = false → meth.name = y.name → KK G ty s → va_P G vwCl wc s.heap → va_D A wc → (∀ q : Nat, s.heap.size ≤ q → A q) → va_S A s.heap s.heap [] → lv_has ls maxL (lv_args 0 As) → W p l e rm s m As.toArray below meth c s.heap [] 0 0 (MQ below (QW φ G A w1) As.toArray s mc ms A) (F0 m 0 ls [])) :
    Met l y wy rm (va_Pc As (PreN G ty wc sz)) (QW φ G (va_A wc sz) w1) mc ms (va_A wc sz) := by
  refine Met.ofW (cc := cc) (maxL := maxL) (ret := ret) hy hw ?_
  intro p e s m args below meth c s₁ B hml hv
  obtain ⟨rfl, ⟨hsz, hP, hK, hD0⟩, hN⟩ := hv
  have hts := atoms_spec (ws := wy) B.pre
  have hin : meth.name = y.name := (name_of_methodNamed B.named B.method).1
  subst hsz
  have hl := lv_entry As (n := maxL) hL
  rw [lg_entry_eq]
  exact body p e s m below meth c (va_A wc s.heap.size) _ hN B.exec B.bytes B.returns hml (findClass_of_methodNamed B.named) hts B.notSynchronized hin hK hP hD0.self (fun q h => Or.inr h) va_S.rf hl
