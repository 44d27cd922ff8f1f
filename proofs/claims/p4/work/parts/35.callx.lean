/-! a drawing call beside cells that are being built; ends over a bigger pool, with draws -/
section CVDX
variable {p : Program} {l : Launch} {e : Env} {R : Room} {s S : State} {m : MethodId} {args : Array Value} {below : List Frame} {meth : Method} {c : Code} {H : Heap} {locs : List Loc} {cells slots : Nat} {Q : State → Prop}
variable {cc : ByteArray} {pc : Nat} {ls : Array Slot} {rest st0 : List Value} {G : va_G} {A : Nat → Prop} {cI cJ cZ cD cR cT : ClassId} {ret rety : Option FieldType} {nL : Nat} {own : String} {kp kp1 : Nat → Nat} {L L1 : List Nat} {f : Nat → va_E} {a K ci k index : Nat} {C : String} {T : u_T} {N : Nat} {X : va_W}
variable {mc ms : Nat} {po : Option Value → (Nat → va_E) → Prop} {px : Option Value → (Nat → Nat) → List Nat → (Nat → va_E) → Prop} {y : MethodName} {bytes : ByteArray} {maxL n : Nat} {rm : Room} {As : List Value}
theorem t_callVDX (E : EV G cI cJ cZ cD cR cT A cc ret nL own p S m args meth c) (hdr : DR s S) (hX : WX G cI cJ cZ cD cR cT A kp L f X S H locs) {b : Nat} (hM : MetD lw_cs l y (Cond.code y bytes maxL rety :: wTab) rm (va_Pc (.ref b :: As) (PreW G (tys6 cI cJ cZ cD cR cT) (va_pl L f) H.size)) (QT po G cI cJ cZ cD cR cT (va_A (va_pl L f) H.size) kp L) 0 0 (va_A (va_pl L f) H.size))
    (hr : RK kp L b ci) (hci : ci < 100) (hcl : vwCl[ci]? = some (C, T, N)) (wk : Cond.code y bytes maxL rety ∈ wTab ∧ Cond.initialized y.cls ∈ wTab ∧ Cond.instanceMethod y ∈ wTab ∧ Cond.selects C y y ∈ wTab ∧ (y.cls ≠ "java/lang/invoke/MethodHandle" ∧ y.cls ≠ "java/lang/invoke/VarHandle" ∧ (parseMethodDescriptor y.desc).map (fun d => d.parameters.length) = some n)) (hl : Cond.methodLink own index y ∈ wTab)
    (hn : As.length = n) (hR : rm.frames + 1 ≤ R.frames ∧ 8 + (maxL + 11) + rm.locals ≤ R.locals) (hrm : rm.cells = 0 ∧ rm.slots = 0)
    (hsize : ls.size = nL) (hst0 : st0 = As.reverse ++ .ref b :: rest) (hw : (rest.map fun v => v.category).sum ≤ 8) (hdg : decode cc pc = .ok (.invokevirtual index, 3)) (hf : cells ≤ R.cells ∧ slots ≤ R.slots)
    (kk : ∀ (v : Option Value) (f1 : Nat → va_E) (S : State) (H1 : Heap) (locs1 : List Loc), po v f1 → EV G cI cJ cZ cD cR cT A cc ret nL own p S m args meth c → DR s S → WX G cI cJ cZ cD cR cT A kp L f1 X S H1 locs1 → W p l e R S m args below meth c H1 locs1 cells slots Q (F0 m (pc + 3) ls (v.toList ++ rest))) : W p l e R S m args below meth c H locs cells slots Q (F0 m pc ls st0) := by
  have hW := wx_ws hX
  obtain ⟨hx, hb, -, hml, hown, hts, -, hKK, hA⟩ := id E
  obtain ⟨fs, e1, -, -⟩ := th_obj hW.2.2.2 hr hci
  obtain ⟨q, hq⟩ := ws_at hW hr.1
  rw [e1] at hq
  have hpv : PreV S H C b (va_Pc (.ref b :: As) (PreW G (tys6 cI cJ cZ cD cR cT) (va_pl L f) H.size)) As := ⟨preW_blind, va_recv hKK.1 hW.1 hcl hq, (pre_S (As := .ref b :: As) hKK hW).2⟩
  exact callTDX (mc := 0) (ms := 0) E hdr hX (va_runV_D ⟨hx, hb, hml, hown, hts⟩ hM ⟨callB_of As.length hts (good_y tw_good wk.1) rfl hrm.1 hrm.2 (hts _ wk.2.1) (hts _ hl) (by rw [hn]; exact wk.2.2.2.2) hR, hts _ wk.2.2.1, hts _ wk.2.2.2.1⟩ hpv rfl rfl hsize hst0 (lv_room hw) hdg hf) kk
/-- what a call keeps of its pool, over a bigger one -/
theorem eXD_I {v : Int32} (E : EV G cI cJ cZ cD cR cT A cc ret nL own p S m args meth c) (hdr : DR s S) (hE : EXT kp L kp1 L1) (hW : WS G cI cJ cZ cD cR cT A kp1 L1 f S H locs) (hret : ret = some .int) (hpo : px (some (.int v)) kp1 L1 f) (hdg : decode cc pc = .ok (.ireturn, 1)) : W p l e R S m args below meth c H locs cells slots (MQD lw_cs below (QX px G cI cJ cZ cD cR cT A kp L) args s cells slots A) (F0 m pc ls [.int v]) := by
  obtain ⟨d, hd, rfl⟩ := hdr
  exact W.endD hd (eX_I E hE hW hret hpo hdg)
theorem callXD {av : Array Value} (E : EV G cI cJ cZ cD cR cT A cc ret nL own p S m args meth c) (hdr : DR s S) (hW : WS G cI cJ cZ cD cR cT A kp L f S H locs) (hrun : va_RunD lw_cs p l e R S m args below meth c H locs cells slots mc ms (F0 m pc ls st0) rest (QX px G cI cJ cZ cD cR cT (va_A (va_pl L f) H.size) kp L av) (va_A (va_pl L f) H.size))
    (kk : ∀ (v : Option Value) (kp1 : Nat → Nat) (L1 : List Nat) (f1 : Nat → va_E) (S : State) (H1 : Heap) (locs1 : List Loc), EXT kp L kp1 L1 → px v kp1 L1 f1 → EV G cI cJ cZ cD cR cT A cc ret nL own p S m args meth c → DR s S → WS G cI cJ cZ cD cR cT A kp1 L1 f1 S H1 locs1 → W p l e R S m args below meth c H1 locs1 (cells + mc) (slots + ms) Q (F0 m (pc + 3) ls (v.toList ++ rest))) : W p l e R S m args below meth c H locs cells slots Q (F0 m pc ls st0) := by
  obtain ⟨d, hd, rfl⟩ := hdr
  have hF := hF_of E.2.2.2.2.2.2.2.2 hW
  obtain ⟨hP, hD, hS, hTH⟩ := hW
  intro T hT X0
  obtain ⟨v, st₀, t, T', Lo, d', hd', h0, X', hL, e1, e2, ⟨⟨v', kp1, L1, f1, hv, hE, hpo, hTH1, hP1, hD1⟩, hz, hk⟩, st⟩ := hrun T hT X0
  cases hv
  rw [h0] at hz hk
  obtain ⟨t2, a1, b1⟩ := kk v kp1 L1 f1 (s.setDrawn d') T'.heap (locs ++ Lo) hE hpo (ev_d E) ⟨d', hd.trans hd', rfl⟩ ⟨by rw [e1]; exact hP1, hD1.weaken (fun k q _ h => hF q.1 h), ⟨Nat.le_trans hS.1 (by rw [e1]; exact hz), fun x h1 h2 => by rw [e1, hk x (Nat.lt_of_lt_of_le h1 hS.1) (fun z => h2 (hF x z))]; exact hS.2.1 x h1 h2, fun x hx => by
      rcases List.mem_append.mp hx with h | h
      · exact hS.2.2 x h
      · exact hF _ (hL x h)⟩, hTH1⟩ T' rfl X'
  exact ⟨t2, st t2 a1, b1⟩
end CVDX
