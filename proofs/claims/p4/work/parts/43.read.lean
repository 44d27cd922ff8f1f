/-! a TEXT is read: null, or a new Text -/
theorem dX5_read_0 : decode cX5_read 0 = .ok (.aload_n 0, 1) := by decide +kernel
theorem dX5_read_1 : decode cX5_read 1 = .ok (.aload_n 1, 1) := by decide +kernel
theorem dX5_read_2 : decode cX5_read 2 = .ok (.invokevirtual 46, 3) := by decide +kernel
theorem dX5_read_5 : decode cX5_read 5 = .ok (.aload_n 0, 1) := by decide +kernel
theorem dX5_read_6 : decode cX5_read 6 = .ok (.iconst (-1), 1) := by decide +kernel
theorem dX5_read_7 : decode cX5_read 7 = .ok (.putfield 9, 3) := by decide +kernel
theorem dX5_read_10 : decode cX5_read 10 = .ok (.aload_n 0, 1) := by decide +kernel
theorem dX5_read_11 : decode cX5_read 11 = .ok (.iconst 0, 1) := by decide +kernel
theorem dX5_read_12 : decode cX5_read 12 = .ok (.putfield 50, 3) := by decide +kernel
theorem dX5_read_15 : decode cX5_read 15 = .ok (.aload_n 0, 1) := by decide +kernel
theorem dX5_read_16 : decode cX5_read 16 = .ok (.iconst 0, 1) := by decide +kernel
theorem dX5_read_17 : decode cX5_read 17 = .ok (.putfield 53, 3) := by decide +kernel
theorem dX5_read_20 : decode cX5_read 20 = .ok (.aload_n 0, 1) := by decide +kernel
theorem dX5_read_21 : decode cX5_read 21 = .ok (.iconst 0, 1) := by decide +kernel
theorem dX5_read_22 : decode cX5_read 22 = .ok (.putfield 57, 3) := by decide +kernel
theorem dX5_read_25 : decode cX5_read 25 = .ok (.aload_n 0, 1) := by decide +kernel
theorem dX5_read_26 : decode cX5_read 26 = .ok (.iconst 0, 1) := by decide +kernel
theorem dX5_read_27 : decode cX5_read 27 = .ok (.putfield 60, 3) := by decide +kernel
theorem dX5_read_30 : decode cX5_read 30 = .ok (.aload_n 0, 1) := by decide +kernel
theorem dX5_read_31 : decode cX5_read 31 = .ok (.iconst 0, 1) := by decide +kernel
theorem dX5_read_32 : decode cX5_read 32 = .ok (.putfield 63, 3) := by decide +kernel
theorem dX5_read_35 : decode cX5_read 35 = .ok (.aload_n 0, 1) := by decide +kernel
theorem dX5_read_36 : decode cX5_read 36 = .ok (.invokevirtual 66, 3) := by decide +kernel
theorem dX5_read_39 : decode cX5_read 39 = .ok (.iconst 0, 1) := by decide +kernel
theorem dX5_read_40 : decode cX5_read 40 = .ok (.istore_n 3, 1) := by decide +kernel
theorem dX5_read_41 : decode cX5_read 41 = .ok (.iload_n 3, 1) := by decide +kernel
theorem dX5_read_42 : decode cX5_read 42 = .ok (.aload_n 0, 1) := by decide +kernel
theorem dX5_read_43 : decode cX5_read 43 = .ok (.getfield 69, 3) := by decide +kernel
theorem dX5_read_46 : decode cX5_read 46 = .ok (.if_icmp .ge 45, 3) := by decide +kernel
theorem dX5_read_49 : decode cX5_read 49 = .ok (.aload_n 0, 1) := by decide +kernel
theorem dX5_read_50 : decode cX5_read 50 = .ok (.getfield 9, 3) := by decide +kernel
theorem dX5_read_53 : decode cX5_read 53 = .ok (.iconst (-1), 1) := by decide +kernel
theorem dX5_read_54 : decode cX5_read 54 = .ok (.if_icmp .ne 37, 3) := by decide +kernel
theorem dX5_read_57 : decode cX5_read 57 = .ok (.aload_n 0, 1) := by decide +kernel
theorem dX5_read_58 : decode cX5_read 58 = .ok (.getfield 37, 3) := by decide +kernel
theorem dX5_read_61 : decode cX5_read 61 = .ok (.aload_n 0, 1) := by decide +kernel
theorem dX5_read_62 : decode cX5_read 62 = .ok (.getfield 60, 3) := by decide +kernel
theorem dX5_read_65 : decode cX5_read 65 = .ok (.iaload, 1) := by decide +kernel
theorem dX5_read_66 : decode cX5_read 66 = .ok (.bipush 59, 2) := by decide +kernel
theorem dX5_read_68 : decode cX5_read 68 = .ok (.if_icmp .ne 23, 3) := by decide +kernel
theorem dX5_read_71 : decode cX5_read 71 = .ok (.aload_n 0, 1) := by decide +kernel
theorem dX5_read_72 : decode cX5_read 72 = .ok (.dup, 1) := by decide +kernel
theorem dX5_read_73 : decode cX5_read 73 = .ok (.getfield 60, 3) := by decide +kernel
theorem dX5_read_76 : decode cX5_read 76 = .ok (.iconst 1, 1) := by decide +kernel
theorem dX5_read_77 : decode cX5_read 77 = .ok (.iadd, 1) := by decide +kernel
theorem dX5_read_78 : decode cX5_read 78 = .ok (.putfield 60, 3) := by decide +kernel
theorem dX5_read_81 : decode cX5_read 81 = .ok (.aload_n 0, 1) := by decide +kernel
theorem dX5_read_82 : decode cX5_read 82 = .ok (.invokevirtual 66, 3) := by decide +kernel
theorem dX5_read_85 : decode cX5_read 85 = .ok (.iinc 3 1, 3) := by decide +kernel
theorem dX5_read_88 : decode cX5_read 88 = .ok (.goto (-47), 3) := by decide +kernel
theorem dX5_read_91 : decode cX5_read 91 = .ok (.aload_n 0, 1) := by decide +kernel
theorem dX5_read_92 : decode cX5_read 92 = .ok (.getfield 37, 3) := by decide +kernel
theorem dX5_read_95 : decode cX5_read 95 = .ok (.aload_n 0, 1) := by decide +kernel
theorem dX5_read_96 : decode cX5_read 96 = .ok (.getfield 60, 3) := by decide +kernel
theorem dX5_read_99 : decode cX5_read 99 = .ok (.iaload, 1) := by decide +kernel
theorem dX5_read_100 : decode cX5_read 100 = .ok (.sipush 302, 3) := by decide +kernel
theorem dX5_read_103 : decode cX5_read 103 = .ok (.if_icmp .eq 7, 3) := by decide +kernel
theorem dX5_read_106 : decode cX5_read 106 = .ok (.aload_n 0, 1) := by decide +kernel
theorem dX5_read_107 : decode cX5_read 107 = .ok (.invokevirtual 72, 3) := by decide +kernel
theorem dX5_read_110 : decode cX5_read 110 = .ok (.aload_n 0, 1) := by decide +kernel
theorem dX5_read_111 : decode cX5_read 111 = .ok (.getfield 9, 3) := by decide +kernel
theorem dX5_read_114 : decode cX5_read 114 = .ok (.iconst (-1), 1) := by decide +kernel
theorem dX5_read_115 : decode cX5_read 115 = .ok (.if_icmp .ne 15, 3) := by decide +kernel
theorem dX5_read_118 : decode cX5_read 118 = .ok (.new 75, 3) := by decide +kernel
theorem dX5_read_121 : decode cX5_read 121 = .ok (.dup, 1) := by decide +kernel
theorem dX5_read_122 : decode cX5_read 122 = .ok (.iload_n 2, 1) := by decide +kernel
theorem dX5_read_123 : decode cX5_read 123 = .ok (.aload_n 0, 1) := by decide +kernel
theorem dX5_read_124 : decode cX5_read 124 = .ok (.invokespecial 77, 3) := by decide +kernel
theorem dX5_read_127 : decode cX5_read 127 = .ok (.goto 4, 3) := by decide +kernel
theorem dX5_read_130 : decode cX5_read 130 = .ok (.aconst_null, 1) := by decide +kernel
theorem dX5_read_131 : decode cX5_read 131 = .ok (.areturn, 1) := by decide +kernel
/-- strings and castable -/
def PreSC (σ : SE) (G : va_G) (ty : List (ClassId × FieldType)) (ws : va_W) (sz : Nat) : State → Prop := fun U => PreWS σ G ty ws sz U ∧ CA U
theorem preSC_blind {σ : SE} {G : va_G} {ty : List (ClassId × FieldType)} {ws : va_W} {sz : Nat} {As : List Value} : FrameBlind (va_Pc As (PreSC σ G ty ws sz)) := fun a U g mk q => by
  obtain ⟨q0, q1, q2⟩ := q
  exact ⟨q0, (preWS_blind (As := As) a U g mk ⟨q0, q1⟩).2, CA.moved (u := U) (U := U.calling g mk a) (Vm.Alike.refl U.vm) q2⟩
theorem metTSC {l : Launch} {y : MethodName} {rm : Room} {As : List Value} {σ : SE} {G : va_G} {cI cJ cZ cD cR cT : ClassId} {kp : Nat → Nat} {L : List Nat} {f : Nat → va_E} {sz : Nat} {po : Option Value → (Nat → Nat) → List Nat → (Nat → va_E) → Prop} {mc ms : Nat} {cc : ByteArray} {maxL : Nat} {ret : Option FieldType}
    (hy : plainName y.cls = true) (hL : (lg_sl As).length ≤ maxL) (hTH : TH cI cJ cZ cD cR cT kp L f)
    (body : ∀ (p : Program) (e : Env) (s : State) (m : MethodId) (below : List Frame) (meth : Method) (c : Code) (A : Nat → Prop) (ls : Array Slot), EV G cI cJ cZ cD cR cT A cc ret maxL y.cls p s m As.toArray meth c → SX σ A s s.heap → CA s → WS G cI cJ cZ cD cR cT A kp L f s s.heap [] → lv_has ls maxL (lv_args 0 As) → W p l e rm s m As.toArray below meth c s.heap [] 0 0 (MQ below (QX po G cI cJ cZ cD cR cT A kp L) As.toArray s mc ms A) (F0 m 0 ls [])) :
    Met l y (Cond.code y cc maxL ret :: wTab) rm (va_Pc As (PreSC σ G (tys6 cI cJ cZ cD cR cT) (va_pl L f) sz)) (QX po G cI cJ cZ cD cR cT (va_A (va_pl L f) sz) kp L) mc ms (va_A (va_pl L f) sz) := by
  refine Met.ofW (cc := cc) (maxL := maxL) (ret := ret) hy rfl ?_
  intro p e s m args below meth c s₁ B hml hv
  obtain ⟨rfl, ⟨⟨hsz, hP, hK, hD0⟩, hSX⟩, hCA⟩ := hv
  have hts := atoms_spec (ws := Cond.code y cc maxL ret :: wTab) B.pre
  subst hsz
  have hl := lv_entry As (n := maxL) hL
  rw [lg_entry_eq]
  exact body p e s m below meth c (va_A (va_pl L f) s.heap.size) _ ⟨B.exec, B.bytes, B.returns, hml, findClass_of_methodNamed B.named, fun w hw => hts w (List.mem_cons_of_mem _ hw), B.notSynchronized, hK, fun q h => Or.inr h⟩ hSX hCA ⟨hP, hD0.self, va_S.rf, hTH⟩ hl
section XSC
variable {p : Program} {l : Launch} {e : Env} {R : Room} {s : State} {m : MethodId} {args : Array Value} {below : List Frame} {meth : Method} {c : Code} {H : Heap} {locs : List Loc} {cells slots : Nat} {Q : State → Prop}
variable {cc : ByteArray} {pc : Nat} {ls : Array Slot} {rest st0 : List Value} {G : va_G} {A : Nat → Prop} {cI cJ cZ cD cR cT : ClassId} {ret rety : Option FieldType} {nL : Nat} {own : String} {kp kp1 : Nat → Nat} {L L1 : List Nat} {f : Nat → va_E} {a K ci k index : Nat} {C : String} {T : u_T} {N : Nat} {X : va_W} {σ : SE}
variable {mc ms : Nat} {px : Option Value → (Nat → Nat) → List Nat → (Nat → va_E) → Prop} {y : MethodName} {bytes : ByteArray} {maxL n : Nat} {rm : Room} {As : List Value}
theorem pre_SSC (E : EV G cI cJ cZ cD cR cT A cc ret nL own p s m args meth c) (hSX : SX σ A s s.heap) (hCA : CA s) (hW : WS G cI cJ cZ cD cR cT A kp L f s H locs) : PreS s H (va_Pc As (PreSC σ G (tys6 cI cJ cZ cD cR cT) (va_pl L f) H.size)) As :=
  ⟨preSC_blind, fun U hU hw => ⟨rfl, ((pre_SS (As := As) E hSX hW).2 U hU hw).2, CA.moved hw.alike hCA⟩⟩
/-- a call of a method that reads strings and makes objects -/
theorem t_callVSC (E : EV G cI cJ cZ cD cR cT A cc ret nL own p s m args meth c) (hSX : SX σ A s s.heap) (hCA : CA s) (hW : WS G cI cJ cZ cD cR cT A kp L f s H locs) {b : Nat} (hM : Met l y (Cond.code y bytes maxL rety :: wTab) rm (va_Pc (.ref b :: As) (PreSC σ G (tys6 cI cJ cZ cD cR cT) (va_pl L f) H.size)) (QX px G cI cJ cZ cD cR cT (va_A (va_pl L f) H.size) kp L) mc ms (va_A (va_pl L f) H.size))
    (hr : RK kp L b ci) (hci : ci < 100) (hcl : vwCl[ci]? = some (C, T, N)) (wk : Cond.code y bytes maxL rety ∈ wTab ∧ Cond.initialized y.cls ∈ wTab ∧ Cond.instanceMethod y ∈ wTab ∧ Cond.selects C y y ∈ wTab ∧ (y.cls ≠ "java/lang/invoke/MethodHandle" ∧ y.cls ≠ "java/lang/invoke/VarHandle" ∧ (parseMethodDescriptor y.desc).map (fun d => d.parameters.length) = some n)) (hl : Cond.methodLink own index y ∈ wTab)
    (hn : As.length = n) (hR : rm.frames + 1 ≤ R.frames ∧ 8 + (maxL + 11) + rm.locals ≤ R.locals) (hrm : rm.cells = mc ∧ rm.slots = ms)
    (hsize : ls.size = nL) (hst0 : st0 = As.reverse ++ .ref b :: rest) (hw : (rest.map fun v => v.category).sum ≤ 8) (hdg : decode cc pc = .ok (.invokevirtual index, 3)) (hf : cells + mc ≤ R.cells ∧ slots + ms ≤ R.slots)
    (kk : ∀ (v : Option Value) (kp1 : Nat → Nat) (L1 : List Nat) (f1 : Nat → va_E) (H1 : Heap) (locs1 : List Loc), EXT kp L kp1 L1 → px v kp1 L1 f1 → WS G cI cJ cZ cD cR cT A kp1 L1 f1 s H1 locs1 → W p l e R s m args below meth c H1 locs1 (cells + mc) (slots + ms) Q (F0 m (pc + 3) ls (v.toList ++ rest))) : W p l e R s m args below meth c H locs cells slots Q (F0 m pc ls st0) := by
  obtain ⟨hx, hb, -, hml, hown, hts, -, hKK, hA⟩ := id E
  obtain ⟨fs, e1, -, -⟩ := th_obj hW.2.2.2 hr hci
  obtain ⟨q, hq⟩ := ws_at hW hr.1
  rw [e1] at hq
  have hpv : PreV s H C b (va_Pc (.ref b :: As) (PreSC σ G (tys6 cI cJ cZ cD cR cT) (va_pl L f) H.size)) As := ⟨preSC_blind, va_recv hKK.1 hW.1 hcl hq, (pre_SSC (As := .ref b :: As) E hSX hCA hW).2⟩
  exact callX hA hW (va_runV ⟨hx, hb, hml, hown, hts⟩ hM ⟨callB_of As.length hts (good_y tw_good wk.1) rfl hrm.1 hrm.2 (hts _ wk.2.1) (hts _ hl) (by rw [hn]; exact wk.2.2.2.2) hR, hts _ wk.2.2.1, hts _ wk.2.2.2.1⟩ hpv rfl rfl hsize hst0 (lv_room hw) hdg hf) kk
/-- the constructor's call: the cell beside is taken into the pool -/
theorem callXI {av : Array Value} (hA : ∀ q : Nat, s.heap.size ≤ q → A q) (hX : WX G cI cJ cZ cD cR cT A kp L f X s H locs) (hrun : va_Run p l e R s m args below meth c H locs cells slots mc ms (F0 m pc ls st0) rest (QX px G cI cJ cZ cD cR cT (va_A (va_pl L f ++ X) H.size) kp L av) (va_A (va_pl L f ++ X) H.size))
    (kk : ∀ (v : Option Value) (kp1 : Nat → Nat) (L1 : List Nat) (f1 : Nat → va_E) (H1 : Heap) (locs1 : List Loc), EXT kp L kp1 L1 → px v kp1 L1 f1 → WS G cI cJ cZ cD cR cT A kp1 L1 f1 s H1 locs1 → W p l e R s m args below meth c H1 locs1 (cells + mc) (slots + ms) Q (F0 m (pc + 3) ls (v.toList ++ rest))) : W p l e R s m args below meth c H locs cells slots Q (F0 m pc ls st0) := by
  obtain ⟨hP, hD, hS, hTH⟩ := hX
  have hF : ∀ q : Nat, va_A (va_pl L f ++ X) H.size q → A q := fun q h => by
    rcases h with ⟨k, x, hk⟩ | h
    · exact hD.2 k _ hk
    · exact hA q (Nat.le_trans hS.1 h)
  intro T hT X0
  obtain ⟨v, st₀, t, T', Lo, h0, X', hL, e1, e2, ⟨⟨v', kp1, L1, f1, hv, hE, hpo, hTH1, hP1, hD1⟩, hz, hk⟩, st⟩ := hrun T hT X0
  cases hv
  rw [h0] at hz hk
  obtain ⟨t2, a1, b1⟩ := kk v kp1 L1 f1 T'.heap (locs ++ Lo) hE hpo ⟨by rw [e1]; exact hP1, hD1.weaken (fun k q _ h => hF q.1 h), ⟨Nat.le_trans hS.1 (by rw [e1]; exact hz), fun x h1 h2 => by rw [e1, hk x (Nat.lt_of_lt_of_le h1 hS.1) (fun z => h2 (hF x z))]; exact hS.2.1 x h1 h2, fun x hx => by
      rcases List.mem_append.mp hx with h | h
      · exact hS.2.2 x h
      · exact hF _ (hL x h)⟩, hTH1⟩ T' rfl X'
  exact ⟨t2, st t2 a1, b1⟩
theorem x_new9 (E : EV G cI cJ cZ cD cR cT A cc ret nL RX5 p s m args meth c) (hW : WS G cI cJ cZ cD cR cT A kp L f s H locs) (hcells : cells + 1 ≤ R.cells) (hslots : slots + 10 ≤ R.slots) (hdg : decode cc pc = .ok (.new 75, 3))
    (kk : ∀ (a : Nat) (H1 : Heap), a ∉ L → WX G cI cJ cZ cD cR cT A kp L f [(a, .inr (9, fsX9))] s H1 locs → W p l e R s m args below meth c H1 locs (cells + 1) (slots + 10) Q (F0 m (pc + 3) ls (.ref a :: rest))) : W p l e R s m args below meth c H locs cells slots Q (F0 m pc ls rest) := by
  obtain ⟨hx, hb, -, hml, hown, hts, -, hKK, hA⟩ := id E
  refine va_new (C := RX9) (T := TX9) (N := 10) (ci := 9) hx hb hts tb_X9 tyX9 tyX9_ok hown (hts _ tw_985) (hts _ tw_986) (hts _ tw_121) hKK.1 hW.1 hW.2.1 hW.2.2.1 hA rfl (fs := fsX9) (by decide +kernel) hcells hslots hdg (fun q H1 hP hD hS => kk q H1 ?_ ⟨hP, hD, hS, hW.2.2.2⟩)
  exact va_pl_fresh2 (X := []) (by simpa using hD)
theorem x_init9 {t r : Nat} {u : Int32} (E : EV G cI cJ cZ cD cR cT A cc ret nL RX5 p s m args meth c) (hCA : CA s) (hX : WX G cI cJ cZ cD cR cT A kp L f [(t, .inr (9, fsX9))] s H locs) (rr : RK kp L r 5) (hRC : rdC f r) (hR : 3 ≤ R.frames ∧ 8 + (3 + 11) + 160 ≤ R.locals) (hsize : ls.size = nL) (hw : (rest.map fun v => v.category).sum ≤ 8) (hdg : decode cc pc = .ok (.invokespecial 77, 3)) (hf : cells + 7 ≤ R.cells ∧ slots + 2800 ≤ R.slots)
    (kk : ∀ (kp1 : Nat → Nat) (L1 : List Nat) (f1 : Nat → va_E) (H1 : Heap) (locs1 : List Loc), EXT kp L kp1 L1 → RK kp1 L1 t 9 → FM kp L [] f f1 → WS G cI cJ cZ cD cR cT A kp1 L1 f1 s H1 locs1 → W p l e R s m args below meth c H1 locs1 (cells + 7) (slots + 2800) Q (F0 m (pc + 3) ls rest)) : W p l e R s m args below meth c H locs cells slots Q (F0 m pc ls (.ref r :: .int u :: .ref t :: rest)) := by
  obtain ⟨hx, hb, -, hml, hown, hts, -, hKK, hA⟩ := id E
  have hpre : PreS s H (va_Pc [.ref t, .int u, .ref r] (PreC G (tys6 cI cJ cZ cD cR cT) (va_pl L f ++ [(t, .inr (9, fsX9))]) H.size)) [.ref t, .int u, .ref r] :=
    ⟨preC_blind, fun U hU hW => ⟨rfl, ⟨by rw [hU], by rw [hU]; exact hX.1, KK.moved hW.alike hKK, hX.2.1.weaken (fun _ _ _ _ => trivial)⟩, CA.moved hW.alike hCA⟩⟩
  refine callXI hA hX (va_runI (As := [.int u, .ref r]) (rest := rest) ⟨hx, hb, hml, hown, hts⟩ (c_X9_init l G cI cJ cZ cD cR cT kp L f hX.2.2.2 H.size t u r rr hRC) ⟨callB_of 2 hts (good_y tw_good tw_989) rfl rfl rfl (hts _ tw_121) (hts _ tw_987) (by decide +kernel) hR, rfl, hts _ tw_988⟩ hpre rfl rfl hsize rfl (lv_room hw) hdg hf) (fun v kp1 L1 f1 H1 locs1 hE hpo hW1 => ?_)
  obtain ⟨rfl, rt, -, g⟩ := hpo
  exact kk kp1 L1 f1 H1 locs1 hE rt g hW1
end XSC
def ms_X5_read : List (Nat × Nat) := [(5, 0), (5, 1), (5, 2), (5, 8), (5, 11), (5, 15), (5, 16), (403, 0), (404, 0), (405, 0), (406, 0), (407, 0), (409, 0), (410, 0), (412, 0), (413, 0), (414, 0)]
def poRead (kp : Nat → Nat) (L : List Nat) (f0 : Nat → va_E) : Option Value → (Nat → Nat) → List Nat → (Nat → va_E) → Prop := fun v kp1 L1 f => (v = some .null ∨ ∃ t, v = some (.ref t) ∧ RK kp1 L1 t 9) ∧ FM kp L ms_X5_read f0 f
set_option maxHeartbeats 4000000 in
set_option maxRecDepth 100000 in
theorem read_end (l : Launch) (G : va_G) (cI cJ cZ cD cR cT : ClassId) (kp : Nat → Nat) (L : List Nat) (f0 : Nat → va_E) (p : Program) (e : Env) (s : State) (m : MethodId) (below : List Frame) (meth : Method) (c : Code) (A : Nat → Prop) (h0 u1 : Nat) (u2 : Int32) (rh0 : RK kp L h0 5) (f : Nat → va_E) (ls : Array Slot) (H : Heap) (locs : List Loc) (E : EV G cI cJ cZ cD cR cT A cX5_read (some (.object "NoRent$Text")) 4 yX5_read.cls p s m ([.ref h0, .ref u1, .int u2] : List Value).toArray meth c) (hCA : CA s) (hW : WS G cI cJ cZ cD cR cT A kp L f s H locs) (hRC : rdC f h0) (hF : FM kp L ms_X5_read f0 f) (hl : lv_has ls 4 [(0, .ref h0), (2, .int u2)]) : W p l e ({ frames := 24, cells := 8, slots := 2810, locals := 600 }) s m ([.ref h0, .ref u1, .int u2] : List Value).toArray below meth c H locs 0 0 (MQ below (QX (poRead kp L f0) G cI cJ cZ cD cR cT A kp L) ([.ref h0, .ref u1, .int u2] : List Value).toArray s 8 2810 A) (F0 m 110 ls []) := by
  obtain ⟨hx, hb, -, hml, hown, hts, -, -, -⟩ := id E
  have hrt : (∃ n, FieldType.object "NoRent$Text" = .object n) ∨ ∃ t, FieldType.object "NoRent$Text" = .array t := Or.inl ⟨_, rfl⟩
  refine lv_aload_n hx hb dX5_read_110 rfl (lv_at hl 0 rfl) ?_
  refine fg_RX5_9 E hW rh0 dX5_read_111 (fun y1 m1 => ?_)
  refine lv_iconst (v := (-1)) hx hb dX5_read_114 (by decide) ?_
  refine q_icmp_ne (Y := -1) (tgt := 130) hx hb dX5_read_115 (by decide) rfl rfl (fun c1 => ?_) (fun c1 => ?_)
  · refine lv_null hx hb dX5_read_130 ?_
    refine W.widen (k := 8) (n := 2810) (Nat.le_of_ble_eq_true rfl) (Nat.le_of_ble_eq_true rfl) ?_
    exact eX_R E ext_rf hW rfl hrt (Or.inl rfl) ⟨Or.inl rfl, hF⟩ dX5_read_131
  · refine x_new9 E hW (Nat.le_of_ble_eq_true rfl) (Nat.le_of_ble_eq_true rfl) dX5_read_118 (fun t H htL hX => ?_)
    refine lv_dup hx hb dX5_read_121 rfl ?_
    refine lv_iload_n hx hb dX5_read_122 rfl (lv_at hl 1 rfl) ?_
    refine lv_aload_n hx hb dX5_read_123 rfl (lv_at hl 0 rfl) ?_
    refine x_init9 (rest := [.ref t]) E hCA hX rh0 hRC ⟨Nat.le_of_ble_eq_true rfl, Nat.le_of_ble_eq_true rfl⟩ hl.1 (Nat.le_of_ble_eq_true rfl) dX5_read_124 ⟨by show 0 + 1 + 7 ≤ 8; omega, by show 0 + 10 + 2800 ≤ 2810; omega⟩ (fun kp1 L1 f1 H locs hE rt g1 hW => ?_)
    refine lv_goto (tgt := 131) hx hb dX5_read_127 (by decide) ?_
    refine W.more (c2 := 8) (s2 := 2810) (by omega) (by omega) ?_
    exact eX_R E hE hW rfl hrt (Or.inr ⟨_, rfl⟩) ⟨Or.inr ⟨t, rfl, rt⟩, FM.tr hF g1 (by decide +kernel)⟩ dX5_read_131
set_option maxHeartbeats 4000000 in
set_option maxRecDepth 100000 in
theorem read_end0 (l : Launch) (G : va_G) (cI cJ cZ cD cR cT : ClassId) (kp : Nat → Nat) (L : List Nat) (f0 : Nat → va_E) (p : Program) (e : Env) (s : State) (m : MethodId) (below : List Frame) (meth : Method) (c : Code) (A : Nat → Prop) (h0 u1 : Nat) (u2 : Int32) (rh0 : RK kp L h0 5) (f : Nat → va_E) (ls : Array Slot) (H : Heap) (locs : List Loc) (E : EV G cI cJ cZ cD cR cT A cX5_read (some (.object "NoRent$Text")) 4 yX5_read.cls p s m ([.ref h0, .ref u1, .int u2] : List Value).toArray meth c) (hCA : CA s) (hW : WS G cI cJ cZ cD cR cT A kp L f s H locs) (hRI : rdI f h0) (hRC : rdC f h0) (hF : FM kp L ms_X5_read f0 f) (hl : lv_has ls 4 [(0, .ref h0), (2, .int u2)]) : W p l e ({ frames := 24, cells := 8, slots := 2810, locals := 600 }) s m ([.ref h0, .ref u1, .int u2] : List Value).toArray below meth c H locs 0 0 (MQ below (QX (poRead kp L f0) G cI cJ cZ cD cR cT A kp L) ([.ref h0, .ref u1, .int u2] : List Value).toArray s 8 2810 A) (F0 m 91 ls []) := by
  obtain ⟨hx, hb, -, hml, hown, hts, -, -, -⟩ := id E
  refine lv_aload_n hx hb dX5_read_91 rfl (lv_at hl 0 rfl) ?_
  refine fg_RX5_37 E hW rh0 dX5_read_92 (fun a1 m1 r1 => ?_)
  refine lv_aload_n hx hb dX5_read_95 rfl (lv_at hl 0 rfl) ?_
  refine fg_RX5_60 E hW rh0 dX5_read_96 (fun y2 m2 b2 => ?_)
  refine gl_412 E hW r1 ⟨by omega, by omega⟩ dX5_read_99 (fun y3 m3 => ?_)
  refine lv_sipush (v := 302) hx hb dX5_read_100 (by decide) ?_
  refine q_icmp_eq (Y := 302) (tgt := 110) hx hb dX5_read_103 (by decide) rfl rfl (fun c1 => ?_) (fun c1 => ?_)
  · exact read_end l G cI cJ cZ cD cR cT kp L f0 p e s m below meth c A h0 u1 u2 rh0 f ls H locs E hCA hW hRC hF hl
  · refine lv_aload_n hx hb dX5_read_106 rfl (lv_at hl 0 rfl) ?_
    refine t_callV (As := []) (rest := []) E hW (c_X5_fail l G cI cJ cZ cD cR cT kp L f hW.2.2.2 _ h0 rh0 hRI) rh0 (by decide) rfl wk_X5_fail tw_941 rfl ⟨Nat.le_of_ble_eq_true rfl, Nat.le_of_ble_eq_true rfl⟩ ⟨rfl, rfl⟩ hl.1 rfl (Nat.le_of_ble_eq_true rfl) dX5_read_107 ⟨Nat.le_of_ble_eq_true rfl, Nat.le_of_ble_eq_true rfl⟩ (fun v f1 H locs q hW1 => ?_)
    obtain ⟨rfl, g1, j1, -⟩ := q
    exact read_end l G cI cJ cZ cD cR cT kp L f0 p e s m below meth c A h0 u1 u2 rh0 f1 ls H locs E hCA hW1 (rc_keep hRC hW.2.2.2 g1 rh0 rfl rfl rfl rfl rfl j1.2) (FM.tr hF g1 (by decide +kernel)) hl
set_option maxHeartbeats 4000000 in
set_option maxRecDepth 100000 in
theorem read_loop (l : Launch) (G : va_G) (cI cJ cZ cD cR cT : ClassId) (kp : Nat → Nat) (L : List Nat) (f0 : Nat → va_E) (p : Program) (e : Env) (s : State) (m : MethodId) (below : List Frame) (meth : Method) (c : Code) (A : Nat → Prop) (h0 u1 : Nat) (u2 : Int32) (rh0 : RK kp L h0 5) (E : EV G cI cJ cZ cD cR cT A cX5_read (some (.object "NoRent$Text")) 4 yX5_read.cls p s m ([.ref h0, .ref u1, .int u2] : List Value).toArray meth c) (hCA : CA s) : ∀ (n : Nat) (x : Int32) (f : Nat → va_E) (ls : Array Slot) (H : Heap) (locs : List Loc), 0 ≤ x.toInt → x.toInt ≤ 400 → 400 - x.toInt ≤ (n : Int) → WS G cI cJ cZ cD cR cT A kp L f s H locs → rdI f h0 → rdC f h0 → FM kp L ms_X5_read f0 f → lv_has ls 4 [(3, .int x), (0, .ref h0), (2, .int u2)] → W p l e ({ frames := 24, cells := 8, slots := 2810, locals := 600 }) s m ([.ref h0, .ref u1, .int u2] : List Value).toArray below meth c H locs 0 0 (MQ below (QX (poRead kp L f0) G cI cJ cZ cD cR cT A kp L) ([.ref h0, .ref u1, .int u2] : List Value).toArray s 8 2810 A) (F0 m 41 ls []) := by
  obtain ⟨hx, hb, -, hml, hown, hts, -, -, -⟩ := id E
  intro n
  induction n with
  | zero =>
    intro x f ls H locs px0 px1 hn hW hRI hRC hF hl
    refine lv_iload_n hx hb dX5_read_41 rfl (lv_at hl 0 rfl) ?_
    refine lv_aload_n hx hb dX5_read_42 rfl (lv_at hl 1 rfl) ?_
    refine fg_RX5_69 E hW rh0 dX5_read_43 (fun y1 m1 b1 => ?_)
    refine q_icmp_ge (tgt := 91) hx hb dX5_read_46 (by decide) rfl rfl (fun c1 => ?_) (fun c1 => ?_)
    · exact read_end0 l G cI cJ cZ cD cR cT kp L f0 p e s m below meth c A h0 u1 u2 rh0 f ls H locs E hCA hW hRI hRC hF (lv_sub hl [1, 2] rfl)
    · exact absurd c1 (by omega)
  | succ n ih =>
    intro x f ls H locs px0 px1 hn hW hRI hRC hF hl
    refine lv_iload_n hx hb dX5_read_41 rfl (lv_at hl 0 rfl) ?_
    refine lv_aload_n hx hb dX5_read_42 rfl (lv_at hl 1 rfl) ?_
    refine fg_RX5_69 E hW rh0 dX5_read_43 (fun y1 m1 b1 => ?_)
    refine q_icmp_ge (tgt := 91) hx hb dX5_read_46 (by decide) rfl rfl (fun c1 => ?_) (fun c1 => ?_)
    · exact read_end0 l G cI cJ cZ cD cR cT kp L f0 p e s m below meth c A h0 u1 u2 rh0 f ls H locs E hCA hW hRI hRC hF (lv_sub hl [1, 2] rfl)
    · refine lv_aload_n hx hb dX5_read_49 rfl (lv_at hl 1 rfl) ?_
      refine fg_RX5_9 E hW rh0 dX5_read_50 (fun y2 m2 => ?_)
      refine lv_iconst (v := (-1)) hx hb dX5_read_53 (by decide) ?_
      refine q_icmp_ne (Y := -1) (tgt := 91) hx hb dX5_read_54 (by decide) rfl rfl (fun c2 => ?_) (fun c2 => ?_)
      · exact read_end0 l G cI cJ cZ cD cR cT kp L f0 p e s m below meth c A h0 u1 u2 rh0 f ls H locs E hCA hW hRI hRC hF (lv_sub hl [1, 2] rfl)
      · refine lv_aload_n hx hb dX5_read_57 rfl (lv_at hl 1 rfl) ?_
        refine fg_RX5_37 E hW rh0 dX5_read_58 (fun a3 m3 r3 => ?_)
        refine lv_aload_n hx hb dX5_read_61 rfl (lv_at hl 1 rfl) ?_
        refine fg_RX5_60 E hW rh0 dX5_read_62 (fun y4 m4 b4 => ?_)
        refine gl_412 E hW r3 ⟨by omega, by omega⟩ dX5_read_65 (fun y5 m5 => ?_)
        refine lv_bipush (v := 59) hx hb dX5_read_66 (by decide) ?_
        refine q_icmp_ne (Y := 59) (tgt := 91) hx hb dX5_read_68 (by decide) rfl rfl (fun c3 => ?_) (fun c3 => ?_)
        · exact read_end0 l G cI cJ cZ cD cR cT kp L f0 p e s m below meth c A h0 u1 u2 rh0 f ls H locs E hCA hW hRI hRC hF (lv_sub hl [1, 2] rfl)
        · refine lv_aload_n hx hb dX5_read_71 rfl (lv_at hl 1 rfl) ?_
          refine lv_dup hx hb dX5_read_72 rfl ?_
          refine fg_RX5_60 E hW rh0 dX5_read_73 (fun y6 m6 b6 => ?_)
          obtain rfl : y4 = y6 := (m4).symm.trans m6
          refine lv_iconst (v := 1) hx hb dX5_read_76 (by decide) ?_
          have lt := ri_lt hRI m4 m3 m5 (by omega)
          have le := tok_le hW rh0
          refine q_iadd (Y := 1) hx hb dX5_read_77 rfl rfl (by omega) (fun x7 h7 => ?_)
          have hW0 := hW.2.2.2
          refine fp_RX5_60 E hW rh0 (by omega) dX5_read_78 (fun f1 H locs e8 n8 g8 hW => ?_)
          have j1 : rdJ f f1 h0 := rj_at hW0 (rj_0 hRI) g8 rh0 e8 (by omega)
          have q1 : rdC f1 h0 := rc_keep hRC hW0 g8 rh0 rfl rfl rfl rfl rfl j1.2
          refine lv_aload_n hx hb dX5_read_81 rfl (lv_at hl 1 rfl) ?_
          refine t_callV (As := []) (rest := []) E hW (c_X5_readClause l G cI cJ cZ cD cR cT kp L f1 hW.2.2.2 _ h0 rh0 j1.1 q1) rh0 (by decide) rfl wk_X5_readClause tw_937 rfl ⟨Nat.le_of_ble_eq_true rfl, Nat.le_of_ble_eq_true rfl⟩ ⟨rfl, rfl⟩ hl.1 rfl (Nat.le_of_ble_eq_true rfl) dX5_read_82 ⟨Nat.le_of_ble_eq_true rfl, Nat.le_of_ble_eq_true rfl⟩ (fun v f2 H locs q hW => ?_)
          obtain ⟨rfl, g2, j2, q2⟩ := q
          refine q_iinc hx hb dX5_read_85 hl (k := 0) rfl rfl rfl (by omega) (by decide) (fun x9 ls h9 hl => ?_)
          refine lv_goto (tgt := 41) hx hb dX5_read_88 (by decide) ?_
          exact ih x9 f2 ls H locs (by omega) (by omega) (by omega) hW j2.1 q2 (FM.tr (FM.tr hF g8 (by decide +kernel)) g2 (by decide +kernel)) hl
set_option maxHeartbeats 4000000 in
set_option maxRecDepth 100000 in
/-- a TEXT is read off the tape -/
theorem c_X5_read (l : Launch) (G : va_G) (cI cJ cZ cD cR cT : ClassId) (kp : Nat → Nat) (L : List Nat) (f0 : Nat → va_E) (hTH : TH cI cJ cZ cD cR cT kp L f0) (sz : Nat) (σ : SE) (h0 u1 : Nat) (u2 : Int32) (rh0 : RK kp L h0 5) (ru1 : RK kp L u1 8) : Met l yX5_read (Cond.code yX5_read cX5_read 4 (some (.object "NoRent$Text")) :: wTab) ({ frames := 24, cells := 8, slots := 2810, locals := 600 }) (va_Pc [.ref h0, .ref u1, .int u2] (PreSC σ G (tys6 cI cJ cZ cD cR cT) (va_pl L f0) sz)) (QX (poRead kp L f0) G cI cJ cZ cD cR cT (va_A (va_pl L f0) sz) kp L) 8 2810 (va_A (va_pl L f0) sz) := by
  refine metTSC (by decide) (Nat.le_of_ble_eq_true rfl) hTH ?_
  intro p e s m below meth c A ls E hSX hCA hW hl
  obtain ⟨hx, hb, -, hml, hown, hts, -, -, -⟩ := id E
  have hl : lv_has ls 4 [(0, .ref h0), (1, .ref u1), (2, .int u2)] := hl
  refine lv_aload_n hx hb dX5_read_0 rfl (lv_at hl 0 rfl) ?_
  refine lv_aload_n hx hb dX5_read_1 rfl (lv_at hl 1 rfl) ?_
  refine t_callVS (As := [.ref u1]) (rest := []) E hSX hW (c_X5_split l G cI cJ cZ cD cR cT kp L f0 hW.2.2.2 _ σ h0 u1 rh0 ru1) rh0 (by decide) rfl wk_X5_split tw_867 rfl ⟨Nat.le_of_ble_eq_true rfl, Nat.le_of_ble_eq_true rfl⟩ ⟨rfl, rfl⟩ hl.1 rfl (Nat.le_of_ble_eq_true rfl) dX5_read_2 ⟨Nat.le_of_ble_eq_true rfl, Nat.le_of_ble_eq_true rfl⟩ (fun v f1 H locs q hW => ?_)
  obtain ⟨rfl, g1, t1⟩ := q
  have F1 : FM kp L ms_X5_read f0 f1 := FM.tr FM.rf g1 (by decide +kernel)
  refine lv_aload_n hx hb dX5_read_5 rfl (lv_at hl 0 rfl) ?_
  refine lv_iconst (v := (-1)) hx hb dX5_read_6 (by decide) ?_
  have T1 := hW.2.2.2
  refine fp_RX5_9 E hW rh0 dX5_read_7 (fun f2 H locs e2 n2 g2 hW => ?_)
  have F2 : FM kp L ms_X5_read f0 f2 := FM.tr F1 g2 (by decide +kernel)
  refine lv_aload_n hx hb dX5_read_10 rfl (lv_at hl 0 rfl) ?_
  refine lv_iconst (v := 0) hx hb dX5_read_11 (by decide) ?_
  have T2 := hW.2.2.2
  refine fp_RX5_50 E hW rh0 (by decide) dX5_read_12 (fun f3 H locs e3 n3 g3 hW => ?_)
  have k3 := e3
  have F3 : FM kp L ms_X5_read f0 f3 := FM.tr F2 g3 (by decide +kernel)
  refine lv_aload_n hx hb dX5_read_15 rfl (lv_at hl 0 rfl) ?_
  refine lv_iconst (v := 0) hx hb dX5_read_16 (by decide) ?_
  have T3 := hW.2.2.2
  refine fp_RX5_53 E hW rh0 (by decide) dX5_read_17 (fun f4 H locs e4 n4 g4 hW => ?_)
  have F4 : FM kp L ms_X5_read f0 f4 := FM.tr F3 g4 (by decide +kernel)
  refine lv_aload_n hx hb dX5_read_20 rfl (lv_at hl 0 rfl) ?_
  refine lv_iconst (v := 0) hx hb dX5_read_21 (by decide) ?_
  have T4 := hW.2.2.2
  refine fp_RX5_57 E hW rh0 (by decide) dX5_read_22 (fun f5 H locs e5 n5 g5 hW => ?_)
  have F5 : FM kp L ms_X5_read f0 f5 := FM.tr F4 g5 (by decide +kernel)
  refine lv_aload_n hx hb dX5_read_25 rfl (lv_at hl 0 rfl) ?_
  refine lv_iconst (v := 0) hx hb dX5_read_26 (by decide) ?_
  have T5 := hW.2.2.2
  refine fp_RX5_60 E hW rh0 (by decide) dX5_read_27 (fun f6 H locs e6 n6 g6 hW => ?_)
  have F6 : FM kp L ms_X5_read f0 f6 := FM.tr F5 g6 (by decide +kernel)
  refine lv_aload_n hx hb dX5_read_30 rfl (lv_at hl 0 rfl) ?_
  refine lv_iconst (v := 0) hx hb dX5_read_31 (by decide) ?_
  have T6 := hW.2.2.2
  refine fp_RX5_63 E hW rh0 dX5_read_32 (fun f7 H locs e7 n7 g7 hW => ?_)
  have F7 : FM kp L ms_X5_read f0 f7 := FM.tr F6 g7 (by decide +kernel)
  have rt : RK kp L (oR (f1 h0) 12) 412 := th_ref T1 rh0 (by decide) (by decide) rfl
  have z11 : oI (f7 h0) 11 = oI (f1 h0) 11 := by rw [fm_I g7 rh0 rfl, fm_I g6 rh0 rfl, fm_I g5 rh0 rfl, fm_I g4 rh0 rfl, fm_I g3 rh0 rfl, fm_I g2 rh0 rfl]
  have z12 : oR (f7 h0) 12 = oR (f1 h0) 12 := by rw [fm_R g7 rh0 rfl, fm_R g6 rh0 rfl, fm_R g5 rh0 rfl, fm_R g4 rh0 rfl, fm_R g3 rh0 rfl, fm_R g2 rh0 rfl]
  have zA : aI (f7 (oR (f1 h0) 12)) = aI (f1 (oR (f1 h0) 12)) := by rw [fm_A g7 rt (by decide) rfl, fm_A g6 rt (by decide) rfl, fm_A g5 rt (by decide) rfl, fm_A g4 rt (by decide) rfl, fm_A g3 rt (by decide) rfl, fm_A g2 rt (by decide) rfl]
  have z15 : oI (f7 h0) 15 = 0 := by rw [fm_I g7 rh0 rfl]; exact e6
  have z1 : oI (f7 h0) 1 = 0 := by rw [fm_I g7 rh0 rfl, fm_I g6 rh0 rfl, fm_I g5 rh0 rfl, fm_I g4 rh0 rfl]; exact e3
  have le := tok_le hW rh0
  have h00 : (0 : Int32).toInt = 0 := rfl
  have hRI : rdI f7 h0 := ⟨by rw [z15]; omega, by rw [z12, z11, zA]; exact t1⟩
  have hRC : rdC f7 h0 := fun i hi => by rw [z1] at hi; omega
  refine lv_aload_n hx hb dX5_read_35 rfl (lv_at hl 0 rfl) ?_
  refine t_callV (As := []) (rest := []) E hW (c_X5_readClause l G cI cJ cZ cD cR cT kp L f7 hW.2.2.2 _ h0 rh0 hRI hRC) rh0 (by decide) rfl wk_X5_readClause tw_937 rfl ⟨Nat.le_of_ble_eq_true rfl, Nat.le_of_ble_eq_true rfl⟩ ⟨rfl, rfl⟩ hl.1 rfl (Nat.le_of_ble_eq_true rfl) dX5_read_36 ⟨Nat.le_of_ble_eq_true rfl, Nat.le_of_ble_eq_true rfl⟩ (fun v f8 H locs q hW => ?_)
  obtain ⟨rfl, g8, j8, q8⟩ := q
  refine lv_iconst (v := 0) hx hb dX5_read_39 (by decide) ?_
  refine lv_istore_n (lv' := [(3, .int 0), (0, .ref h0), (1, .ref u1), (2, .int u2)]) hx hb dX5_read_40 rfl hl (by decide) rfl (fun ls hl => ?_)
  exact read_loop l G cI cJ cZ cD cR cT kp L f0 p e s m below meth c A h0 u1 u2 rh0 E hCA 400 0 f8 ls H locs (by decide) (by decide) (by decide) hW j8.1 q8 (FM.tr F7 g8 (by decide +kernel)) (lv_sub hl [0, 1, 3] rfl)
