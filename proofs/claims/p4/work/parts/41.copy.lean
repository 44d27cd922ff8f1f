/-! java.util.Arrays.copyOf of ints: a clone, or a new array and its contents -/
theorem tw_994 : Cond.methodLink RJ7 316 ⟨"[I", "clone", "()Ljava/lang/Object;"⟩ ∈ wTab := mw (tt_4 _ (List.mem_of_getElem? (i := 172) (by decide +kernel))) rfl
theorem tw_995 : Cond.sameMethod "[I" "java/lang/Object" "clone" "()Ljava/lang/Object;" ∈ wTab := mw (tt_4 _ (List.mem_of_getElem? (i := 173) (by decide +kernel))) rfl
theorem tw_996 : Cond.native ⟨"java/lang/Object", "clone", "()Ljava/lang/Object;"⟩ ∈ wTab := mw (tt_4 _ (List.mem_of_getElem? (i := 174) (by decide +kernel))) rfl
theorem tw_997 : Cond.instanceMethod ⟨"java/lang/Object", "clone", "()Ljava/lang/Object;"⟩ ∈ wTab := mw (tt_4 _ (List.mem_of_getElem? (i := 175) (by decide +kernel))) rfl
theorem tw_998 : Cond.selects "[I" ⟨"[I", "clone", "()Ljava/lang/Object;"⟩ ⟨"java/lang/Object", "clone", "()Ljava/lang/Object;"⟩ ∈ wTab := mw (tt_4 _ (List.mem_of_getElem? (i := 176) (by decide +kernel))) rfl
/-- arrays of ints may be cloned -/
def CA (U : State) : Prop := va_Nw (.castable "[I" "java/lang/Cloneable") U
theorem CA.moved {u U : State} (hvm : u.vm.Alike U.vm) (h : CA u) : CA U := va_tabs rfl (rfl : (u.setVm U.vm).vm = U.vm) (by rw [Cond.castable_setVm hvm]; exact h)
def PreC (G : va_G) (ty : List (ClassId × FieldType)) (ws : va_W) (sz : Nat) : State → Prop := fun U => PreW G ty ws sz U ∧ CA U
theorem preC_blind {G : va_G} {ty : List (ClassId × FieldType)} {ws : va_W} {sz : Nat} {As : List Value} : FrameBlind (va_Pc As (PreC G ty ws sz)) := fun a U g mk q => by
  obtain ⟨q0, q1, q2⟩ := q
  exact ⟨q0, (preW_blind (As := As) a U g mk ⟨q0, q1⟩).2, CA.moved (u := U) (U := U.calling g mk a) (Vm.Alike.refl U.vm) q2⟩
theorem metTXC {l : Launch} {y : MethodName} {rm : Room} {As : List Value} {G : va_G} {cI cJ cZ cD cR cT : ClassId} {kp : Nat → Nat} {L : List Nat} {f : Nat → va_E} {sz : Nat} {po : Option Value → (Nat → Nat) → List Nat → (Nat → va_E) → Prop} {mc ms : Nat} {cc : ByteArray} {maxL : Nat} {ret : Option FieldType}
    (hy : plainName y.cls = true) (hL : (lg_sl As).length ≤ maxL) (hTH : TH cI cJ cZ cD cR cT kp L f)
    (body : ∀ (p : Program) (e : Env) (s : State) (m : MethodId) (below : List Frame) (meth : Method) (c : Code) (A : Nat → Prop) (ls : Array Slot), EV G cI cJ cZ cD cR cT A cc ret maxL y.cls p s m As.toArray meth c → CA s → WS G cI cJ cZ cD cR cT A kp L f s s.heap [] → lv_has ls maxL (lv_args 0 As) → W p l e rm s m As.toArray below meth c s.heap [] 0 0 (MQ below (QX po G cI cJ cZ cD cR cT A kp L) As.toArray s mc ms A) (F0 m 0 ls [])) :
    Met l y (Cond.code y cc maxL ret :: wTab) rm (va_Pc As (PreC G (tys6 cI cJ cZ cD cR cT) (va_pl L f) sz)) (QX po G cI cJ cZ cD cR cT (va_A (va_pl L f) sz) kp L) mc ms (va_A (va_pl L f) sz) := by
  refine Met.ofW (cc := cc) (maxL := maxL) (ret := ret) hy rfl ?_
  intro p e s m args below meth c s₁ B hml hv
  obtain ⟨rfl, ⟨hsz, hP, hK, hD0⟩, hCA⟩ := hv
  have hts := atoms_spec (ws := Cond.code y cc maxL ret :: wTab) B.pre
  subst hsz
  have hl := lv_entry As (n := maxL) hL
  rw [lg_entry_eq]
  exact body p e s m below meth c (va_A (va_pl L f) s.heap.size) _ ⟨B.exec, B.bytes, B.returns, hml, findClass_of_methodNamed B.named, fun w hw => hts w (List.mem_cons_of_mem _ hw), B.notSynchronized, hK, fun q h => Or.inr h⟩ hCA ⟨hP, hD0.self, va_S.rf, hTH⟩ hl
section XR
variable {p : Program} {l : Launch} {e : Env} {R : Room} {s : State} {m : MethodId} {args : Array Value} {below : List Frame} {meth : Method} {c : Code} {H : Heap} {locs : List Loc} {cells slots : Nat} {Q : State → Prop}
variable {cc : ByteArray} {pc : Nat} {ls : Array Slot} {rest : List Value} {G : va_G} {A : Nat → Prop} {cI cJ cZ cD cR cT : ClassId} {ret : Option FieldType} {nL : Nat} {own : String} {kp kp1 : Nat → Nat} {L L1 : List Nat} {f : Nat → va_E} {rt : FieldType}
variable {po : Option Value → (Nat → Nat) → List Nat → (Nat → va_E) → Prop}
theorem eX_R {v : Value} (E : EV G cI cJ cZ cD cR cT A cc ret nL own p s m args meth c) (hE : EXT kp L kp1 L1) (hW : WS G cI cJ cZ cD cR cT A kp1 L1 f s H locs) (hret : ret = some rt) (hrt : (∃ n, rt = .object n) ∨ ∃ t, rt = .array t) (hv : v = .null ∨ ∃ a, v = .ref a) (hpo : po (some v) kp1 L1 f) (hdg : decode cc pc = .ok (.areturn, 1)) : W p l e R s m args below meth c H locs cells slots (MQ below (QX po G cI cJ cZ cD cR cT A kp L) args s cells slots A) (F0 m pc ls [v]) := by
  obtain ⟨hx, hb, hr, hml, hown, hts, hlocks, hKK, hA⟩ := E
  exact W.aret (v := v) hx hb (hr.trans hret) hrt hv (fun t ht _ => ⟨⟨_, kp1, L1, f, rfl, hE, hpo, hW.2.2.2, by rw [ht]; exact hW.1, hW.2.1⟩, hW.2.2.1.F ht⟩) hW.2.2.1.2.2 hdg hlocks
theorem eX_V (E : EV G cI cJ cZ cD cR cT A cc ret nL own p s m args meth c) (hE : EXT kp L kp1 L1) (hW : WS G cI cJ cZ cD cR cT A kp1 L1 f s H locs) (hret : ret = none) (hpo : po none kp1 L1 f) (hdg : decode cc pc = .ok (.return_, 1)) : W p l e R s m args below meth c H locs cells slots (MQ below (QX po G cI cJ cZ cD cR cT A kp L) args s cells slots A) (F0 m pc ls []) := by
  obtain ⟨hx, hb, hr, hml, hown, hts, hlocks, hKK, hA⟩ := E
  exact W.vret hx hb (hr.trans hret) (fun t ht _ => ⟨⟨_, kp1, L1, f, rfl, hE, hpo, hW.2.2.2, by rw [ht]; exact hW.1, hW.2.1⟩, hW.2.2.1.F ht⟩) hW.2.2.1.2.2 hdg hlocks
end XR
theorem th_int2 {cI cJ cZ cD cR cT : ClassId} {kp : Nat → Nat} {L : List Nat} {f : Nat → va_E} {a K : Nat} (h : TH cI cJ cZ cD cR cT kp L f) (hr : RK kp L a K) (hK : 100 ≤ K) (hT : aTag K = 0) : ∃ (n : Nat) (g : Nat → Int32), f a = .inl (cI, n, .inl g) ∧ lenOk K n ∧ aCP K g := by
  have h := th_arr h hr hK
  unfold okA at h
  rw [hT] at h
  exact h
def poCopy (cI : ClassId) (kp : Nat → Nat) (L : List Nat) (f0 : Nat → va_E) (a : Nat) (u : Int32) (K' : Nat) : Option Value → (Nat → Nat) → List Nat → (Nat → va_E) → Prop := fun v kp1 L1 f => ∃ (b : Nat) (g : Nat → Int32), v = some (.ref b) ∧ b ∉ L ∧ kp1 = kup kp b K' ∧ L1 = L ++ [b] ∧ f = va_up f0 b (.inl (cI, u.toInt.toNat, .inl g)) ∧ ∀ j : Nat, (j : Int) < u.toInt → g j = aI (f0 a) j
theorem dJ7_copyOf_59c91_0 : decode cJ7_copyOf_59c91 0 = .ok (.iload_n 1, 1) := by decide +kernel
theorem dJ7_copyOf_59c91_1 : decode cJ7_copyOf_59c91 1 = .ok (.aload_n 0, 1) := by decide +kernel
theorem dJ7_copyOf_59c91_2 : decode cJ7_copyOf_59c91 2 = .ok (.arraylength, 1) := by decide +kernel
theorem dJ7_copyOf_59c91_3 : decode cJ7_copyOf_59c91 3 = .ok (.if_icmp .ne 11, 3) := by decide +kernel
theorem dJ7_copyOf_59c91_6 : decode cJ7_copyOf_59c91 6 = .ok (.aload_n 0, 1) := by decide +kernel
theorem dJ7_copyOf_59c91_7 : decode cJ7_copyOf_59c91 7 = .ok (.invokevirtual 316, 3) := by decide +kernel
theorem dJ7_copyOf_59c91_10 : decode cJ7_copyOf_59c91 10 = .ok (.checkcast 317, 3) := by decide +kernel
theorem dJ7_copyOf_59c91_13 : decode cJ7_copyOf_59c91 13 = .ok (.areturn, 1) := by decide +kernel
theorem dJ7_copyOf_59c91_14 : decode cJ7_copyOf_59c91 14 = .ok (.iload_n 1, 1) := by decide +kernel
theorem dJ7_copyOf_59c91_15 : decode cJ7_copyOf_59c91 15 = .ok (.newarray .int, 2) := by decide +kernel
theorem dJ7_copyOf_59c91_17 : decode cJ7_copyOf_59c91 17 = .ok (.astore_n 2, 1) := by decide +kernel
theorem dJ7_copyOf_59c91_18 : decode cJ7_copyOf_59c91 18 = .ok (.aload_n 0, 1) := by decide +kernel
theorem dJ7_copyOf_59c91_19 : decode cJ7_copyOf_59c91 19 = .ok (.iconst 0, 1) := by decide +kernel
theorem dJ7_copyOf_59c91_20 : decode cJ7_copyOf_59c91 20 = .ok (.aload_n 2, 1) := by decide +kernel
theorem dJ7_copyOf_59c91_21 : decode cJ7_copyOf_59c91 21 = .ok (.iconst 0, 1) := by decide +kernel
theorem dJ7_copyOf_59c91_22 : decode cJ7_copyOf_59c91 22 = .ok (.aload_n 0, 1) := by decide +kernel
theorem dJ7_copyOf_59c91_23 : decode cJ7_copyOf_59c91 23 = .ok (.arraylength, 1) := by decide +kernel
theorem dJ7_copyOf_59c91_24 : decode cJ7_copyOf_59c91 24 = .ok (.iload_n 1, 1) := by decide +kernel
theorem dJ7_copyOf_59c91_25 : decode cJ7_copyOf_59c91 25 = .ok (.invokestatic 304, 3) := by decide +kernel
theorem dJ7_copyOf_59c91_28 : decode cJ7_copyOf_59c91 28 = .ok (.invokestatic 150, 3) := by decide +kernel
theorem dJ7_copyOf_59c91_31 : decode cJ7_copyOf_59c91 31 = .ok (.aload_n 2, 1) := by decide +kernel
theorem dJ7_copyOf_59c91_32 : decode cJ7_copyOf_59c91 32 = .ok (.areturn, 1) := by decide +kernel
set_option maxHeartbeats 4000000 in
set_option maxRecDepth 100000 in
theorem c_copyOf (l : Launch) (G : va_G) (cI cJ cZ cD cR cT : ClassId) (kp : Nat → Nat) (L : List Nat) (f0 : Nat → va_E) (hTH : TH cI cJ cZ cD cR cT kp L f0) (sz : Nat) (a : Nat) (u : Int32) (K K' : Nat) (hr : RK kp L a K) (hK : 100 ≤ K) (hT : aTag K = 0) (hK' : 100 ≤ K') (hT' : aTag K' = 0) (hu : 0 ≤ u.toInt ∧ u.toInt ≤ ((aN (f0 a) : Nat) : Int)) (h400 : aN (f0 a) ≤ 400) (hlen : lenOk K' u.toInt.toNat) (hc1 : ∀ g, aCP K g → aCP K' g) (hc2 : ∀ (g : Nat → Int32) (n : Nat), aCP K g → aCP K' (va_cpy g (fun _ => 0) 0 0 n)) : Met l yJ7_copyOf_59c91 (Cond.code yJ7_copyOf_59c91 cJ7_copyOf_59c91 3 (some (.array .int)) :: wTab) ({ frames := 1, cells := 1, slots := 400, locals := 60 }) (va_Pc [.ref a, .int u] (PreC G (tys6 cI cJ cZ cD cR cT) (va_pl L f0) sz)) (QX (poCopy cI kp L f0 a u K') G cI cJ cZ cD cR cT (va_A (va_pl L f0) sz) kp L) 1 400 (va_A (va_pl L f0) sz) := by
  refine metTXC (by decide) (Nat.le_of_ble_eq_true rfl) hTH ?_
  intro p e s m below meth c A ls E hCA hW hl
  obtain ⟨hx, hb, -, hml, hown, hts, -, hKK, hA⟩ := id E
  have hl : lv_has ls 3 [(0, .ref a), (1, .int u)] := hl
  obtain ⟨n, g, ea, la, ca⟩ := th_int2 hTH hr hK hT
  obtain ⟨d1, d2⟩ := aI_of ea
  rw [d2] at hu h400
  obtain ⟨q0, hq0⟩ := ws_at hW hr.1
  rw [ea] at hq0
  have hnm : s.vm.findClass "[I" = some cI := (hKK.1.2 0 (cI, .int) rfl).2
  have hrt : (∃ n, FieldType.array .int = .object n) ∨ ∃ t, FieldType.array .int = .array t := Or.inr ⟨_, rfl⟩
  have fin : ∀ (q : Nat) (g2 : Nat → Int32) (H : Heap) (locs : List Loc) (ls : Array Slot) (pc : Nat), aCP K' g2 → (∀ j : Nat, (j : Int) < u.toInt → g2 j = g j) → va_P G vwCl (va_pl L f0 ++ [(q, .inl (cI, u.toInt.toNat, .inl g2))]) H → va_D A (va_pl L f0 ++ [(q, .inl (cI, u.toInt.toNat, .inl g2))]) → va_S A s.heap H locs → decode cJ7_copyOf_59c91 pc = .ok (.areturn, 1) → W p l e ({ frames := 1, cells := 1, slots := 400, locals := 60 }) s m ([.ref a, .int u] : List Value).toArray below meth c H locs 1 400 (MQ below (QX (poCopy cI kp L f0 a u K') G cI cJ cZ cD cR cT A kp L) ([.ref a, .int u] : List Value).toArray s 1 400 A) (F0 m pc ls [.ref q]) := by
    intro q g2 H locs ls pc hg2 hg hP hD hS hd
    have hqL : q ∉ L := va_pl_fresh2 (X := []) (by simpa using hD)
    rw [va_pl_push hqL] at hP hD
    have hTH2 := th_push (K := K') hTH hqL (x := .inl (cI, u.toInt.toNat, .inl g2)) ⟨fun h => absurd h (by omega), fun _ => by unfold okA; rw [hT']; exact ⟨_, _, rfl, hlen, hg2⟩⟩ (fun h => absurd h (by omega))
    exact eX_R E (ext_push hqL) ⟨hP, hD, hS, hTH2⟩ rfl hrt (Or.inr ⟨_, rfl⟩) ⟨q, g2, rfl, hqL, rfl, rfl, rfl, fun j hj => by rw [d1]; exact hg j hj⟩ hd
  refine lv_iload_n hx hb dJ7_copyOf_59c91_0 rfl (lv_at hl 1 rfl) ?_
  refine lv_aload_n hx hb dJ7_copyOf_59c91_1 rfl (lv_at hl 0 rfl) ?_
  refine r_alen E hW hr hK dJ7_copyOf_59c91_2 (fun y hy => ?_) (by omega)
  rw [d2] at hy
  refine q_icmp_ne (tgt := 14) hx hb dJ7_copyOf_59c91_3 (by decide) rfl rfl (fun c1 => ?_) (fun c1 => ?_)
  · refine lv_iload_n hx hb dJ7_copyOf_59c91_14 rfl (lv_at hl 1 rfl) ?_
    have hun : u.toNatClampNeg = u.toInt.toNat := rfl
    have hu2 : ((u.toInt.toNat : Nat) : Int) = u.toInt := by omega
    refine newaW (atype := .int) (ft := .int) (a0 := (u.toInt.toNat, .inl (fun _ => 0))) (N' := u.toInt.toNat) hx hb (hts _ tw_191) rfl hKK 0 rfl hW.1 hW.2.1 hW.2.2.1 hA (fun _ => rfl) (fun q => by have := i32_lt.mp q; have h0 : (0 : Int32).toInt = 0 := rfl; omega) hun (by show _ * 4 ≤ _; omega) (Nat.le_of_ble_eq_true rfl) (by show 0 + _ ≤ 400; omega) dJ7_copyOf_59c91_15 (fun q H hP hD hS => ?_)
    refine W.widen (k := 1) (n := 400) (Nat.le_of_ble_eq_true rfl) (by show 0 + _ ≤ 400; omega) ?_
    have hX : WX G cI cJ cZ cD cR cT A kp L f0 [(q, .inl (cI, u.toInt.toNat, .inl (fun _ => 0)))] s H [] := ⟨hP, hD, hS, hTH⟩
    have hW := wx_ws hX
    refine lv_astore_n (lv' := [(2, .ref q), (0, .ref a), (1, .int u)]) hx hb dJ7_copyOf_59c91_17 rfl hl (by decide) rfl (fun ls hl => ?_)
    refine lv_aload_n hx hb dJ7_copyOf_59c91_18 rfl (lv_at hl 1 rfl) ?_
    refine lv_iconst (v := 0) hx hb dJ7_copyOf_59c91_19 (by decide) ?_
    refine lv_aload_n hx hb dJ7_copyOf_59c91_20 rfl (lv_at hl 0 rfl) ?_
    refine lv_iconst (v := 0) hx hb dJ7_copyOf_59c91_21 (by decide) ?_
    refine lv_aload_n hx hb dJ7_copyOf_59c91_22 rfl (lv_at hl 1 rfl) ?_
    refine r_alen E hW hr hK dJ7_copyOf_59c91_23 (fun y2 hy2 => ?_) (by omega)
    rw [d2] at hy2
    refine lv_iload_n hx hb dJ7_copyOf_59c91_24 rfl (lv_at hl 2 rfl) ?_
    refine t_min (own := RJ7) E tw_1001 ⟨tw_637, tw_115, tw_638⟩ hl.1 ⟨Nat.le_of_ble_eq_true rfl, Nat.le_of_ble_eq_true rfl⟩ ⟨Nat.le_of_ble_eq_true rfl, Nat.le_of_ble_eq_true rfl⟩ rfl rfl dJ7_copyOf_59c91_25 (fun z hz => ?_)
    have hzu : z = u := Int32.toInt_inj.mp (by omega)
    subst hzu
    have hin : (va_pl L f0 ++ [(q, .inl (cI, z.toInt.toNat, .inl (fun _ => 0)))])[(va_pl L f0).length + 0]? = some (q, (.inl (cI, z.toInt.toNat, .inl (fun _ => 0)) : va_E)) := app_r rfl
    refine va_copyi hx hb (hml.trans hl.1.symm) hown (hts _ tw_1002) (hts _ tw_1004) (hts _ tw_1003) (hts _ tw_122) hKK.1 hX.1 hX.2.1 hX.2.2.1 q0 ((va_pl L f0).length + 0) 0 0 (app_l hq0) hin rfl rfl rfl (fun q => absurd (i32_lt.mp q) (by decide)) (fun q => absurd (i32_lt.mp q) (by decide)) (fun q => by have := i32_lt.mp q; have h0 : (0 : Int32).toInt = 0 := rfl; omega) (by show 0 + z.toInt.toNat ≤ n; omega) (by show 0 + z.toInt.toNat ≤ z.toInt.toNat; omega) (fun _ _ => rfl) (Nat.le_of_ble_eq_true rfl) (Nat.le_of_ble_eq_true rfl) dJ7_copyOf_59c91_28 (fun H locs hP hD hS => ?_)
    have hset : (va_pl L f0 ++ [(q, (.inl (cI, z.toInt.toNat, .inl (fun _ => 0)) : va_E))]).set ((va_pl L f0).length + 0) (q, .inl (cI, z.toInt.toNat, .inl (va_cpy g (fun _ => 0) 0 0 z.toInt.toNat))) = va_pl L f0 ++ [(q, .inl (cI, z.toInt.toNat, .inl (va_cpy g (fun _ => 0) 0 0 z.toInt.toNat)))] := by
      rw [List.set_append_right _ _ (by omega)]
      simp
    have hP2 : va_P G vwCl ((va_pl L f0 ++ [(q, (.inl (cI, z.toInt.toNat, .inl (fun _ => 0)) : va_E))]).set ((va_pl L f0).length + 0) (q, .inl (cI, z.toInt.toNat, .inl (va_cpy g (fun _ => 0) 0 0 z.toInt.toNat)))) H := hP
    have hD2 : va_D A ((va_pl L f0 ++ [(q, (.inl (cI, z.toInt.toNat, .inl (fun _ => 0)) : va_E))]).set ((va_pl L f0).length + 0) (q, .inl (cI, z.toInt.toNat, .inl (va_cpy g (fun _ => 0) 0 0 z.toInt.toNat)))) := hD
    rw [hset] at hP2 hD2
    refine lv_aload_n hx hb dJ7_copyOf_59c91_31 rfl (lv_at hl 0 rfl) ?_
    exact fin q _ H _ ls 32 (hc2 g _ ca) (fun j hj => by
      show (if _ then _ else _) = _
      rw [if_pos (by omega)]
      congr 1
      omega) hP2 hD2 hS dJ7_copyOf_59c91_32
  · have hun : n = u.toInt.toNat := by omega
    subst hun
    refine lv_aload_n hx hb dJ7_copyOf_59c91_6 rfl (lv_at hl 0 rfl) ?_
    refine va_clone (ad := "[I") hx hb (hml.trans hl.1.symm) hown (hts _ tw_994) (hts _ tw_995) (hts _ tw_996) (hts _ tw_997) (hts _ tw_998) hCA hKK.1 hW.1 hW.2.1 hW.2.2.1 hA q0 0 hq0 rfl hnm (va_fit (fun i hi => rfl)) (Nat.le_of_ble_eq_true rfl) (Nat.le_of_ble_eq_true rfl) (Nat.le_of_ble_eq_true rfl) (by show 0 + _ ≤ 400; omega) dJ7_copyOf_59c91_7 (fun q H _ hP hD hS => ?_)
    refine W.widen (k := 1) (n := 400) (Nat.le_of_ble_eq_true rfl) (by show 0 + _ ≤ 400; omega) ?_
    refine va_castA (nm := "[I") hx hb hown (hts _ tw_1000) hP ((va_pl L f0).length + 0) (app_r rfl) hnm dJ7_copyOf_59c91_10 ?_
    exact fin q g H _ ls 13 (hc1 g ca) (fun j hj => rfl) hP hD hS dJ7_copyOf_59c91_13
