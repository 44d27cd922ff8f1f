/-! a new text, made beside a typed pool -/
theorem tw_1006 : Cond.fieldLink RX9 9 "NoRent$Text" "from" "I" ∈ wTab := mw (tt_4 _ (List.mem_of_getElem? (i := 184) (by decide +kernel))) rfl
theorem tw_485 : Cond.fieldLink RX9 15 "NoRent$Reader" "clauses" "I" ∈ wTab := mw (tt_2 _ (List.mem_of_getElem? (i := 143) (by decide +kernel))) rfl
theorem tw_1008 : Cond.fieldLink RX9 20 "NoRent$Text" "clauses" "I" ∈ wTab := mw (tt_4 _ (List.mem_of_getElem? (i := 186) (by decide +kernel))) rfl
theorem tw_487 : Cond.fieldLink RX9 21 "NoRent$Reader" "asksBanned" "Z" ∈ wTab := mw (tt_2 _ (List.mem_of_getElem? (i := 145) (by decide +kernel))) rfl
theorem tw_1011 : Cond.fieldLink RX9 25 "NoRent$Text" "asksBanned" "Z" ∈ wTab := mw (tt_4 _ (List.mem_of_getElem? (i := 189) (by decide +kernel))) rfl
theorem tw_490 : Cond.fieldLink RX9 26 "NoRent$Reader" "kind" "[I" ∈ wTab := mw (tt_2 _ (List.mem_of_getElem? (i := 148) (by decide +kernel))) rfl
theorem tw_1013 : Cond.fieldLink RX9 36 "NoRent$Text" "kind" "[I" ∈ wTab := mw (tt_4 _ (List.mem_of_getElem? (i := 191) (by decide +kernel))) rfl
theorem tw_492 : Cond.fieldLink RX9 37 "NoRent$Reader" "first" "[I" ∈ wTab := mw (tt_2 _ (List.mem_of_getElem? (i := 150) (by decide +kernel))) rfl
theorem tw_1016 : Cond.fieldLink RX9 40 "NoRent$Text" "first" "[I" ∈ wTab := mw (tt_4 _ (List.mem_of_getElem? (i := 194) (by decide +kernel))) rfl
theorem tw_494 : Cond.fieldLink RX9 41 "NoRent$Reader" "second" "[I" ∈ wTab := mw (tt_2 _ (List.mem_of_getElem? (i := 152) (by decide +kernel))) rfl
theorem tw_1018 : Cond.fieldLink RX9 44 "NoRent$Text" "second" "[I" ∈ wTab := mw (tt_4 _ (List.mem_of_getElem? (i := 196) (by decide +kernel))) rfl
theorem tw_496 : Cond.fieldLink RX9 45 "NoRent$Reader" "start" "[I" ∈ wTab := mw (tt_2 _ (List.mem_of_getElem? (i := 154) (by decide +kernel))) rfl
theorem tw_1020 : Cond.fieldLink RX9 48 "NoRent$Text" "start" "[I" ∈ wTab := mw (tt_4 _ (List.mem_of_getElem? (i := 198) (by decide +kernel))) rfl
theorem tw_498 : Cond.fieldLink RX9 49 "NoRent$Reader" "stop" "[I" ∈ wTab := mw (tt_2 _ (List.mem_of_getElem? (i := 156) (by decide +kernel))) rfl
theorem tw_1022 : Cond.fieldLink RX9 52 "NoRent$Text" "stop" "[I" ∈ wTab := mw (tt_4 _ (List.mem_of_getElem? (i := 200) (by decide +kernel))) rfl
theorem tw_502 : Cond.fieldLink RX9 53 "NoRent$Reader" "op" "[I" ∈ wTab := mw (tt_2 _ (List.mem_of_getElem? (i := 160) (by decide +kernel))) rfl
theorem tw_499 : Cond.fieldLink RX9 56 "NoRent$Reader" "written" "I" ∈ wTab := mw (tt_2 _ (List.mem_of_getElem? (i := 157) (by decide +kernel))) rfl
theorem tw_1024 : Cond.fieldLink RX9 65 "NoRent$Text" "op" "[I" ∈ wTab := mw (tt_4 _ (List.mem_of_getElem? (i := 202) (by decide +kernel))) rfl
theorem tw_504 : Cond.fieldLink RX9 66 "NoRent$Reader" "arg" "[I" ∈ wTab := mw (tt_2 _ (List.mem_of_getElem? (i := 162) (by decide +kernel))) rfl
theorem tw_1026 : Cond.fieldLink RX9 69 "NoRent$Text" "arg" "[I" ∈ wTab := mw (tt_4 _ (List.mem_of_getElem? (i := 204) (by decide +kernel))) rfl
theorem dX9_init_0 : decode cX9_init 0 = .ok (.aload_n 0, 1) := by decide +kernel
theorem dX9_init_1 : decode cX9_init 1 = .ok (.invokespecial 3, 3) := by decide +kernel
theorem dX9_init_4 : decode cX9_init 4 = .ok (.aload_n 0, 1) := by decide +kernel
theorem dX9_init_5 : decode cX9_init 5 = .ok (.iload_n 1, 1) := by decide +kernel
theorem dX9_init_6 : decode cX9_init 6 = .ok (.putfield 9, 3) := by decide +kernel
theorem dX9_init_9 : decode cX9_init 9 = .ok (.aload_n 0, 1) := by decide +kernel
theorem dX9_init_10 : decode cX9_init 10 = .ok (.aload_n 2, 1) := by decide +kernel
theorem dX9_init_11 : decode cX9_init 11 = .ok (.getfield 15, 3) := by decide +kernel
theorem dX9_init_14 : decode cX9_init 14 = .ok (.putfield 20, 3) := by decide +kernel
theorem dX9_init_17 : decode cX9_init 17 = .ok (.aload_n 0, 1) := by decide +kernel
theorem dX9_init_18 : decode cX9_init 18 = .ok (.aload_n 2, 1) := by decide +kernel
theorem dX9_init_19 : decode cX9_init 19 = .ok (.getfield 21, 3) := by decide +kernel
theorem dX9_init_22 : decode cX9_init 22 = .ok (.putfield 25, 3) := by decide +kernel
theorem dX9_init_25 : decode cX9_init 25 = .ok (.aload_n 0, 1) := by decide +kernel
theorem dX9_init_26 : decode cX9_init 26 = .ok (.aload_n 2, 1) := by decide +kernel
theorem dX9_init_27 : decode cX9_init 27 = .ok (.getfield 26, 3) := by decide +kernel
theorem dX9_init_30 : decode cX9_init 30 = .ok (.bipush 12, 2) := by decide +kernel
theorem dX9_init_32 : decode cX9_init 32 = .ok (.invokestatic 30, 3) := by decide +kernel
theorem dX9_init_35 : decode cX9_init 35 = .ok (.putfield 36, 3) := by decide +kernel
theorem dX9_init_38 : decode cX9_init 38 = .ok (.aload_n 0, 1) := by decide +kernel
theorem dX9_init_39 : decode cX9_init 39 = .ok (.aload_n 2, 1) := by decide +kernel
theorem dX9_init_40 : decode cX9_init 40 = .ok (.getfield 37, 3) := by decide +kernel
theorem dX9_init_43 : decode cX9_init 43 = .ok (.bipush 12, 2) := by decide +kernel
theorem dX9_init_45 : decode cX9_init 45 = .ok (.invokestatic 30, 3) := by decide +kernel
theorem dX9_init_48 : decode cX9_init 48 = .ok (.putfield 40, 3) := by decide +kernel
theorem dX9_init_51 : decode cX9_init 51 = .ok (.aload_n 0, 1) := by decide +kernel
theorem dX9_init_52 : decode cX9_init 52 = .ok (.aload_n 2, 1) := by decide +kernel
theorem dX9_init_53 : decode cX9_init 53 = .ok (.getfield 41, 3) := by decide +kernel
theorem dX9_init_56 : decode cX9_init 56 = .ok (.bipush 12, 2) := by decide +kernel
theorem dX9_init_58 : decode cX9_init 58 = .ok (.invokestatic 30, 3) := by decide +kernel
theorem dX9_init_61 : decode cX9_init 61 = .ok (.putfield 44, 3) := by decide +kernel
theorem dX9_init_64 : decode cX9_init 64 = .ok (.aload_n 0, 1) := by decide +kernel
theorem dX9_init_65 : decode cX9_init 65 = .ok (.aload_n 2, 1) := by decide +kernel
theorem dX9_init_66 : decode cX9_init 66 = .ok (.getfield 45, 3) := by decide +kernel
theorem dX9_init_69 : decode cX9_init 69 = .ok (.bipush 12, 2) := by decide +kernel
theorem dX9_init_71 : decode cX9_init 71 = .ok (.invokestatic 30, 3) := by decide +kernel
theorem dX9_init_74 : decode cX9_init 74 = .ok (.putfield 48, 3) := by decide +kernel
theorem dX9_init_77 : decode cX9_init 77 = .ok (.aload_n 0, 1) := by decide +kernel
theorem dX9_init_78 : decode cX9_init 78 = .ok (.aload_n 2, 1) := by decide +kernel
theorem dX9_init_79 : decode cX9_init 79 = .ok (.getfield 49, 3) := by decide +kernel
theorem dX9_init_82 : decode cX9_init 82 = .ok (.bipush 12, 2) := by decide +kernel
theorem dX9_init_84 : decode cX9_init 84 = .ok (.invokestatic 30, 3) := by decide +kernel
theorem dX9_init_87 : decode cX9_init 87 = .ok (.putfield 52, 3) := by decide +kernel
theorem dX9_init_90 : decode cX9_init 90 = .ok (.aload_n 0, 1) := by decide +kernel
theorem dX9_init_91 : decode cX9_init 91 = .ok (.aload_n 2, 1) := by decide +kernel
theorem dX9_init_92 : decode cX9_init 92 = .ok (.getfield 53, 3) := by decide +kernel
theorem dX9_init_95 : decode cX9_init 95 = .ok (.aload_n 2, 1) := by decide +kernel
theorem dX9_init_96 : decode cX9_init 96 = .ok (.getfield 56, 3) := by decide +kernel
theorem dX9_init_99 : decode cX9_init 99 = .ok (.iconst 0, 1) := by decide +kernel
theorem dX9_init_100 : decode cX9_init 100 = .ok (.invokestatic 59, 3) := by decide +kernel
theorem dX9_init_103 : decode cX9_init 103 = .ok (.invokestatic 30, 3) := by decide +kernel
theorem dX9_init_106 : decode cX9_init 106 = .ok (.putfield 65, 3) := by decide +kernel
theorem dX9_init_109 : decode cX9_init 109 = .ok (.aload_n 0, 1) := by decide +kernel
theorem dX9_init_110 : decode cX9_init 110 = .ok (.aload_n 2, 1) := by decide +kernel
theorem dX9_init_111 : decode cX9_init 111 = .ok (.getfield 66, 3) := by decide +kernel
theorem dX9_init_114 : decode cX9_init 114 = .ok (.aload_n 2, 1) := by decide +kernel
theorem dX9_init_115 : decode cX9_init 115 = .ok (.getfield 56, 3) := by decide +kernel
theorem dX9_init_118 : decode cX9_init 118 = .ok (.iconst 0, 1) := by decide +kernel
theorem dX9_init_119 : decode cX9_init 119 = .ok (.invokestatic 59, 3) := by decide +kernel
theorem dX9_init_122 : decode cX9_init 122 = .ok (.invokestatic 30, 3) := by decide +kernel
theorem dX9_init_125 : decode cX9_init 125 = .ok (.putfield 69, 3) := by decide +kernel
theorem dX9_init_128 : decode cX9_init 128 = .ok (.return_, 1) := by decide +kernel
/-- cells that were there are as they were -/
def KEEP (L : List Nat) (f f1 : Nat → va_E) : Prop := ∀ q : Nat, q ∈ L → f1 q = f q
/-- a copy: its kind, its length, its contents -/
def CPd (f : Nat → va_E) (kp : Nat → Nat) (L : List Nat) (b K n : Nat) (g : Nat → Int32) : Prop := RK kp L b K ∧ aN (f b) = n ∧ ∀ j : Nat, j < n → aI (f b) j = g j
theorem keep_tr {kp kp1 : Nat → Nat} {L L1 : List Nat} {f f1 f2 : Nat → va_E} (hE : EXT kp L kp1 L1) (h : KEEP L f f1) (h2 : KEEP L1 f1 f2) : KEEP L f f2 := fun q hq => (h2 q (hE q _ ⟨hq, rfl⟩).1).trans (h q hq)
theorem cp_mono {kp kp1 : Nat → Nat} {L L1 : List Nat} {f f1 : Nat → va_E} {b K n : Nat} {g : Nat → Int32} (h : CPd f kp L b K n g) (hE : EXT kp L kp1 L1) (hk : KEEP L f f1) : CPd f1 kp1 L1 b K n g := by
  obtain ⟨h1, h2, h3⟩ := h
  have e := hk b h1.1
  exact ⟨hE _ _ h1, by rw [e]; exact h2, fun j hj => by rw [e]; exact h3 j hj⟩
theorem ab_cpy {g : Nat → Int32} {n : Nat} {hi : Int} (h : AB g 0 hi) : AB (va_cpy g (fun _ => 0) 0 0 n) 0 hi := fun j => by
  unfold va_cpy
  have h0 : (0 : Int32).toInt = 0 := rfl
  have hj := h j
  split
  · exact h _
  · show 0 ≤ (0 : Int32).toInt ∧ (0 : Int32).toInt ≤ hi
    omega
def fsX9 : List Value := [.int 0, .int 0, .int 0, .null, .null, .null, .null, .null, .null, .null]
theorem si1_of {f : Nat → va_E} {t b1 b2 b3 b4 b5 b6 b7 : Nat} {u c z : Int32} (h4 : b4 ≠ t) (h5 : b5 ≠ t) (h6 : b6 ≠ t) (h7 : b7 ≠ t) (e : aN (f b6) = aN (f b7)) (h : ∀ i : Nat, (i : Int) < c.toInt → 0 ≤ (aI (f b4) i).toInt ∧ (aI (f b5) i).toInt ≤ ((aN (f b6) : Nat) : Int)) : SI1 (va_up f t (.inr (9, [.int u, .int c, .int z, .ref b1, .ref b2, .ref b3, .ref b4, .ref b5, .ref b6, .ref b7]))) t := by
  unfold SI1
  rw [va_up_self]
  have q6 : oR (.inr (9, [.int u, .int c, .int z, .ref b1, .ref b2, .ref b3, .ref b4, .ref b5, .ref b6, .ref b7]) : va_E) 6 = b4 := rfl
  have q7 : oR (.inr (9, [.int u, .int c, .int z, .ref b1, .ref b2, .ref b3, .ref b4, .ref b5, .ref b6, .ref b7]) : va_E) 7 = b5 := rfl
  have q8 : oR (.inr (9, [.int u, .int c, .int z, .ref b1, .ref b2, .ref b3, .ref b4, .ref b5, .ref b6, .ref b7]) : va_E) 8 = b6 := rfl
  have q9 : oR (.inr (9, [.int u, .int c, .int z, .ref b1, .ref b2, .ref b3, .ref b4, .ref b5, .ref b6, .ref b7]) : va_E) 9 = b7 := rfl
  have q1 : oI (.inr (9, [.int u, .int c, .int z, .ref b1, .ref b2, .ref b3, .ref b4, .ref b5, .ref b6, .ref b7]) : va_E) 1 = c := rfl
  rw [q6, q7, q8, q9, q1, va_up_ne _ _ h4, va_up_ne _ _ h5, va_up_ne _ _ h6, va_up_ne _ _ h7]
  exact ⟨e, h⟩
section XXC
variable {p : Program} {l : Launch} {e : Env} {R : Room} {s : State} {m : MethodId} {args : Array Value} {below : List Frame} {meth : Method} {c : Code} {H : Heap} {locs : List Loc} {cells slots : Nat} {Q : State → Prop}
variable {cc : ByteArray} {pc : Nat} {ls : Array Slot} {rest st0 : List Value} {G : va_G} {A : Nat → Prop} {cI cJ cZ cD cR cT : ClassId} {ret rety : Option FieldType} {nL : Nat} {own : String} {kp kp1 : Nat → Nat} {L L1 : List Nat} {f : Nat → va_E} {a K ci k index : Nat} {X : va_W}
variable {po : Option Value → (Nat → Nat) → List Nat → (Nat → va_E) → Prop} {mc ms : Nat} {As : List Value}
/-- the cells beside live on when the pool has grown -/
theorem wx_joinX {H1 : Heap} {f1 : Nat → va_E} (hP : va_P G vwCl (va_pl L f ++ X) H) (hD : va_D A (va_pl L f ++ X)) (hk : ∀ q : Nat, q < H.size → ¬ va_A (va_pl L f) H.size q → H1[q]? = H[q]?) (hP1 : va_P G vwCl (va_pl L1 f1) H1) (hD1 : va_D (va_A (va_pl L f) H.size) (va_pl L1 f1)) (hA1 : ∀ q : Nat, va_A (va_pl L f) H.size q → A q) : va_P G vwCl (va_pl L1 f1 ++ X) H1 ∧ va_D A (va_pl L1 f1 ++ X) := by
  have hne : ∀ (k : Nat) (x : Nat × va_E), X[k]? = some x → x.1 ∉ L := fun k x hx hin => by
    obtain ⟨i, hi⟩ := va_pl_get (X := []) (f := f) hin
    have hi2 : (va_pl L f)[i]? = some (x.1, f x.1) := by simpa using hi
    have e := hD.1 i ((va_pl L f).length + k) _ _ (app_l hi2) (app_r hx) rfl
    have hlt : i < (va_pl L f).length := by
      by_cases q : i < (va_pl L f).length
      · exact q
      · rw [List.getElem?_eq_none (by omega)] at hi2; cases hi2
    omega
  have hin : ∀ (k : Nat) (x : Nat × va_E), (va_pl L f)[k]? = some x → x.1 ∈ L := fun k x hx => by
    unfold va_pl at hx
    rw [List.getElem?_map] at hx
    cases hL : L[k]? with
    | none => rw [hL] at hx; cases hx
    | some a =>
      rw [hL] at hx
      cases hx
      exact List.mem_of_getElem? hL
  have hPX : va_P G vwCl X H := fun k q hq => hP _ q (app_r hq)
  have hXf : ∀ (k : Nat) (x : Nat × va_E), X[k]? = some x → ¬ va_A (va_pl L f) H.size x.1 := fun k x hx z => by
    rcases z with ⟨i, y, hy⟩ | z
    · exact hne k x hx (hin i (x.1, y) hy)
    · have := (hPX k x hx).lt; omega
  have hPX1 : va_P G vwCl X H1 := hPX.kept (fun k q hq => hk q.1 (hPX k q hq).lt (hXf k q hq))
  exact ⟨hP1.app hPX1, va_D.app (hD1.weaken (fun _ q _ h => hA1 q.1 h)) ⟨fun i j p q hi hj e => by
    have := hD.1 _ _ p q (app_r (a := va_pl L f) hi) (app_r (a := va_pl L f) hj) e
    omega, fun k q hq => hD.2 _ q (app_r (a := va_pl L f) hq)⟩ (fun i j p q hi hj e => hXf j q hj (e ▸ hD1.2 i p hi))⟩
theorem callXX {av : Array Value} (hA : ∀ q : Nat, s.heap.size ≤ q → A q) (hX : WX G cI cJ cZ cD cR cT A kp L f X s H locs) (hrun : va_Run p l e R s m args below meth c H locs cells slots mc ms (F0 m pc ls st0) rest (QX po G cI cJ cZ cD cR cT (va_A (va_pl L f) H.size) kp L av) (va_A (va_pl L f) H.size))
    (kk : ∀ (v : Option Value) (kp1 : Nat → Nat) (L1 : List Nat) (f1 : Nat → va_E) (H1 : Heap) (locs1 : List Loc), EXT kp L kp1 L1 → po v kp1 L1 f1 → WX G cI cJ cZ cD cR cT A kp1 L1 f1 X s H1 locs1 → W p l e R s m args below meth c H1 locs1 (cells + mc) (slots + ms) Q (F0 m (pc + 3) ls (v.toList ++ rest))) : W p l e R s m args below meth c H locs cells slots Q (F0 m pc ls st0) := by
  have hF := hF_of hA (wx_ws hX)
  obtain ⟨hP, hD, hS, hTH⟩ := hX
  intro T hT X0
  obtain ⟨v, st₀, t, T', Lo, h0, X', hL, e1, e2, ⟨⟨v', kp1, L1, f1, hv, hE, hpo, hTH1, hP1, hD1⟩, hz, hk⟩, st⟩ := hrun T hT X0
  cases hv
  rw [h0] at hz hk
  obtain ⟨j1, j2⟩ := wx_joinX hP hD hk hP1 hD1 hF
  obtain ⟨t2, a1, b1⟩ := kk v kp1 L1 f1 T'.heap (locs ++ Lo) hE hpo ⟨by rw [e1]; exact j1, j2, ⟨Nat.le_trans hS.1 (by rw [e1]; exact hz), fun x h1 h2 => by rw [e1, hk x (Nat.lt_of_lt_of_le h1 hS.1) (fun z => h2 (hF x z))]; exact hS.2.1 x h1 h2, fun x hx => by
      rcases List.mem_append.mp hx with h | h
      · exact hS.2.2 x h
      · exact hF _ (hL x h)⟩, hTH1⟩ T' rfl X'
  exact ⟨t2, st t2 a1, b1⟩
theorem pre_SC (hCA : CA s) (hKK : KK G (tys6 cI cJ cZ cD cR cT) s) (hW : WS G cI cJ cZ cD cR cT A kp L f s H locs) : PreS s H (va_Pc As (PreC G (tys6 cI cJ cZ cD cR cT) (va_pl L f) H.size)) As :=
  ⟨preC_blind, fun U hU hw => ⟨rfl, ((pre_S (As := As) hKK hW).2 U hU hw).2, CA.moved hw.alike hCA⟩⟩
theorem t_copy9 {u : Int32} {K' : Nat} (E : EV G cI cJ cZ cD cR cT A cc ret nL RX9 p s m args meth c) (hCA : CA s) (hX : WX G cI cJ cZ cD cR cT A kp L f X s H locs) (hr : RK kp L a K) (hK : 100 ≤ K) (hT : aTag K = 0) (hK' : 100 ≤ K') (hT' : aTag K' = 0) (hu : 0 ≤ u.toInt ∧ u.toInt ≤ ((aN (f a) : Nat) : Int)) (h400 : aN (f a) ≤ 400) (hlen : lenOk K' u.toInt.toNat) (hc1 : ∀ g, aCP K g → aCP K' g) (hc2 : ∀ (g : Nat → Int32) (n : Nat), aCP K g → aCP K' (va_cpy g (fun _ => 0) 0 0 n))
    (hsize : ls.size = nL) (hw : (rest.map fun v => v.category).sum ≤ 8) (hR : 2 ≤ R.frames ∧ 8 + (3 + 11) + 60 ≤ R.locals) (hdg : decode cc pc = .ok (.invokestatic 30, 3)) (hf : cells + 1 ≤ R.cells ∧ slots + 400 ≤ R.slots)
    (kk : ∀ (b : Nat) (kp1 : Nat → Nat) (L1 : List Nat) (f1 : Nat → va_E) (H1 : Heap) (locs1 : List Loc), EXT kp L kp1 L1 → KEEP L f f1 → CPd f1 kp1 L1 b K' u.toInt.toNat (aI (f a)) → WX G cI cJ cZ cD cR cT A kp1 L1 f1 X s H1 locs1 → W p l e R s m args below meth c H1 locs1 (cells + 1) (slots + 400) Q (F0 m (pc + 3) ls (.ref b :: rest))) : W p l e R s m args below meth c H locs cells slots Q (F0 m pc ls (.int u :: .ref a :: rest)) := by
  obtain ⟨hx, hb, -, hml, hown, hts, -, hKK, hA⟩ := id E
  refine callXX hA hX (va_runS ⟨hx, hb, hml, hown, hts⟩ (c_copyOf l G cI cJ cZ cD cR cT kp L f hX.2.2.2 H.size a u K K' hr hK hT hK' hT' hu h400 hlen hc1 hc2) ⟨callB_of 2 hts (good_y tw_good tw_993) rfl rfl rfl (hts _ tw_109) (hts _ tw_991) (by decide +kernel) hR, hts _ tw_992⟩ (pre_SC hCA hKK (wx_ws hX)) rfl rfl hsize rfl (lv_room hw) hdg hf) (fun v kp1 L1 f1 H1 locs1 hE hpo hX1 => ?_)
  obtain ⟨b, g, e1, hb1, e2, e3, e4, hg⟩ := hpo
  subst e1
  refine kk b kp1 L1 f1 H1 locs1 hE (fun q hq => ?_) ⟨?_, ?_, fun j hj => ?_⟩ hX1
  · rw [e4, va_up_ne _ _ (fun h => hb1 (by rw [← h]; exact hq))]
  · rw [e2, e3]; exact rk_new
  · rw [e4, va_up_self]; rfl
  · rw [e4, va_up_self, ← hg j (by omega)]; rfl
theorem r_putX9 {t : Nat} {fs : List Value} {ty : FieldType} {v : Value} (E : EV G cI cJ cZ cD cR cT A cc ret nL RX9 p s m args meth c) (hin : meth.name = "<init>") (hX : WX G cI cJ cZ cD cR cT A kp L f [(t, .inr (9, fs))] s H locs) (hk : k < 10) (hlk : Cond.fieldLink RX9 index RX9 (TX9 k).2.1 (TX9 k).2.2.1 ∈ wTab) (hfin : (TX9 k).2.2.2 = true) (hdecl : (TX9 k).1 = RX9) (hd : parseFieldDescriptor (TX9 k).2.2.1 = some ty) (hn : narrow ty v = v) (hfit : fits ty v = true) (hl : k < fs.length) (hdg : decode cc pc = .ok (.putfield index, 3))
    (kk : ∀ (H1 : Heap) (locs1 : List Loc), WX G cI cJ cZ cD cR cT A kp L f [(t, .inr (9, fs.set k v))] s H1 locs1 → W p l e R s m args below meth c H1 locs1 cells slots Q (F0 m (pc + 3) ls rest)) : W p l e R s m args below meth c H locs cells slots Q (F0 m pc ls (v :: .ref t :: rest)) := by
  obtain ⟨hx, hb, -, hml, hown, hts, -, hKK, hA⟩ := id E
  refine va_putF (D := G) (ci := 9) (v := v) (ty := ty) (C := RX9) (T := TX9) (N := 10) hx hb hts tb_X9 tyX9 tyX9_ok nmX9 hown hKK.1 hX.1 hX.2.1 hX.2.2.1 ((va_pl L f).length + 0) (app_r rfl) rfl k hk (hts _ hlk) (fun x h => by rw [hdecl] at h; exact h) hfin hin hdecl hd hn hfit hl hdg (fun H1 locs1 => setW (ws' := va_pl L f ++ [(t, .inr (9, fs.set k v))]) (by rw [List.set_append_right _ _ (by omega)]; simp) (fun hP hD hS => kk H1 locs1 ⟨hP, hD, hS, hX.2.2.2⟩))
end XXC
/-- the constructor of a cell beside the pool -/
theorem metTXI {l : Launch} {y : MethodName} {rm : Room} {As : List Value} {G : va_G} {cI cJ cZ cD cR cT : ClassId} {kp : Nat → Nat} {L : List Nat} {f : Nat → va_E} {X : va_W} {sz : Nat} {po : Option Value → (Nat → Nat) → List Nat → (Nat → va_E) → Prop} {mc ms : Nat} {cc : ByteArray} {maxL : Nat} {ret : Option FieldType}
    (hy : plainName y.cls = true) (hL : (lg_sl As).length ≤ maxL) (hTH : TH cI cJ cZ cD cR cT kp L f)
    (body : ∀ (p : Program) (e : Env) (s : State) (m : MethodId) (below : List Frame) (meth : Method) (c : Code) (A : Nat → Prop) (ls : Array Slot), EV G cI cJ cZ cD cR cT A cc ret maxL y.cls p s m As.toArray meth c → CA s → meth.name = y.name → WX G cI cJ cZ cD cR cT A kp L f X s s.heap [] → lv_has ls maxL (lv_args 0 As) → W p l e rm s m As.toArray below meth c s.heap [] 0 0 (MQ below (QX po G cI cJ cZ cD cR cT A kp L) As.toArray s mc ms A) (F0 m 0 ls [])) :
    Met l y (Cond.code y cc maxL ret :: wTab) rm (va_Pc As (PreC G (tys6 cI cJ cZ cD cR cT) (va_pl L f ++ X) sz)) (QX po G cI cJ cZ cD cR cT (va_A (va_pl L f ++ X) sz) kp L) mc ms (va_A (va_pl L f ++ X) sz) := by
  refine Met.ofW (cc := cc) (maxL := maxL) (ret := ret) hy rfl ?_
  intro p e s m args below meth c s₁ B hml hv
  obtain ⟨rfl, ⟨hsz, hP, hK, hD0⟩, hCA⟩ := hv
  have hts := atoms_spec (ws := Cond.code y cc maxL ret :: wTab) B.pre
  have hin : meth.name = y.name := (name_of_methodNamed B.named B.method).1
  subst hsz
  have hl := lv_entry As (n := maxL) hL
  rw [lg_entry_eq]
  exact body p e s m below meth c (va_A (va_pl L f ++ X) s.heap.size) _ ⟨B.exec, B.bytes, B.returns, hml, findClass_of_methodNamed B.named, fun w hw => hts w (List.mem_cons_of_mem _ hw), B.notSynchronized, hK, fun q h => Or.inr h⟩ hCA hin ⟨hP, hD0.self, va_S.rf, hTH⟩ hl
set_option maxHeartbeats 4000000 in
set_option maxRecDepth 100000 in
/-- Text(from, reader) -/
theorem c_X9_init (l : Launch) (G : va_G) (cI cJ cZ cD cR cT : ClassId) (kp : Nat → Nat) (L : List Nat) (f0 : Nat → va_E) (hTH : TH cI cJ cZ cD cR cT kp L f0) (sz : Nat) (t : Nat) (u : Int32) (r : Nat) (rr : RK kp L r 5) (hRC : rdC f0 r) : Met l yX9_init (Cond.code yX9_init cX9_init 3 none :: wTab) ({ frames := 2, cells := 7, slots := 2800, locals := 160 }) (va_Pc [.ref t, .int u, .ref r] (PreC G (tys6 cI cJ cZ cD cR cT) (va_pl L f0 ++ [(t, .inr (9, fsX9))]) sz)) (QX (fun v kp1 L1 f => v = none ∧ RK kp1 L1 t 9 ∧ t ∉ L ∧ FM kp L [] f0 f) G cI cJ cZ cD cR cT (va_A (va_pl L f0 ++ [(t, .inr (9, fsX9))]) sz) kp L) 7 2800 (va_A (va_pl L f0 ++ [(t, .inr (9, fsX9))]) sz) := by
  refine metTXI (by decide) (Nat.le_of_ble_eq_true rfl) hTH ?_
  intro p e s m below meth c A ls E hCA hin hX hl
  obtain ⟨hx, hb, -, hml, hown, hts, -, -, -⟩ := id E
  have hin : meth.name = "<init>" := hin
  have hl : lv_has ls 3 [(0, .ref t), (1, .int u), (2, .ref r)] := hl
  have hr0 := rr
  have ek : KEEP L f0 f0 := fun _ _ => rfl
  have eE : EXT kp L kp L := ext_rf
  refine lv_aload_n hx hb dX9_init_0 rfl (lv_at hl 0 rfl) ?_
  refine W.objInit hx hb hown (hts _ tw_990) (hts _ tw_130) (hts _ tw_131) rfl (by rw [hml]; exact hl.1) rfl dX9_init_1 (Nat.le_of_ble_eq_true rfl) (Nat.le_of_ble_eq_true rfl) ?_
  refine W.eq (g2 := F0 m 4 ls []) rfl ?_
  refine lv_aload_n hx hb dX9_init_4 rfl (lv_at hl 0 rfl) ?_
  refine lv_iload_n hx hb dX9_init_5 rfl (lv_at hl 1 rfl) ?_
  refine r_putX9 (k := 0) (ty := .int) (v := .int u) E hin hX (by decide) tw_1006 rfl rfl (by decide +kernel) rfl rfl (Nat.le_of_ble_eq_true rfl) dX9_init_6 (fun H locs hX => ?_)
  refine lv_aload_n hx hb dX9_init_9 rfl (lv_at hl 0 rfl) ?_
  refine lv_aload_n hx hb dX9_init_10 rfl (lv_at hl 2 rfl) ?_
  refine r_getI (own := RX9) (C := RX5) (T := TX5) (N := 17) (k := 1) E (wx_ws hX) (eE _ _ hr0) (by decide) rfl rfl (by decide) tb_X5 tw_485 rfl rfl dX9_init_11 (fun yc eyc byc => ?_)
  rw [ek _ hr0.1] at eyc
  refine r_putX9 (k := 1) (ty := .int) (v := .int yc) E hin hX (by decide) tw_1008 rfl rfl (by decide +kernel) rfl rfl (Nat.le_of_ble_eq_true rfl) dX9_init_14 (fun H locs hX => ?_)
  refine lv_aload_n hx hb dX9_init_17 rfl (lv_at hl 0 rfl) ?_
  refine lv_aload_n hx hb dX9_init_18 rfl (lv_at hl 2 rfl) ?_
  refine r_getI (own := RX9) (C := RX5) (T := TX5) (N := 17) (k := 2) E (wx_ws hX) (eE _ _ hr0) (by decide) rfl rfl (by decide) tb_X5 tw_487 rfl rfl dX9_init_19 (fun yz eyz byz => ?_)
  rw [ek _ hr0.1] at eyz
  refine r_putX9 (k := 2) (ty := .boolean) (v := .int yz) E hin hX (by decide) tw_1011 rfl rfl (by decide +kernel) (nar01 byz) (fits01 byz) (Nat.le_of_ble_eq_true rfl) dX9_init_22 (fun H locs hX => ?_)
  refine lv_aload_n hx hb dX9_init_25 rfl (lv_at hl 0 rfl) ?_
  refine lv_aload_n hx hb dX9_init_26 rfl (lv_at hl 2 rfl) ?_
  refine r_getR (own := RX9) (C := RX5) (T := TX5) (N := 17) (k := 3) E (wx_ws hX) (eE _ _ hr0) (by decide) rfl rfl (by decide) tb_X5 tw_490 rfl rfl dX9_init_27 (fun y3 ey3 ky3 => ?_)
  rw [ek _ hr0.1] at ey3
  have sy3 : RK kp L y3 403 := by rw [← ey3]; exact th_ref hTH rr (by decide) (k := 3) (by decide) rfl
  have qy3 := ek _ sy3.1
  refine lv_bipush (v := 12) hx hb dX9_init_30 rfl ?_
  refine t_copy9 (K := 403) (K' := 643) E hCA hX ky3 (by decide) rfl (by decide) rfl ⟨by decide, by rw [lenOk_n (th_len (wx_ws hX) ky3 (by decide)) rfl (by decide)]; decide⟩ (by rw [lenOk_n (th_len (wx_ws hX) ky3 (by decide)) rfl (by decide)]; decide) ⟨fun h => absurd h (by decide), fun _ => rfl⟩ (fun _ _ => trivial) (fun _ _ _ => trivial) hl.1 (Nat.le_of_ble_eq_true rfl) ⟨Nat.le_of_ble_eq_true rfl, Nat.le_of_ble_eq_true rfl⟩ dX9_init_32 ⟨by show _ + 1 ≤ 7; omega, by show _ + 400 ≤ 2800; omega⟩ (fun b1 kp1 L1 f1 H locs nE nK cp1 hX => ?_)
  rw [qy3] at cp1
  have ek : KEEP L f0 f1 := keep_tr eE ek nK
  have eE : EXT kp L kp1 L1 := ext_tr eE nE
  refine r_putX9 (k := 3) (ty := .array .int) (v := .ref b1) E hin hX (by decide) tw_1013 rfl rfl (by decide +kernel) rfl rfl (Nat.le_of_ble_eq_true rfl) dX9_init_35 (fun H locs hX => ?_)
  refine lv_aload_n hx hb dX9_init_38 rfl (lv_at hl 0 rfl) ?_
  refine lv_aload_n hx hb dX9_init_39 rfl (lv_at hl 2 rfl) ?_
  refine r_getR (own := RX9) (C := RX5) (T := TX5) (N := 17) (k := 4) E (wx_ws hX) (eE _ _ hr0) (by decide) rfl rfl (by decide) tb_X5 tw_492 rfl rfl dX9_init_40 (fun y4 ey4 ky4 => ?_)
  rw [ek _ hr0.1] at ey4
  have sy4 : RK kp L y4 404 := by rw [← ey4]; exact th_ref hTH rr (by decide) (k := 4) (by decide) rfl
  have qy4 := ek _ sy4.1
  refine lv_bipush (v := 12) hx hb dX9_init_43 rfl ?_
  refine t_copy9 (K := 404) (K' := 644) E hCA hX ky4 (by decide) rfl (by decide) rfl ⟨by decide, by rw [lenOk_n (th_len (wx_ws hX) ky4 (by decide)) rfl (by decide)]; decide⟩ (by rw [lenOk_n (th_len (wx_ws hX) ky4 (by decide)) rfl (by decide)]; decide) ⟨fun h => absurd h (by decide), fun _ => rfl⟩ (fun _ h => h) (fun g n h => ab_cpy h) hl.1 (Nat.le_of_ble_eq_true rfl) ⟨Nat.le_of_ble_eq_true rfl, Nat.le_of_ble_eq_true rfl⟩ dX9_init_45 ⟨by show _ + 1 ≤ 7; omega, by show _ + 400 ≤ 2800; omega⟩ (fun b2 kp2 L2 f2 H locs nE nK cp2 hX => ?_)
  rw [qy4] at cp2
  have ek : KEEP L f0 f2 := keep_tr eE ek nK
  have cp1 := cp_mono cp1 nE nK
  have eE : EXT kp L kp2 L2 := ext_tr eE nE
  refine r_putX9 (k := 4) (ty := .array .int) (v := .ref b2) E hin hX (by decide) tw_1016 rfl rfl (by decide +kernel) rfl rfl (Nat.le_of_ble_eq_true rfl) dX9_init_48 (fun H locs hX => ?_)
  refine lv_aload_n hx hb dX9_init_51 rfl (lv_at hl 0 rfl) ?_
  refine lv_aload_n hx hb dX9_init_52 rfl (lv_at hl 2 rfl) ?_
  refine r_getR (own := RX9) (C := RX5) (T := TX5) (N := 17) (k := 5) E (wx_ws hX) (eE _ _ hr0) (by decide) rfl rfl (by decide) tb_X5 tw_494 rfl rfl dX9_init_53 (fun y5 ey5 ky5 => ?_)
  rw [ek _ hr0.1] at ey5
  have sy5 : RK kp L y5 405 := by rw [← ey5]; exact th_ref hTH rr (by decide) (k := 5) (by decide) rfl
  have qy5 := ek _ sy5.1
  refine lv_bipush (v := 12) hx hb dX9_init_56 rfl ?_
  refine t_copy9 (K := 405) (K' := 645) E hCA hX ky5 (by decide) rfl (by decide) rfl ⟨by decide, by rw [lenOk_n (th_len (wx_ws hX) ky5 (by decide)) rfl (by decide)]; decide⟩ (by rw [lenOk_n (th_len (wx_ws hX) ky5 (by decide)) rfl (by decide)]; decide) ⟨fun h => absurd h (by decide), fun _ => rfl⟩ (fun _ _ => trivial) (fun _ _ _ => trivial) hl.1 (Nat.le_of_ble_eq_true rfl) ⟨Nat.le_of_ble_eq_true rfl, Nat.le_of_ble_eq_true rfl⟩ dX9_init_58 ⟨by show _ + 1 ≤ 7; omega, by show _ + 400 ≤ 2800; omega⟩ (fun b3 kp3 L3 f3 H locs nE nK cp3 hX => ?_)
  rw [qy5] at cp3
  have ek : KEEP L f0 f3 := keep_tr eE ek nK
  have cp1 := cp_mono cp1 nE nK
  have cp2 := cp_mono cp2 nE nK
  have eE : EXT kp L kp3 L3 := ext_tr eE nE
  refine r_putX9 (k := 5) (ty := .array .int) (v := .ref b3) E hin hX (by decide) tw_1018 rfl rfl (by decide +kernel) rfl rfl (Nat.le_of_ble_eq_true rfl) dX9_init_61 (fun H locs hX => ?_)
  refine lv_aload_n hx hb dX9_init_64 rfl (lv_at hl 0 rfl) ?_
  refine lv_aload_n hx hb dX9_init_65 rfl (lv_at hl 2 rfl) ?_
  refine r_getR (own := RX9) (C := RX5) (T := TX5) (N := 17) (k := 6) E (wx_ws hX) (eE _ _ hr0) (by decide) rfl rfl (by decide) tb_X5 tw_496 rfl rfl dX9_init_66 (fun y6 ey6 ky6 => ?_)
  rw [ek _ hr0.1] at ey6
  have sy6 : RK kp L y6 406 := by rw [← ey6]; exact th_ref hTH rr (by decide) (k := 6) (by decide) rfl
  have qy6 := ek _ sy6.1
  refine lv_bipush (v := 12) hx hb dX9_init_69 rfl ?_
  refine t_copy9 (K := 406) (K' := 646) E hCA hX ky6 (by decide) rfl (by decide) rfl ⟨by decide, by rw [lenOk_n (th_len (wx_ws hX) ky6 (by decide)) rfl (by decide)]; decide⟩ (by rw [lenOk_n (th_len (wx_ws hX) ky6 (by decide)) rfl (by decide)]; decide) ⟨fun h => absurd h (by decide), fun _ => rfl⟩ (fun _ _ => trivial) (fun _ _ _ => trivial) hl.1 (Nat.le_of_ble_eq_true rfl) ⟨Nat.le_of_ble_eq_true rfl, Nat.le_of_ble_eq_true rfl⟩ dX9_init_71 ⟨by show _ + 1 ≤ 7; omega, by show _ + 400 ≤ 2800; omega⟩ (fun b4 kp4 L4 f4 H locs nE nK cp4 hX => ?_)
  rw [qy6] at cp4
  have ek : KEEP L f0 f4 := keep_tr eE ek nK
  have cp1 := cp_mono cp1 nE nK
  have cp2 := cp_mono cp2 nE nK
  have cp3 := cp_mono cp3 nE nK
  have eE : EXT kp L kp4 L4 := ext_tr eE nE
  refine r_putX9 (k := 6) (ty := .array .int) (v := .ref b4) E hin hX (by decide) tw_1020 rfl rfl (by decide +kernel) rfl rfl (Nat.le_of_ble_eq_true rfl) dX9_init_74 (fun H locs hX => ?_)
  refine lv_aload_n hx hb dX9_init_77 rfl (lv_at hl 0 rfl) ?_
  refine lv_aload_n hx hb dX9_init_78 rfl (lv_at hl 2 rfl) ?_
  refine r_getR (own := RX9) (C := RX5) (T := TX5) (N := 17) (k := 7) E (wx_ws hX) (eE _ _ hr0) (by decide) rfl rfl (by decide) tb_X5 tw_498 rfl rfl dX9_init_79 (fun y7 ey7 ky7 => ?_)
  rw [ek _ hr0.1] at ey7
  have sy7 : RK kp L y7 407 := by rw [← ey7]; exact th_ref hTH rr (by decide) (k := 7) (by decide) rfl
  have qy7 := ek _ sy7.1
  refine lv_bipush (v := 12) hx hb dX9_init_82 rfl ?_
  refine t_copy9 (K := 407) (K' := 647) E hCA hX ky7 (by decide) rfl (by decide) rfl ⟨by decide, by rw [lenOk_n (th_len (wx_ws hX) ky7 (by decide)) rfl (by decide)]; decide⟩ (by rw [lenOk_n (th_len (wx_ws hX) ky7 (by decide)) rfl (by decide)]; decide) ⟨fun h => absurd h (by decide), fun _ => rfl⟩ (fun _ _ => trivial) (fun _ _ _ => trivial) hl.1 (Nat.le_of_ble_eq_true rfl) ⟨Nat.le_of_ble_eq_true rfl, Nat.le_of_ble_eq_true rfl⟩ dX9_init_84 ⟨by show _ + 1 ≤ 7; omega, by show _ + 400 ≤ 2800; omega⟩ (fun b5 kp5 L5 f5 H locs nE nK cp5 hX => ?_)
  rw [qy7] at cp5
  have ek : KEEP L f0 f5 := keep_tr eE ek nK
  have cp1 := cp_mono cp1 nE nK
  have cp2 := cp_mono cp2 nE nK
  have cp3 := cp_mono cp3 nE nK
  have cp4 := cp_mono cp4 nE nK
  have eE : EXT kp L kp5 L5 := ext_tr eE nE
  refine r_putX9 (k := 7) (ty := .array .int) (v := .ref b5) E hin hX (by decide) tw_1022 rfl rfl (by decide +kernel) rfl rfl (Nat.le_of_ble_eq_true rfl) dX9_init_87 (fun H locs hX => ?_)
  refine lv_aload_n hx hb dX9_init_90 rfl (lv_at hl 0 rfl) ?_
  refine lv_aload_n hx hb dX9_init_91 rfl (lv_at hl 2 rfl) ?_
  refine r_getR (own := RX9) (C := RX5) (T := TX5) (N := 17) (k := 9) E (wx_ws hX) (eE _ _ hr0) (by decide) rfl rfl (by decide) tb_X5 tw_502 rfl rfl dX9_init_92 (fun y8 ey8 ky8 => ?_)
  rw [ek _ hr0.1] at ey8
  have sy8 : RK kp L y8 409 := by rw [← ey8]; exact th_ref hTH rr (by decide) (k := 9) (by decide) rfl
  have qy8 := ek _ sy8.1
  refine lv_aload_n hx hb dX9_init_95 rfl (lv_at hl 2 rfl) ?_
  refine r_getI (own := RX9) (C := RX5) (T := TX5) (N := 17) (k := 8) E (wx_ws hX) (eE _ _ hr0) (by decide) rfl rfl (by decide) tb_X5 tw_499 rfl rfl dX9_init_96 (fun w8 ew8 bw8 => ?_)
  rw [ek _ hr0.1] at ew8
  refine lv_iconst (v := 0) hx hb dX9_init_99 (by decide) ?_
  refine t_max (own := RX9) E tw_1005 ⟨tw_714, tw_115, tw_715⟩ hl.1 ⟨Nat.le_of_ble_eq_true rfl, Nat.le_of_ble_eq_true rfl⟩ ⟨by show _ ≤ 7; omega, by show _ ≤ 2800; omega⟩ rfl rfl dX9_init_100 (fun zw8 hzw8 => ?_)
  have qw8 : zw8 = w8 := Int32.toInt_inj.mp (by have h0 : (0 : Int32).toInt = 0 := rfl; omega)
  rw [qw8]
  have Nw8 := lenOk_n (N := 400) (th_len (wx_ws hX) ky8 (by decide)) rfl (by decide)
  refine t_copy9 (K := 409) (K' := 648) E hCA hX ky8 (by decide) rfl (by decide) rfl ⟨by omega, by rw [Nw8]; omega⟩ (by rw [Nw8]; decide) ⟨fun _ => by omega, fun h => absurd rfl h⟩ (fun _ _ => trivial) (fun _ _ _ => trivial) hl.1 (Nat.le_of_ble_eq_true rfl) ⟨Nat.le_of_ble_eq_true rfl, Nat.le_of_ble_eq_true rfl⟩ dX9_init_103 ⟨by show _ + 1 ≤ 7; omega, by show _ + 400 ≤ 2800; omega⟩ (fun b6 kp6 L6 f6 H locs nE nK cp6 hX => ?_)
  rw [qy8] at cp6
  have ek : KEEP L f0 f6 := keep_tr eE ek nK
  have cp1 := cp_mono cp1 nE nK
  have cp2 := cp_mono cp2 nE nK
  have cp3 := cp_mono cp3 nE nK
  have cp4 := cp_mono cp4 nE nK
  have cp5 := cp_mono cp5 nE nK
  have eE : EXT kp L kp6 L6 := ext_tr eE nE
  refine r_putX9 (k := 8) (ty := .array .int) (v := .ref b6) E hin hX (by decide) tw_1024 rfl rfl (by decide +kernel) rfl rfl (Nat.le_of_ble_eq_true rfl) dX9_init_106 (fun H locs hX => ?_)
  refine lv_aload_n hx hb dX9_init_109 rfl (lv_at hl 0 rfl) ?_
  refine lv_aload_n hx hb dX9_init_110 rfl (lv_at hl 2 rfl) ?_
  refine r_getR (own := RX9) (C := RX5) (T := TX5) (N := 17) (k := 10) E (wx_ws hX) (eE _ _ hr0) (by decide) rfl rfl (by decide) tb_X5 tw_504 rfl rfl dX9_init_111 (fun y9 ey9 ky9 => ?_)
  rw [ek _ hr0.1] at ey9
  have sy9 : RK kp L y9 410 := by rw [← ey9]; exact th_ref hTH rr (by decide) (k := 10) (by decide) rfl
  have qy9 := ek _ sy9.1
  refine lv_aload_n hx hb dX9_init_114 rfl (lv_at hl 2 rfl) ?_
  refine r_getI (own := RX9) (C := RX5) (T := TX5) (N := 17) (k := 8) E (wx_ws hX) (eE _ _ hr0) (by decide) rfl rfl (by decide) tb_X5 tw_499 rfl rfl dX9_init_115 (fun w9 ew9 bw9 => ?_)
  rw [ek _ hr0.1] at ew9
  refine lv_iconst (v := 0) hx hb dX9_init_118 (by decide) ?_
  refine t_max (own := RX9) E tw_1005 ⟨tw_714, tw_115, tw_715⟩ hl.1 ⟨Nat.le_of_ble_eq_true rfl, Nat.le_of_ble_eq_true rfl⟩ ⟨by show _ ≤ 7; omega, by show _ ≤ 2800; omega⟩ rfl rfl dX9_init_119 (fun zw9 hzw9 => ?_)
  have qw9 : zw9 = w9 := Int32.toInt_inj.mp (by have h0 : (0 : Int32).toInt = 0 := rfl; omega)
  rw [qw9]
  have Nw9 := lenOk_n (N := 400) (th_len (wx_ws hX) ky9 (by decide)) rfl (by decide)
  refine t_copy9 (K := 410) (K' := 649) E hCA hX ky9 (by decide) rfl (by decide) rfl ⟨by omega, by rw [Nw9]; omega⟩ (by rw [Nw9]; decide) ⟨fun _ => by omega, fun h => absurd rfl h⟩ (fun _ _ => trivial) (fun _ _ _ => trivial) hl.1 (Nat.le_of_ble_eq_true rfl) ⟨Nat.le_of_ble_eq_true rfl, Nat.le_of_ble_eq_true rfl⟩ dX9_init_122 ⟨by show _ + 1 ≤ 7; omega, by show _ + 400 ≤ 2800; omega⟩ (fun b7 kp7 L7 f7 H locs nE nK cp7 hX => ?_)
  rw [qy9] at cp7
  have ek : KEEP L f0 f7 := keep_tr eE ek nK
  have cp1 := cp_mono cp1 nE nK
  have cp2 := cp_mono cp2 nE nK
  have cp3 := cp_mono cp3 nE nK
  have cp4 := cp_mono cp4 nE nK
  have cp5 := cp_mono cp5 nE nK
  have cp6 := cp_mono cp6 nE nK
  have eE : EXT kp L kp7 L7 := ext_tr eE nE
  refine r_putX9 (k := 9) (ty := .array .int) (v := .ref b7) E hin hX (by decide) tw_1026 rfl rfl (by decide +kernel) rfl rfl (Nat.le_of_ble_eq_true rfl) dX9_init_125 (fun H locs hX => ?_)
  have htL : t ∉ L7 := va_pl_fresh2 (X := []) (by simpa using hX.2.1)
  have ek : KEEP L f0 f7 := ek
  have e89 : w9 = w8 := by rw [← ew9, ← ew8]
  subst e89
  obtain ⟨hP, hD, hS, hTH7⟩ := hX
  rw [va_pl_push htL] at hP hD
  have X1 : EXT kp7 L7 (kup kp7 t 9) (L7 ++ [t]) := ext_push htL
  have nb : ∀ b K : Nat, RK kp7 L7 b K → b ≠ t := fun b K h q => htL (q ▸ h.1)
  have hTH8 : TH cI cJ cZ cD cR cT (kup kp7 t 9) (L7 ++ [t]) (va_up f7 t (.inr (9, [.int u, .int yc, .int yz, .ref b1, .ref b2, .ref b3, .ref b4, .ref b5, .ref b6, .ref b7]))) := by
    refine th_push hTH7 htL ⟨fun _ => ⟨_, rfl, rfl, fun k hk => ?_⟩, fun h => absurd h (by decide)⟩ (fun _ => ?_)
    · match k, hk with
      | 0, _ => exact ⟨u, rfl, i32_b u⟩
      | 1, _ => exact ⟨yc, rfl, byc⟩
      | 2, _ => exact ⟨yz, rfl, byz⟩
      | 3, _ => exact ⟨b1, rfl, X1 _ _ cp1.1⟩
      | 4, _ => exact ⟨b2, rfl, X1 _ _ cp2.1⟩
      | 5, _ => exact ⟨b3, rfl, X1 _ _ cp3.1⟩
      | 6, _ => exact ⟨b4, rfl, X1 _ _ cp4.1⟩
      | 7, _ => exact ⟨b5, rfl, X1 _ _ cp5.1⟩
      | 8, _ => exact ⟨b6, rfl, X1 _ _ cp6.1⟩
      | 9, _ => exact ⟨b7, rfl, X1 _ _ cp7.1⟩
    · refine si1_of (nb _ _ cp4.1) (nb _ _ cp5.1) (nb _ _ cp6.1) (nb _ _ cp7.1) (by rw [cp6.2.1, cp7.2.1]) (fun i hi => ?_)
      have h12 : (12 : Int32).toInt = 12 := rfl
      rw [cp4.2.2 i (by omega), cp5.2.2 i (by omega), cp6.2.1]
      have z := hRC i (by rw [eyc]; exact hi)
      rw [ey6, ey7, ew9] at z
      exact ⟨z.1, by omega⟩
  refine W.widen (k := 7) (n := 2800) (by omega) (by omega) ?_
  have E8 : EXT kp L (kup kp7 t 9) (L7 ++ [t]) := ext_tr eE X1
  have tL : t ∉ L := fun h => htL (eE _ _ ⟨h, rfl⟩).1
  exact eX_V E E8 ⟨hP, hD, hS, hTH8⟩ rfl ⟨rfl, rk_new, tL, fun b hb => by
    rw [va_up_ne _ _ (fun q => tL (by rw [← q]; exact hb)), ek b hb]
    exact ⟨fun _ _ => rfl, fun _ _ => rfl⟩⟩ dX9_init_128
