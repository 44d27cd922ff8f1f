/-! the pool grows by one cell -/
def kup (kp : Nat → Nat) (a K : Nat) : Nat → Nat := fun q => if q = a then K else kp q
/-- all that stands in the old pool stands in the new one, of the same kind -/
def EXT (kp : Nat → Nat) (L : List Nat) (kp1 : Nat → Nat) (L1 : List Nat) : Prop := ∀ b K : Nat, RK kp L b K → RK kp1 L1 b K
section GROW
variable {cI cJ cZ cD cR cT : ClassId} {kp kp1 kp2 : Nat → Nat} {L L1 L2 : List Nat} {f f1 : Nat → va_E} {a b K : Nat} {x : va_E}
theorem ext_rf : EXT kp L kp L := fun _ _ h => h
theorem ext_tr (h : EXT kp L kp1 L1) (g : EXT kp1 L1 kp2 L2) : EXT kp L kp2 L2 := fun b K q => g b K (h b K q)
theorem ext_push (ha : a ∉ L) : EXT kp L (kup kp a K) (L ++ [a]) := fun b Kb ⟨h1, h2⟩ => ⟨List.mem_append_left _ h1, by
  have e : ¬ b = a := fun e => ha (by rw [← e]; exact h1)
  unfold kup; rw [if_neg e]; exact h2⟩
theorem rk_new : RK (kup kp a K) (L ++ [a]) a K := ⟨List.mem_append_right _ List.mem_cons_self, by unfold kup; rw [if_pos rfl]⟩
theorem okV_ext (hE : EXT kp L kp1 L1) {t : tFT} {v : Value} (h : okV kp L t v) : okV kp1 L1 t v := by
  unfold okV at h ⊢
  split at h
  · exact h
  · exact h
  · obtain ⟨q, e, r⟩ := h; exact ⟨q, e, hE _ _ r⟩
  · trivial
theorem okO_ext (hE : EXT kp L kp1 L1) {ci : Nat} (h : okO kp L ci x) : okO kp1 L1 ci x := by
  obtain ⟨fs, e1, e2, e3⟩ := h
  exact ⟨fs, e1, e2, fun k hk => okV_ext hE (e3 k hk)⟩
theorem okA_ext (hE : EXT kp L kp1 L1) (h : okA cI cJ cZ cD cR cT kp L K x) : okA cI cJ cZ cD cR cT kp1 L1 K x := by
  unfold okA at h ⊢
  split at h
  · exact h
  · exact h
  · exact h
  · exact h
  · obtain ⟨n, g, e1, e2, e3⟩ := h; exact ⟨n, g, e1, e2, fun i q hq => hE _ _ (e3 i q hq)⟩
  · obtain ⟨n, g, e1, e2, e3⟩ := h; exact ⟨n, g, e1, e2, fun i q hq => hE _ _ (e3 i q hq)⟩
theorem okK_ext (hE : EXT kp L kp1 L1) (h : okK cI cJ cZ cD cR cT kp L K x) : okK cI cJ cZ cD cR cT kp1 L1 K x := ⟨fun q => okO_ext hE (h.1 q), fun q => okA_ext hE (h.2 q)⟩
/-- what SI says of one text -/
def SI1 (f : Nat → va_E) (a : Nat) : Prop := aN (f (oR (f a) 8)) = aN (f (oR (f a) 9)) ∧ ∀ i : Nat, (i : Int) < (oI (f a) 1).toInt → 0 ≤ (aI (f (oR (f a) 6)) i).toInt ∧ (aI (f (oR (f a) 7)) i).toInt ≤ ((aN (f (oR (f a) 8)) : Nat) : Int)
theorem th_push (h : TH cI cJ cZ cD cR cT kp L f) (ha : a ∉ L) (hx : okK cI cJ cZ cD cR cT (kup kp a K) (L ++ [a]) K x) (hs : K = 9 → SI1 (va_up f a x) a) : TH cI cJ cZ cD cR cT (kup kp a K) (L ++ [a]) (va_up f a x) := by
  have hE : EXT kp L (kup kp a K) (L ++ [a]) := ext_push ha
  refine ⟨fun b hb => ?_, fun b hb => ?_⟩
  · by_cases e : b = a
    · subst e
      rw [va_up_self, (rk_new (kp := kp) (L := L) (a := b) (K := K)).2]
      exact hx
    · have hbL : b ∈ L := by
        rcases List.mem_append.mp hb with q | q
        · exact q
        · exact absurd (List.mem_singleton.mp q) e
      rw [va_up_ne _ _ e]
      have z := okK_ext (cI := cI) (cJ := cJ) (cZ := cZ) (cD := cD) (cR := cR) (cT := cT) hE (h.1 b hbL)
      have e2 : kup kp a K b = kp b := by unfold kup; rw [if_neg e]
      rw [e2]
      exact z
  · by_cases e : b = a
    · subst e
      exact hs (by have := hb.2; rw [(rk_new (kp := kp) (L := L) (a := b) (K := K)).2] at this; exact this)
    · have hbL : b ∈ L := by
        rcases List.mem_append.mp hb.1 with q | q
        · exact q
        · exact absurd (List.mem_singleton.mp q) e
      have hb9 : RK kp L b 9 := ⟨hbL, by have := hb.2; unfold kup at this; rw [if_neg e] at this; exact this⟩
      have ref : ∀ j Kj : Nat, j < 10 → fTab 9 j = (2, Kj, 0, 0) → oR (f b) j ≠ a := fun j Kj hj hft q => ha (q ▸ (th_ref h hb9 (by decide) hj hft).1)
      rw [va_up_ne _ _ e, va_up_ne _ _ (ref 6 646 (by decide) rfl), va_up_ne _ _ (ref 7 647 (by decide) rfl), va_up_ne _ _ (ref 8 648 (by decide) rfl), va_up_ne _ _ (ref 9 649 (by decide) rfl)]
      exact h.2 b hb9
/-- the old cells are as they were -/
theorem fm_push (ha : a ∉ L) {ms : List (Nat × Nat)} : FM kp L ms f (va_up f a x) := fun b hb => by
  have e : b ≠ a := fun e => ha (e ▸ hb)
  rw [va_up_ne _ _ e]
  exact ⟨fun _ _ => rfl, fun _ _ => rfl⟩
/-- a new row: its array, then itself -/
theorem th_row6 (h : TH cI cJ cZ cD cR cT kp L f) (ha : a ∉ L) (hb : b ∉ L) (hab : a ≠ b) {u : Int32} {n : Nat} (hu : 0 ≤ u.toInt ∧ u.toInt ≤ 39) (hn : n ≤ 400) : TH cI cJ cZ cD cR cT (kup (kup kp b 461) a 6) ((L ++ [b]) ++ [a]) (va_up (va_up f b (.inl (cI, n, .inl (fun _ => 0)))) a (.inr (6, [.int u, .ref b]))) := by
  have h1 := th_push (K := 461) (x := .inl (cI, n, .inl (fun _ => 0))) h hb ⟨fun q => absurd q (by decide), fun _ => ⟨n, _, rfl, ⟨fun _ => hn, fun q => absurd rfl q⟩, trivial⟩⟩ (fun q => absurd q (by decide))
  have ha2 : a ∉ L ++ [b] := fun q => by
    rcases List.mem_append.mp q with q | q
    · exact ha q
    · exact hab (List.mem_singleton.mp q)
  refine th_push h1 ha2 ⟨fun _ => ⟨_, rfl, rfl, fun k hk => ?_⟩, fun q => absurd q (by decide)⟩ (fun q => absurd q (by decide))
  match k, hk with
  | 0, _ => exact ⟨u, rfl, hu⟩
  | 1, _ => exact ⟨b, rfl, ext_push ha2 _ _ rk_new⟩
end GROW
/-! contracts of methods that make objects: they end over a bigger pool -/
def QX (po : Option Value → (Nat → Nat) → List Nat → (Nat → va_E) → Prop) (G : va_G) (cI cJ cZ cD cR cT : ClassId) (A : Nat → Prop) (kp : Nat → Nat) (L : List Nat) : Array Value → State → Outcome → State → Prop := fun _ st oc t =>
  (∃ (v : Option Value) (kp1 : Nat → Nat) (L1 : List Nat) (f : Nat → va_E), oc = .returned v ∧ EXT kp L kp1 L1 ∧ po v kp1 L1 f ∧ TH cI cJ cZ cD cR cT kp1 L1 f ∧ va_P G vwCl (va_pl L1 f) t.heap ∧ va_D A (va_pl L1 f)) ∧ va_F A st t
theorem fm_res {kp kp1 : Nat → Nat} {L L1 : List Nat} {f f1 : Nat → va_E} {ms : List (Nat × Nat)} (hE : EXT kp L kp1 L1) (h : FM kp1 L1 ms f f1) : FM kp L ms f f1 := fun a ha => by
  have e := hE a (kp a) ⟨ha, rfl⟩
  have z := h a e.1
  rw [e.2] at z
  exact z
section XCALLS
variable {p : Program} {l : Launch} {e : Env} {R : Room} {s : State} {m : MethodId} {args : Array Value} {below : List Frame} {meth : Method} {c : Code} {H : Heap} {locs : List Loc} {cells slots : Nat} {Q : State → Prop}
variable {cc : ByteArray} {pc : Nat} {ls : Array Slot} {rest st0 : List Value} {G : va_G} {A : Nat → Prop} {cI cJ cZ cD cR cT : ClassId} {ret rety : Option FieldType} {nL : Nat} {own : String} {kp kp1 : Nat → Nat} {L L1 : List Nat} {f : Nat → va_E}
variable {po : Option Value → (Nat → Nat) → List Nat → (Nat → va_E) → Prop} {mc ms : Nat}
theorem callX {av : Array Value} (hA : ∀ q : Nat, s.heap.size ≤ q → A q) (hW : WS G cI cJ cZ cD cR cT A kp L f s H locs) (hrun : va_Run p l e R s m args below meth c H locs cells slots mc ms (F0 m pc ls st0) rest (QX po G cI cJ cZ cD cR cT (va_A (va_pl L f) H.size) kp L av) (va_A (va_pl L f) H.size))
    (kk : ∀ (v : Option Value) (kp1 : Nat → Nat) (L1 : List Nat) (f1 : Nat → va_E) (H1 : Heap) (locs1 : List Loc), EXT kp L kp1 L1 → po v kp1 L1 f1 → WS G cI cJ cZ cD cR cT A kp1 L1 f1 s H1 locs1 → W p l e R s m args below meth c H1 locs1 (cells + mc) (slots + ms) Q (F0 m (pc + 3) ls (v.toList ++ rest))) : W p l e R s m args below meth c H locs cells slots Q (F0 m pc ls st0) := by
  obtain ⟨hP, hD, hS, hTH⟩ := hW
  have hF : ∀ q : Nat, va_A (va_pl L f) H.size q → A q := fun q h => by
    rcases h with ⟨k, x, hk⟩ | h
    · exact hD.2 k _ hk
    · exact hA q (Nat.le_trans hS.1 h)
  intro T hT X
  obtain ⟨v, st₀, t, T', Lo, h0, X', hL, e1, e2, ⟨⟨v', kp1, L1, f1, hv, hE, hpo, hTH1, hP1, hD1⟩, hz, hk⟩, st⟩ := hrun T hT X
  cases hv
  rw [h0] at hz hk
  obtain ⟨t2, a1, b1⟩ := kk v kp1 L1 f1 T'.heap (locs ++ Lo) hE hpo ⟨by rw [e1]; exact hP1, hD1.weaken (fun k q _ h => hF q.1 h), ⟨Nat.le_trans hS.1 (by rw [e1]; exact hz), fun x h1 h2 => by rw [e1, hk x (Nat.lt_of_lt_of_le h1 hS.1) (fun z => h2 (hF x z))]; exact hS.2.1 x h1 h2, fun x hx => by
      rcases List.mem_append.mp hx with h | h
      · exact hS.2.2 x h
      · exact hF _ (hL x h)⟩, hTH1⟩ T' rfl X'
  exact ⟨t2, st t2 a1, b1⟩
theorem eX_I {v : Int32} (E : EV G cI cJ cZ cD cR cT A cc ret nL own p s m args meth c) (hE : EXT kp L kp1 L1) (hW : WS G cI cJ cZ cD cR cT A kp1 L1 f s H locs) (hret : ret = some .int) (hpo : po (some (.int v)) kp1 L1 f) (hdg : decode cc pc = .ok (.ireturn, 1)) : W p l e R s m args below meth c H locs cells slots (MQ below (QX po G cI cJ cZ cD cR cT A kp L) args s cells slots A) (F0 m pc ls [.int v]) := by
  obtain ⟨hx, hb, hr, hml, hown, hts, hlocks, hKK, hA⟩ := E
  exact W.iret (v := v) hx hb (hr.trans hret) (fun t ht _ => ⟨⟨_, kp1, L1, f, rfl, hE, hpo, hW.2.2.2, by rw [ht]; exact hW.1, hW.2.1⟩, hW.2.2.1.F ht⟩) hW.2.2.1.2.2 hdg hlocks
theorem eX_J {v : Int64} (E : EV G cI cJ cZ cD cR cT A cc ret nL own p s m args meth c) (hE : EXT kp L kp1 L1) (hW : WS G cI cJ cZ cD cR cT A kp1 L1 f s H locs) (hret : ret = some .long) (hpo : po (some (.long v)) kp1 L1 f) (hdg : decode cc pc = .ok (.lreturn, 1)) : W p l e R s m args below meth c H locs cells slots (MQ below (QX po G cI cJ cZ cD cR cT A kp L) args s cells slots A) (F0 m pc ls [.long v]) := by
  obtain ⟨hx, hb, hr, hml, hown, hts, hlocks, hKK, hA⟩ := E
  exact W.lret (v := v) hx hb (hr.trans hret) (fun t ht _ => ⟨⟨_, kp1, L1, f, rfl, hE, hpo, hW.2.2.2, by rw [ht]; exact hW.1, hW.2.1⟩, hW.2.2.1.F ht⟩) hW.2.2.1.2.2 hdg hlocks
end XCALLS
