/-! a new row beside a typed pool: made, filled, taken in -/
section NEWROW
variable {p : Program} {l : Launch} {e : Env} {R : Room} {s : State} {m : MethodId} {args : Array Value} {below : List Frame} {meth : Method} {c : Code} {H : Heap} {locs : List Loc} {cells slots : Nat} {Q : State → Prop}
variable {cc : ByteArray} {pc : Nat} {ls : Array Slot} {rest st0 : List Value} {G : va_G} {A : Nat → Prop} {cI cJ cZ cD cR cT : ClassId} {ret : Option FieldType} {nL : Nat} {kp : Nat → Nat} {L : List Nat} {f : Nat → va_E} {a : Nat} {u1 u2 : Int32}
theorem x_new6 (E : EV G cI cJ cZ cD cR cT A cc ret nL RX11 p s m args meth c) (hW : WS G cI cJ cZ cD cR cT A kp L f s H locs) (hcells : cells + 1 ≤ R.cells) (hslots : slots + 2 ≤ R.slots) (hdg : decode cc pc = .ok (.new 366, 3))
    (kk : ∀ (a : Nat) (H1 : Heap), a ∉ L → WX G cI cJ cZ cD cR cT A kp L f [(a, .inr (6, [.int 0, .null]))] s H1 locs → W p l e R s m args below meth c H1 locs (cells + 1) (slots + 2) Q (F0 m (pc + 3) ls (.ref a :: rest))) : W p l e R s m args below meth c H locs cells slots Q (F0 m pc ls rest) := by
  obtain ⟨hx, hb, -, hml, hown, hts, -, hKK, hA⟩ := id E
  refine va_new (C := RX6) (T := TX6) (N := 2) (ci := 6) hx hb hts tb_X6 tyX6 tyX6_ok hown (hts _ tw_799) (hts _ tw_800) (hts _ tw_116) hKK.1 hW.1 hW.2.1 hW.2.2.1 hA rfl (fs := [.int 0, .null]) (by decide +kernel) hcells hslots hdg (fun q H1 hP hD hS => kk q H1 ?_ ⟨hP, hD, hS, hW.2.2.2⟩)
  exact va_pl_fresh2 (X := []) (by simpa using hD)
theorem x_init6 (E : EV G cI cJ cZ cD cR cT A cc ret nL RX11 p s m args meth c) (hX : WX G cI cJ cZ cD cR cT A kp L f [(a, .inr (6, [.int 0, .null]))] s H locs) (hu : 0 ≤ u1.toInt ∧ u1.toInt ≤ 39) (h40 : u2.toInt ≤ 40) (hR : 2 ≤ R.frames ∧ 8 + (3 + 11) + 90 ≤ R.locals) (hsize : ls.size = nL) (hw : (rest.map fun v => v.category).sum ≤ 8) (hdg : decode cc pc = .ok (.invokespecial 371, 3)) (hf : cells + 1 ≤ R.cells ∧ slots + 40 ≤ R.slots)
    (kk : ∀ (b : Nat) (H1 : Heap) (locs1 : List Loc), EXT kp L (kup (kup kp b 461) a 6) ((L ++ [b]) ++ [a]) → FM kp L [] f (va_up (va_up f b (.inl (cI, u2.toInt.toNat, .inl (fun _ => 0)))) a (.inr (6, [.int u1, .ref b]))) → WS G cI cJ cZ cD cR cT A (kup (kup kp b 461) a 6) ((L ++ [b]) ++ [a]) (va_up (va_up f b (.inl (cI, u2.toInt.toNat, .inl (fun _ => 0)))) a (.inr (6, [.int u1, .ref b]))) s H1 locs1 → W p l e R s m args below meth c H1 locs1 (cells + 1) (slots + 40) Q (F0 m (pc + 3) ls rest)) : W p l e R s m args below meth c H locs cells slots Q (F0 m pc ls (.int u2 :: .int u1 :: .ref a :: rest)) := by
  obtain ⟨hx, hb, -, hml, hown, hts, -, hKK, hA⟩ := id E
  refine goI (wc := [(a, .inr (6, [.int 0, .null]))]) (wr := va_pl L f) (As := [.int u1, .int u2]) (rest := rest) ⟨hx, hb, hml, hown, hts⟩ (c_X6_init l G cI cJ cZ cD cR cT a u1 u2 H.size h40) ⟨callB_of 2 hts (good_y tw_good tw_817) rfl rfl rfl (hts _ tw_116) (hts _ tw_815) (by decide +kernel) hR, rfl, hts _ tw_816⟩ hKK hX.1 hX.2.1 hX.2.2.1 hA rfl rfl hsize rfl (lv_room hw) hdg hf (fun v q g H1 locs1 hv hP hD hS => ?_)
  have hv2 : v = none := hv
  subst hv2
  have hne : ∀ (i j : Nat) (x z : Nat × va_E), (va_pl L f ++ [((q 0), .inl (cI, u2.toInt.toNat, .inl (fun _ => 0))), (a, .inr (6, [.int u1, .ref (q 0)]))])[i]? = some x → (va_pl L f ++ [((q 0), .inl (cI, u2.toInt.toNat, .inl (fun _ => 0))), (a, .inr (6, [.int u1, .ref (q 0)]))])[j]? = some z → x.1 = z.1 → i = j := hD.1
  have hin : ∀ b : Nat, b ∈ L → ∃ i : Nat, i < (va_pl L f).length ∧ (va_pl L f)[i]? = some (b, f b) := fun b hbL => by
    obtain ⟨i, hi⟩ := va_pl_get (X := []) (f := f) hbL
    have hi2 : (va_pl L f)[i]? = some (b, f b) := by simpa using hi
    refine ⟨i, ?_, hi2⟩
    by_cases w : i < (va_pl L f).length
    · exact w
    · rw [List.getElem?_eq_none (by omega)] at hi2; cases hi2
  have hqL : q 0 ∉ L := fun h => by
    obtain ⟨i, h1, h2⟩ := hin _ h
    have := hne i ((va_pl L f).length + 0) _ _ (app_l h2) (app_r rfl) rfl
    omega
  have haL : a ∉ L := fun h => by
    obtain ⟨i, h1, h2⟩ := hin _ h
    have := hne i ((va_pl L f).length + 1) _ _ (app_l h2) (app_r rfl) rfl
    omega
  have haq : a ≠ q 0 := fun h => by
    have := hne ((va_pl L f).length + 1) ((va_pl L f).length + 0) _ _ (app_r rfl) (app_r rfl) h
    omega
  have ha2 : a ∉ L ++ [q 0] := fun h => by
    rcases List.mem_append.mp h with h | h
    · exact haL h
    · exact haq (List.mem_singleton.mp h)
  have ew : va_pl L f ++ [((q 0), .inl (cI, u2.toInt.toNat, .inl (fun _ => 0))), (a, .inr (6, [.int u1, .ref (q 0)]))] = va_pl ((L ++ [q 0]) ++ [a]) (va_up (va_up f (q 0) (.inl (cI, u2.toInt.toNat, .inl (fun _ => 0)))) a (.inr (6, [.int u1, .ref (q 0)]))) := by
    rw [← va_pl_push ha2, ← va_pl_push hqL, List.append_assoc]
    rfl
  rw [ew] at hP hD
  exact kk (q 0) H1 locs1 (ext_tr (ext_push hqL) (ext_push ha2)) (FM.tr (fm_push (ms := []) hqL) (fm_res (ext_push hqL) (fm_push (kp := kup kp (q 0) 461) (L := L ++ [q 0]) (ms := []) ha2)) rfl) ⟨hP, hD, hS, th_row6 hX.2.2.2 haL hqL haq hu (by omega)⟩
end NEWROW
