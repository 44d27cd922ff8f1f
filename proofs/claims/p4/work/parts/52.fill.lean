def d_J7_fill_20 : List Cond := []
def v_J7_fill_20 : List Cond := Cond.code yJ7_fill_53178 cJ7_fill_53178 4 none :: (d_J7_fill_20 ++ ([] : List Cond))
theorem gd_J7_fill_20 : Gd v_J7_fill_20 := gd_mk (by decide +kernel) gd_nil
set_option maxHeartbeats 4000000 in
set_option maxRecDepth 100000 in
theorem c_J7_fill_20 (l : Launch) (G : va_G) (cI cJ cZ cD cR cT : ClassId) (a0 : Nat) (v : Int32) (fa : Nat → Int32) (sz : Nat) : Met l yJ7_fill_53178 v_J7_fill_20 ({ frames := 1, cells := 0, slots := 0, locals := 40 }) (va_Pc [.ref a0, .int v] (PreW G (tys6 cI cJ cZ cD cR cT) [(a0, .inl (cI, 20, .inl fa))] sz)) (QW RV G (va_A [(a0, .inl (cI, 20, .inl fa))] sz) (fun q g => [(a0, .inl (cI, 20, .inl (fillU fa v 20)))])) 0 0 (va_A [(a0, .inl (cI, 20, .inl fa))] sz) := by
  refine metW (cc := cJ7_fill_53178) (maxL := 4) (ret := none) (by decide) rfl (Nat.le_of_ble_eq_true rfl) ?_
  intro p e s m below meth c A ls hx hb hr hml hown hts hlocks hin hKK hP hD hA hS hl
  have hK := hKK.1
  have hown : s.vm.findClass RJ7 = some m.cls := hown
  have hl : lv_has ls 4 [(0, .ref a0), (1, .int v)] := hl
  have hP : va_P G vwCl [(a0, .inl (cI, 20, .inl fa))] s.heap := hP
  have hD : va_D A [(a0, .inl (cI, 20, .inl fa))] := hD
  refine lv_iconst (v := 0) hx hb dJ7_fill_53178_0 (by decide) ?_
  refine lv_istore_n (lv' := [(2, .int 0), (0, .ref a0), (1, .int v)]) hx hb dJ7_fill_53178_1 rfl hl (by decide) rfl (fun ls hl => ?_)
  refine lv_aload_n hx hb dJ7_fill_53178_2 rfl (lv_at hl 1 rfl) ?_
  refine va_alen (v := 20) hx hb hK hP 0 0 rfl rfl rfl dJ7_fill_53178_3 ?_
  refine lv_istore_n (lv' := [(3, .int 20), (2, .int 0), (0, .ref a0), (1, .int v)]) hx hb dJ7_fill_53178_4 rfl hl (by decide) rfl (fun ls hl => ?_)
  have loop5 : ∀ (n k : Nat), k + n = 20 → ∀ (H : Heap) (locs : List Loc) (ls : Array Slot), va_P G vwCl [(a0, .inl (cI, 20, .inl (fillU fa v k)))] H → va_D A [(a0, .inl (cI, 20, .inl (fillU fa v k)))] → va_S A s.heap H locs → lv_has ls 4 [(3, .int 20), (2, .int (nI k)), (0, .ref a0), (1, .int v)] → W p l e ({ frames := 1, cells := 0, slots := 0, locals := 40 }) s m ([.ref a0, .int v] : List Value).toArray below meth c H locs 0 0 (MQ below (QW RV G A (fun q g => [(a0, .inl (cI, 20, .inl (fillU fa v 20)))])) ([.ref a0, .int v] : List Value).toArray s 0 0 A) (F0 m 5 ls []) := by
    intro n
    induction n with
    | zero =>
      intro k hk H locs ls hP hD hS hl
      obtain rfl : 20 = k := by omega
      have hl : lv_has ls 4 [(3, .int 20), (2, .int 20), (0, .ref a0), (1, .int v)] := hl
      refine lv_iload_n hx hb dJ7_fill_53178_5 rfl (lv_at hl 1 rfl) ?_
      refine lv_iload_n hx hb dJ7_fill_53178_6 rfl (lv_at hl 0 rfl) ?_
      refine lv_icmp_ge (tgt := 20) hx hb dJ7_fill_53178_7 (by decide) (fun _ => ?_) (fun c => absurd c (by decide))
      exact retV hx hb hr hlocks rfl hP hD hS (fun _ => 0) (fun _ _ => 0) [0] (by decide +kernel) rfl dJ7_fill_53178_20
    | succ n ih =>
      intro k hk H locs ls hP hD hS hl
      have hkI : (nI k).toInt = (k : Int) := nI_toInt (by omega)
      refine lv_iload_n hx hb dJ7_fill_53178_5 rfl (lv_at hl 1 rfl) ?_
      refine lv_iload_n hx hb dJ7_fill_53178_6 rfl (lv_at hl 0 rfl) ?_
      refine lv_icmp_ge (tgt := 20) hx hb dJ7_fill_53178_7 (by decide) (fun c1 => ?_) (fun c1 => ?_)
      · have f2 : (20 : Int) ≤ (nI k).toInt := Int32.le_iff_toInt_le.mp c1
        exfalso; omega
      · have f3 : ¬ ((20 : Int) ≤ (nI k).toInt) := fun h => c1 (Int32.le_iff_toInt_le.mpr h)
        refine lv_aload_n hx hb dJ7_fill_53178_10 rfl (lv_at hl 2 rfl) ?_
        refine lv_iload_n hx hb dJ7_fill_53178_11 rfl (lv_at hl 1 rfl) ?_
        refine lv_iload_n hx hb dJ7_fill_53178_12 rfl (lv_at hl 3 rfl) ?_
        refine va_iast hx hb hK hP hD hS 0 0 rfl rfl (vp_in_iff.mpr (by omega)) dJ7_fill_53178_13 (fun H locs => setW (ws' := [(a0, .inl (cI, 20, .inl (upd (fillU fa v k) ((nI k)).toNatClampNeg v)))]) rfl (fun hP hD hS => ?_))
        refine lv_iinc (v := (nI (k + 1))) (lv' := [(2, .int (nI (k + 1))), (3, .int 20), (0, .ref a0), (1, .int v)]) hx hb dJ7_fill_53178_14 hl (k := 1) rfl (nI_1 k) (by decide) rfl (fun ls hl => ?_)
        refine lv_goto (tgt := 5) hx hb dJ7_fill_53178_17 (by decide) ?_
        have hfe : upd (fillU fa v k) (nI k).toNatClampNeg v = fillU fa v (k + 1) := by rw [nI_clamp (by omega)]; exact fillU_s fa v k
        rw [hfe] at hP hD
        exact ih (k + 1) (by omega) _ _ _ hP hD hS (lv_sub hl [1, 0, 2, 3] rfl)
  exact loop5 20 0 (by omega) _ _ _ (by rw [fillU_0]; exact hP) (by rw [fillU_0]; exact hD) hS hl
def d_J7_fill_40 : List Cond := []
def v_J7_fill_40 : List Cond := Cond.code yJ7_fill_53178 cJ7_fill_53178 4 none :: (d_J7_fill_40 ++ ([] : List Cond))
theorem gd_J7_fill_40 : Gd v_J7_fill_40 := gd_mk (by decide +kernel) gd_nil
set_option maxHeartbeats 4000000 in
set_option maxRecDepth 100000 in
theorem c_J7_fill_40 (l : Launch) (G : va_G) (cI cJ cZ cD cR cT : ClassId) (a0 : Nat) (v : Int32) (fa : Nat → Int32) (sz : Nat) : Met l yJ7_fill_53178 v_J7_fill_40 ({ frames := 1, cells := 0, slots := 0, locals := 40 }) (va_Pc [.ref a0, .int v] (PreW G (tys6 cI cJ cZ cD cR cT) [(a0, .inl (cI, 40, .inl fa))] sz)) (QW RV G (va_A [(a0, .inl (cI, 40, .inl fa))] sz) (fun q g => [(a0, .inl (cI, 40, .inl (fillU fa v 40)))])) 0 0 (va_A [(a0, .inl (cI, 40, .inl fa))] sz) := by
  refine metW (cc := cJ7_fill_53178) (maxL := 4) (ret := none) (by decide) rfl (Nat.le_of_ble_eq_true rfl) ?_
  intro p e s m below meth c A ls hx hb hr hml hown hts hlocks hin hKK hP hD hA hS hl
  have hK := hKK.1
  have hown : s.vm.findClass RJ7 = some m.cls := hown
  have hl : lv_has ls 4 [(0, .ref a0), (1, .int v)] := hl
  have hP : va_P G vwCl [(a0, .inl (cI, 40, .inl fa))] s.heap := hP
  have hD : va_D A [(a0, .inl (cI, 40, .inl fa))] := hD
  refine lv_iconst (v := 0) hx hb dJ7_fill_53178_0 (by decide) ?_
  refine lv_istore_n (lv' := [(2, .int 0), (0, .ref a0), (1, .int v)]) hx hb dJ7_fill_53178_1 rfl hl (by decide) rfl (fun ls hl => ?_)
  refine lv_aload_n hx hb dJ7_fill_53178_2 rfl (lv_at hl 1 rfl) ?_
  refine va_alen (v := 40) hx hb hK hP 0 0 rfl rfl rfl dJ7_fill_53178_3 ?_
  refine lv_istore_n (lv' := [(3, .int 40), (2, .int 0), (0, .ref a0), (1, .int v)]) hx hb dJ7_fill_53178_4 rfl hl (by decide) rfl (fun ls hl => ?_)
  have loop5 : ∀ (n k : Nat), k + n = 40 → ∀ (H : Heap) (locs : List Loc) (ls : Array Slot), va_P G vwCl [(a0, .inl (cI, 40, .inl (fillU fa v k)))] H → va_D A [(a0, .inl (cI, 40, .inl (fillU fa v k)))] → va_S A s.heap H locs → lv_has ls 4 [(3, .int 40), (2, .int (nI k)), (0, .ref a0), (1, .int v)] → W p l e ({ frames := 1, cells := 0, slots := 0, locals := 40 }) s m ([.ref a0, .int v] : List Value).toArray below meth c H locs 0 0 (MQ below (QW RV G A (fun q g => [(a0, .inl (cI, 40, .inl (fillU fa v 40)))])) ([.ref a0, .int v] : List Value).toArray s 0 0 A) (F0 m 5 ls []) := by
    intro n
    induction n with
    | zero =>
      intro k hk H locs ls hP hD hS hl
      obtain rfl : 40 = k := by omega
      have hl : lv_has ls 4 [(3, .int 40), (2, .int 40), (0, .ref a0), (1, .int v)] := hl
      refine lv_iload_n hx hb dJ7_fill_53178_5 rfl (lv_at hl 1 rfl) ?_
      refine lv_iload_n hx hb dJ7_fill_53178_6 rfl (lv_at hl 0 rfl) ?_
      refine lv_icmp_ge (tgt := 20) hx hb dJ7_fill_53178_7 (by decide) (fun _ => ?_) (fun c => absurd c (by decide))
      exact retV hx hb hr hlocks rfl hP hD hS (fun _ => 0) (fun _ _ => 0) [0] (by decide +kernel) rfl dJ7_fill_53178_20
    | succ n ih =>
      intro k hk H locs ls hP hD hS hl
      have hkI : (nI k).toInt = (k : Int) := nI_toInt (by omega)
      refine lv_iload_n hx hb dJ7_fill_53178_5 rfl (lv_at hl 1 rfl) ?_
      refine lv_iload_n hx hb dJ7_fill_53178_6 rfl (lv_at hl 0 rfl) ?_
      refine lv_icmp_ge (tgt := 20) hx hb dJ7_fill_53178_7 (by decide) (fun c1 => ?_) (fun c1 => ?_)
      · have f2 : (40 : Int) ≤ (nI k).toInt := Int32.le_iff_toInt_le.mp c1
        exfalso; omega
      · have f3 : ¬ ((40 : Int) ≤ (nI k).toInt) := fun h => c1 (Int32.le_iff_toInt_le.mpr h)
        refine lv_aload_n hx hb dJ7_fill_53178_10 rfl (lv_at hl 2 rfl) ?_
        refine lv_iload_n hx hb dJ7_fill_53178_11 rfl (lv_at hl 1 rfl) ?_
        refine lv_iload_n hx hb dJ7_fill_53178_12 rfl (lv_at hl 3 rfl) ?_
        refine va_iast hx hb hK hP hD hS 0 0 rfl rfl (vp_in_iff.mpr (by omega)) dJ7_fill_53178_13 (fun H locs => setW (ws' := [(a0, .inl (cI, 40, .inl (upd (fillU fa v k) ((nI k)).toNatClampNeg v)))]) rfl (fun hP hD hS => ?_))
        refine lv_iinc (v := (nI (k + 1))) (lv' := [(2, .int (nI (k + 1))), (3, .int 40), (0, .ref a0), (1, .int v)]) hx hb dJ7_fill_53178_14 hl (k := 1) rfl (nI_1 k) (by decide) rfl (fun ls hl => ?_)
        refine lv_goto (tgt := 5) hx hb dJ7_fill_53178_17 (by decide) ?_
        have hfe : upd (fillU fa v k) (nI k).toNatClampNeg v = fillU fa v (k + 1) := by rw [nI_clamp (by omega)]; exact fillU_s fa v k
        rw [hfe] at hP hD
        exact ih (k + 1) (by omega) _ _ _ hP hD hS (lv_sub hl [1, 0, 2, 3] rfl)
  exact loop5 40 0 (by omega) _ _ _ (by rw [fillU_0]; exact hP) (by rw [fillU_0]; exact hD) hS hl
def d_J7_fill_400 : List Cond := []
def v_J7_fill_400 : List Cond := Cond.code yJ7_fill_53178 cJ7_fill_53178 4 none :: (d_J7_fill_400 ++ ([] : List Cond))
theorem gd_J7_fill_400 : Gd v_J7_fill_400 := gd_mk (by decide +kernel) gd_nil
set_option maxHeartbeats 4000000 in
set_option maxRecDepth 100000 in
theorem c_J7_fill_400 (l : Launch) (G : va_G) (cI cJ cZ cD cR cT : ClassId) (a0 : Nat) (v : Int32) (fa : Nat → Int32) (sz : Nat) : Met l yJ7_fill_53178 v_J7_fill_400 ({ frames := 1, cells := 0, slots := 0, locals := 40 }) (va_Pc [.ref a0, .int v] (PreW G (tys6 cI cJ cZ cD cR cT) [(a0, .inl (cI, 400, .inl fa))] sz)) (QW RV G (va_A [(a0, .inl (cI, 400, .inl fa))] sz) (fun q g => [(a0, .inl (cI, 400, .inl (fillU fa v 400)))])) 0 0 (va_A [(a0, .inl (cI, 400, .inl fa))] sz) := by
  refine metW (cc := cJ7_fill_53178) (maxL := 4) (ret := none) (by decide) rfl (Nat.le_of_ble_eq_true rfl) ?_
  intro p e s m below meth c A ls hx hb hr hml hown hts hlocks hin hKK hP hD hA hS hl
  have hK := hKK.1
  have hown : s.vm.findClass RJ7 = some m.cls := hown
  have hl : lv_has ls 4 [(0, .ref a0), (1, .int v)] := hl
  have hP : va_P G vwCl [(a0, .inl (cI, 400, .inl fa))] s.heap := hP
  have hD : va_D A [(a0, .inl (cI, 400, .inl fa))] := hD
  refine lv_iconst (v := 0) hx hb dJ7_fill_53178_0 (by decide) ?_
  refine lv_istore_n (lv' := [(2, .int 0), (0, .ref a0), (1, .int v)]) hx hb dJ7_fill_53178_1 rfl hl (by decide) rfl (fun ls hl => ?_)
  refine lv_aload_n hx hb dJ7_fill_53178_2 rfl (lv_at hl 1 rfl) ?_
  refine va_alen (v := 400) hx hb hK hP 0 0 rfl rfl rfl dJ7_fill_53178_3 ?_
  refine lv_istore_n (lv' := [(3, .int 400), (2, .int 0), (0, .ref a0), (1, .int v)]) hx hb dJ7_fill_53178_4 rfl hl (by decide) rfl (fun ls hl => ?_)
  have loop5 : ∀ (n k : Nat), k + n = 400 → ∀ (H : Heap) (locs : List Loc) (ls : Array Slot), va_P G vwCl [(a0, .inl (cI, 400, .inl (fillU fa v k)))] H → va_D A [(a0, .inl (cI, 400, .inl (fillU fa v k)))] → va_S A s.heap H locs → lv_has ls 4 [(3, .int 400), (2, .int (nI k)), (0, .ref a0), (1, .int v)] → W p l e ({ frames := 1, cells := 0, slots := 0, locals := 40 }) s m ([.ref a0, .int v] : List Value).toArray below meth c H locs 0 0 (MQ below (QW RV G A (fun q g => [(a0, .inl (cI, 400, .inl (fillU fa v 400)))])) ([.ref a0, .int v] : List Value).toArray s 0 0 A) (F0 m 5 ls []) := by
    intro n
    induction n with
    | zero =>
      intro k hk H locs ls hP hD hS hl
      obtain rfl : 400 = k := by omega
      have hl : lv_has ls 4 [(3, .int 400), (2, .int 400), (0, .ref a0), (1, .int v)] := hl
      refine lv_iload_n hx hb dJ7_fill_53178_5 rfl (lv_at hl 1 rfl) ?_
      refine lv_iload_n hx hb dJ7_fill_53178_6 rfl (lv_at hl 0 rfl) ?_
      refine lv_icmp_ge (tgt := 20) hx hb dJ7_fill_53178_7 (by decide) (fun _ => ?_) (fun c => absurd c (by decide))
      exact retV hx hb hr hlocks rfl hP hD hS (fun _ => 0) (fun _ _ => 0) [0] (by decide +kernel) rfl dJ7_fill_53178_20
    | succ n ih =>
      intro k hk H locs ls hP hD hS hl
      have hkI : (nI k).toInt = (k : Int) := nI_toInt (by omega)
      refine lv_iload_n hx hb dJ7_fill_53178_5 rfl (lv_at hl 1 rfl) ?_
      refine lv_iload_n hx hb dJ7_fill_53178_6 rfl (lv_at hl 0 rfl) ?_
      refine lv_icmp_ge (tgt := 20) hx hb dJ7_fill_53178_7 (by decide) (fun c1 => ?_) (fun c1 => ?_)
      · have f2 : (400 : Int) ≤ (nI k).toInt := Int32.le_iff_toInt_le.mp c1
        exfalso; omega
      · have f3 : ¬ ((400 : Int) ≤ (nI k).toInt) := fun h => c1 (Int32.le_iff_toInt_le.mpr h)
        refine lv_aload_n hx hb dJ7_fill_53178_10 rfl (lv_at hl 2 rfl) ?_
        refine lv_iload_n hx hb dJ7_fill_53178_11 rfl (lv_at hl 1 rfl) ?_
        refine lv_iload_n hx hb dJ7_fill_53178_12 rfl (lv_at hl 3 rfl) ?_
        refine va_iast hx hb hK hP hD hS 0 0 rfl rfl (vp_in_iff.mpr (by omega)) dJ7_fill_53178_13 (fun H locs => setW (ws' := [(a0, .inl (cI, 400, .inl (upd (fillU fa v k) ((nI k)).toNatClampNeg v)))]) rfl (fun hP hD hS => ?_))
        refine lv_iinc (v := (nI (k + 1))) (lv' := [(2, .int (nI (k + 1))), (3, .int 400), (0, .ref a0), (1, .int v)]) hx hb dJ7_fill_53178_14 hl (k := 1) rfl (nI_1 k) (by decide) rfl (fun ls hl => ?_)
        refine lv_goto (tgt := 5) hx hb dJ7_fill_53178_17 (by decide) ?_
        have hfe : upd (fillU fa v k) (nI k).toNatClampNeg v = fillU fa v (k + 1) := by rw [nI_clamp (by omega)]; exact fillU_s fa v k
        rw [hfe] at hP hD
        exact ih (k + 1) (by omega) _ _ _ hP hD hS (lv_sub hl [1, 0, 2, 3] rfl)
  exact loop5 400 0 (by omega) _ _ _ (by rw [fillU_0]; exact hP) (by rw [fillU_0]; exact hD) hS hl
