/-! new rows -/
theorem tw_820 : Cond.fieldLink RX6 7 "NoRent$Row" "from" "I" ∈ wTab := mw (tt_3 _ (List.mem_of_getElem? (i := 238) (by decide +kernel))) rfl
theorem tw_822 : Cond.fieldLink RX6 19 "NoRent$Row" "sacks" "[I" ∈ wTab := mw (tt_4 _ (List.mem_of_getElem? (i := 0) (by decide +kernel))) rfl
theorem dX6_init_0 : decode cX6_init 0 = .ok (.aload_n 0, 1) := by decide +kernel
theorem dX6_init_1 : decode cX6_init 1 = .ok (.invokespecial 1, 3) := by decide +kernel
theorem dX6_init_4 : decode cX6_init 4 = .ok (.aload_n 0, 1) := by decide +kernel
theorem dX6_init_5 : decode cX6_init 5 = .ok (.iload_n 1, 1) := by decide +kernel
theorem dX6_init_6 : decode cX6_init 6 = .ok (.putfield 7, 3) := by decide +kernel
theorem dX6_init_9 : decode cX6_init 9 = .ok (.aload_n 0, 1) := by decide +kernel
theorem dX6_init_10 : decode cX6_init 10 = .ok (.iload_n 2, 1) := by decide +kernel
theorem dX6_init_11 : decode cX6_init 11 = .ok (.iconst 0, 1) := by decide +kernel
theorem dX6_init_12 : decode cX6_init 12 = .ok (.invokestatic 13, 3) := by decide +kernel
theorem dX6_init_15 : decode cX6_init 15 = .ok (.newarray .int, 2) := by decide +kernel
theorem dX6_init_17 : decode cX6_init 17 = .ok (.putfield 19, 3) := by decide +kernel
theorem dX6_init_20 : decode cX6_init 20 = .ok (.return_, 1) := by decide +kernel
set_option maxHeartbeats 4000000 in
set_option maxRecDepth 100000 in
/-- Row(from, length): its length is at most 40 here -/
theorem c_X6_init (l : Launch) (G : va_G) (cI cJ cZ cD cR cT : ClassId) (h0 : Nat) (u1 u2 : Int32) (sz : Nat) (h40 : u2.toInt ≤ 40) : Met l yX6_init (Cond.code yX6_init cX6_init 3 none :: wTab) ({ frames := 1, cells := 1, slots := 40, locals := 90 }) (va_Pc [.ref h0, .int u1, .int u2] (PreW G (tys6 cI cJ cZ cD cR cT) [(h0, .inr (6, [.int 0, .null]))] sz)) (QW RV G (va_A [(h0, .inr (6, [.int 0, .null]))] sz) (fun q g => [((q 0), .inl (cI, u2.toInt.toNat, .inl (fun _ => 0))), (h0, .inr (6, [.int u1, .ref (q 0)]))])) 1 40 (va_A [(h0, .inr (6, [.int 0, .null]))] sz) := by
  refine metW (cc := cX6_init) (maxL := 3) (ret := none) (by decide) rfl (Nat.le_of_ble_eq_true rfl) ?_
  intro p e s m below meth c A ls hx hb hr hml hown hts0 hlocks hin hKK hP hD hA hS hl
  have hts : ∀ w ∈ wTab, w.before _ s = true := fun w h => hts0 w (List.mem_cons_of_mem _ h)
  have hK := hKK.1
  have hown : s.vm.findClass RX6 = some m.cls := hown
  have hl : lv_has ls 3 [(0, .ref h0), (1, .int u1), (2, .int u2)] := hl
  have hP : va_P G vwCl [(h0, .inr (6, [.int 0, .null]))] s.heap := hP
  have hD : va_D A [(h0, .inr (6, [.int 0, .null]))] := hD
  refine lv_aload_n hx hb dX6_init_0 rfl (lv_at hl 0 rfl) ?_
  refine W.objInit hx hb hown (hts _ tw_818) (hts _ tw_130) (hts _ tw_131) rfl (by rw [hml]; exact hl.1) rfl dX6_init_1 (Nat.le_of_ble_eq_true rfl) (Nat.le_of_ble_eq_true rfl) ?_
  refine W.eq (g2 := F0 m 4 ls []) rfl ?_
  refine lv_aload_n hx hb dX6_init_4 rfl (lv_at hl 0 rfl) ?_
  refine lv_iload_n hx hb dX6_init_5 rfl (lv_at hl 1 rfl) ?_
  refine va_putF (D := G) (ci := 6) (v := .int u1) (ty := .int) (C := RX6) (T := TX6) (N := 2) hx hb hts tb_X6 tyX6 tyX6_ok nmX6 hown hK hP hD hS 0 rfl rfl 0 (by decide) (hts _ tw_820) (fun _ h9 => h9) rfl hin rfl (by decide +kernel) rfl rfl (Nat.le_of_ble_eq_true rfl) dX6_init_6 (fun H locs => setW (ws' := [(h0, .inr (6, [.int u1, .null]))]) rfl (fun hP hD hS => ?_))
  refine lv_aload_n hx hb dX6_init_9 rfl (lv_at hl 0 rfl) ?_
  refine lv_iload_n hx hb dX6_init_10 rfl (lv_at hl 2 rfl) ?_
  refine lv_iconst (v := 0) hx hb dX6_init_11 (by decide) ?_
  refine va_mmax hx hb (hml.trans hl.1.symm) hown (hts _ tw_819) (hts _ tw_714) (hts _ tw_115) (hts _ tw_715) (Nat.le_of_ble_eq_true rfl) (Nat.le_of_ble_eq_true rfl) (Nat.le_of_ble_eq_true rfl) (Nat.le_of_ble_eq_true rfl) dX6_init_12 ?_
  obtain ⟨z, hz⟩ : ∃ z : Int32, z = (if u2 < 0 then 0 else u2) := ⟨_, rfl⟩
  have hz2 : 0 ≤ z.toInt ∧ (u2.toInt.toNat : Int) = z.toInt := by
    rw [hz]
    split
    · rename_i h; have := i32_lt.mp h; have h0 : (0 : Int32).toInt = 0 := rfl; omega
    · rename_i h
      have h2 : ¬ (u2.toInt < 0) := fun q => h (i32_lt.mpr q)
      omega
  rw [← hz]
  have hzn := tnc hz2.1
  refine newaW (atype := .int) (ft := .int) (a0 := (u2.toInt.toNat, .inl (fun _ => 0))) (N' := u2.toInt.toNat) hx hb (hts _ tw_191) rfl hKK 0 rfl hP hD hS hA (fun _ => rfl) (fun q => by have := i32_lt.mp q; have h0 : (0 : Int32).toInt = 0 := rfl; omega) (by omega) (by show _ * 4 ≤ _; omega) (Nat.le_of_ble_eq_true rfl) (by show 0 + _ ≤ 40; omega) dX6_init_15 (fun q1 H => appW (ws' := [(h0, .inr (6, [.int u1, .null])), (q1, .inl (cI, u2.toInt.toNat, .inl (fun _ => 0)))]) rfl (fun hP hD hS => ?_))
  refine W.widen (k := 1) (n := 40) (Nat.le_of_ble_eq_true rfl) (by show 0 + _ ≤ 40; omega) ?_
  refine va_putF (D := G) (ci := 6) (v := .ref q1) (ty := .array .int) (C := RX6) (T := TX6) (N := 2) hx hb hts tb_X6 tyX6 tyX6_ok nmX6 hown hK hP hD hS 0 rfl rfl 1 (by decide) (hts _ tw_822) (fun _ h9 => h9) rfl hin rfl (by decide +kernel) rfl rfl (Nat.le_of_ble_eq_true rfl) dX6_init_17 (fun H locs => setW (ws' := [(h0, .inr (6, [.int u1, .ref q1])), (q1, .inl (cI, u2.toInt.toNat, .inl (fun _ => 0)))]) rfl (fun hP hD hS => ?_))
  refine W.widen (k := 1) (n := 40) (Nat.le_of_ble_eq_true rfl) (Nat.le_of_ble_eq_true rfl) ?_
  exact retV hx hb hr hlocks rfl hP hD hS (fun k => match k with | 0 => q1 | _ => 0) (fun _ _ => 0) [1, 0] (by decide +kernel) rfl dX6_init_20
