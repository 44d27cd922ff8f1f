/-! words of the tables, by their places -/
theorem dmem {c : Cond} {d r : List Cond} {j : Nat} {w : Cond} (h : d[j]? = some w) : w ∈ c :: (d ++ r) := List.mem_cons_of_mem _ (List.mem_append_left _ (List.mem_of_getElem? h))
def Gd (ws : List Cond) : Prop := ∀ w ∈ ws, goodWord w = true
theorem gd_nil : Gd ([] : List Cond) := fun _ h => absurd h List.not_mem_nil
theorem gd_app {a b : List Cond} (ha : Gd a) (hb : Gd b) : Gd (a ++ b) := fun w h => (List.mem_append.mp h).elim (ha w) (hb w)
theorem gd_all {d : List Cond} (hd : d.all goodWord = true) : Gd d := fun w h => List.all_eq_true.mp hd w h
theorem gd_mk {y : MethodName} {c : ByteArray} {n : Nat} {r : Option FieldType} {d rest : List Cond} (hd : d.all goodWord = true) (hr : Gd rest) : Gd (Cond.code y c n r :: (d ++ rest)) := fun w h => by
  rcases List.mem_cons.mp h with e | h
  · subst e; rfl
  · exact gd_app (gd_all hd) hr w h
theorem gi {big ws : List Cond} (hm : ∀ w ∈ ws, w ∈ big) (hg : Gd ws) : GoodIn big ws := fun w hw => ⟨hm w hw, good_of_word (hg w hw)⟩
theorem gd_X0 : Gd wsX00 := gd_all (by decide +kernel)
theorem gd_X1 : Gd wsX10 := gd_all (by decide +kernel)
theorem gd_X2 : Gd wsX20 := gd_all (by decide +kernel)
theorem gd_X3 : Gd wsX30 := gd_all (by decide +kernel)
theorem gd_X4 : Gd wsX40 := gd_all (by decide +kernel)
theorem gd_X5 : Gd wsX50 := gd_all (by decide +kernel)
theorem gd_X6 : Gd wsX60 := gd_all (by decide +kernel)
theorem gd_X7 : Gd wsX70 := gd_all (by decide +kernel)
theorem gd_X8 : Gd wsX80 := gd_all (by decide +kernel)
theorem gd_X9 : Gd wsX90 := gd_all (by decide +kernel)
theorem gd_X10 : Gd wsX100 := gd_all (by decide +kernel)
theorem gd_X11 : Gd wsX110 := gd_all (by decide +kernel)
theorem gd_X12 : Gd wsX120 := gd_all (by decide +kernel)
