/-! further words -/
theorem tw_1249 : Cond.constant RJ6 265 (1431655765) ∈ wTab := mw (tt_5 _ (List.mem_of_getElem? (i := 187) (by decide +kernel))) rfl
theorem tw_1250 : Cond.constant RJ6 266 (858993459) ∈ wTab := mw (tt_5 _ (List.mem_of_getElem? (i := 188) (by decide +kernel))) rfl
theorem tw_1251 : Cond.constant RJ6 267 (252645135) ∈ wTab := mw (tt_5 _ (List.mem_of_getElem? (i := 189) (by decide +kernel))) rfl
