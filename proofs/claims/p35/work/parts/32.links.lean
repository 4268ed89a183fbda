theorem f_X10_26 : fl RX10 26 10 7 := ⟨_, rfl, by decide, Or.inl (tbm (List.mem_of_getElem? (i := 1116) (by decide +kernel)) (by decide +kernel))⟩
theorem f_X10_23 : fl RX10 23 10 6 := ⟨_, rfl, by decide, Or.inl (tbm (List.mem_of_getElem? (i := 1115) (by decide +kernel)) (by decide +kernel))⟩
theorem f_X10_16 : fl RX10 16 10 4 := ⟨_, rfl, by decide, Or.inl (tbm (List.mem_of_getElem? (i := 1113) (by decide +kernel)) (by decide +kernel))⟩
