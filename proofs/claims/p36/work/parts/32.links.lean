theorem f_X10_26 : fl RX10 26 10 7 := ⟨_, rfl, by decide, Or.inl (tbm (wl_in21 _ (List.mem_of_getElem? (i := 11) rfl)) rfl)⟩
theorem f_X10_23 : fl RX10 23 10 6 := ⟨_, rfl, by decide, Or.inl (tbm (wl_in21 _ (List.mem_of_getElem? (i := 10) rfl)) rfl)⟩
theorem f_X10_16 : fl RX10 16 10 4 := ⟨_, rfl, by decide, Or.inl (tbm (wl_in21 _ (List.mem_of_getElem? (i := 8) rfl)) rfl)⟩
