theorem p_X10_154 : pl RX10 154 10 18 .boolean := ⟨_, rfl, by decide, Or.inl (tbm (wl_in21 _ (List.mem_of_getElem? (i := 22) rfl)) rfl), rfl, by decide +kernel⟩
theorem p_X10_39 : pl RX10 39 10 17 .int := ⟨_, rfl, by decide, Or.inl (tbm (wl_in21 _ (List.mem_of_getElem? (i := 21) rfl)) rfl), rfl, by decide +kernel⟩
theorem m_X10_158 : lmV RX10 158 yX10_next 0 := ⟨⟨⟨ne_WineSpoonModel.1, ne_WineSpoonModel.2, pd___V_3⟩, tbm (wl_in0 _ (List.mem_of_getElem? (i := 11) rfl)) rfl, Or.inl (tbm (wl_in26 _ (List.mem_of_getElem? (i := 33) rfl)) rfl)⟩, tbm (wl_in26 _ (List.mem_of_getElem? (i := 35) rfl)) rfl, tbm (List.mem_of_getElem? (i := 65) rfl) rfl⟩
theorem f_X10_154 : fl RX10 154 10 18 := ⟨_, rfl, by decide, Or.inl (tbm (wl_in21 _ (List.mem_of_getElem? (i := 22) rfl)) rfl)⟩
theorem f_X10_46 : fl RX10 46 10 22 := ⟨_, rfl, by decide, Or.inl (tbm (wl_in21 _ (List.mem_of_getElem? (i := 26) rfl)) rfl)⟩
theorem f_X10_191 : fl RX10 191 10 21 := ⟨_, rfl, by decide, Or.inl (tbm (wl_in21 _ (List.mem_of_getElem? (i := 25) rfl)) rfl)⟩
theorem f_X10_49 : fl RX10 49 10 23 := ⟨_, rfl, by decide, Or.inl (tbm (wl_in21 _ (List.mem_of_getElem? (i := 27) rfl)) rfl)⟩
theorem p_X10_191 : pl RX10 191 10 21 .int := ⟨_, rfl, by decide, Or.inl (tbm (wl_in21 _ (List.mem_of_getElem? (i := 25) rfl)) rfl), rfl, by decide +kernel⟩
theorem f_X10_52 : fl RX10 52 10 25 := ⟨_, rfl, by decide, Or.inl (tbm (wl_in21 _ (List.mem_of_getElem? (i := 29) rfl)) rfl)⟩
theorem f_X10_194 : fl RX10 194 10 27 := ⟨_, rfl, by decide, Or.inl (tbm (wl_in21 _ (List.mem_of_getElem? (i := 31) rfl)) rfl)⟩
theorem f_X10_55 : fl RX10 55 10 26 := ⟨_, rfl, by decide, Or.inl (tbm (wl_in21 _ (List.mem_of_getElem? (i := 30) rfl)) rfl)⟩
theorem p_X10_194 : pl RX10 194 10 27 .int := ⟨_, rfl, by decide, Or.inl (tbm (wl_in21 _ (List.mem_of_getElem? (i := 31) rfl)) rfl), rfl, by decide +kernel⟩
theorem m_X10_197 : lmS RX10 197 yX10_binds 1 := ⟨⟨⟨ne_WineSpoonModel.1, ne_WineSpoonModel.2, pd__I_I_4⟩, tbm (wl_in0 _ (List.mem_of_getElem? (i := 11) rfl)) rfl, Or.inl (tbm (wl_in28 _ (List.mem_of_getElem? (i := 9) rfl)) rfl)⟩, tbm (wl_in28 _ (List.mem_of_getElem? (i := 10) rfl)) rfl⟩
theorem m_X10_200 : lmV RX10 200 yX10_emit 2 := ⟨⟨⟨ne_WineSpoonModel.1, ne_WineSpoonModel.2, pd__II_V_5⟩, tbm (wl_in0 _ (List.mem_of_getElem? (i := 11) rfl)) rfl, Or.inl (tbm (wl_in28 _ (List.mem_of_getElem? (i := 1) rfl)) rfl)⟩, tbm (wl_in28 _ (List.mem_of_getElem? (i := 3) rfl)) rfl, tbm (List.mem_of_getElem? (i := 77) rfl) rfl⟩
theorem k_X10_208 : Cond.constantLong RX10 208 (Int64.ofInt 24) ∈ tb := tbm (wl_in28 _ (List.mem_of_getElem? (i := 26) rfl)) rfl
theorem k_X10_210 : Cond.constantLong RX10 210 (Int64.ofInt 26) ∈ tb := tbm (wl_in28 _ (List.mem_of_getElem? (i := 27) rfl)) rfl
theorem k_X10_206 : Cond.constantLong RX10 206 (Int64.ofInt 23) ∈ tb := tbm (wl_in28 _ (List.mem_of_getElem? (i := 25) rfl)) rfl
theorem pd__Z_V_4 : (parseMethodDescriptor "(Z)V").map (fun d => d.parameters.length) = some 1 := by decide +kernel
theorem m_X10_187 : lmV RX10 187 yX10_must 1 := ⟨⟨⟨ne_WineSpoonModel.1, ne_WineSpoonModel.2, pd__Z_V_4⟩, tbm (wl_in0 _ (List.mem_of_getElem? (i := 11) rfl)) rfl, Or.inl (tbm (wl_in27 _ (List.mem_of_getElem? (i := 9) rfl)) rfl)⟩, tbm (wl_in27 _ (List.mem_of_getElem? (i := 11) rfl)) rfl, tbm (List.mem_of_getElem? (i := 68) rfl) rfl⟩
theorem w_X10_next : Cond.code yX10_next cX10_next 1 none ∈ tb := tbm (wl_in26 _ (List.mem_of_getElem? (i := 36) rfl)) rfl
theorem w_X10_binds : Cond.code yX10_binds cX10_binds 1 (some .int) ∈ tb := tbm (wl_in28 _ (List.mem_of_getElem? (i := 11) rfl)) rfl
theorem w_X10_emit : Cond.code yX10_emit cX10_emit 3 none ∈ tb := tbm (wl_in28 _ (List.mem_of_getElem? (i := 4) rfl)) rfl
theorem w_X10_must : Cond.code yX10_must cX10_must 2 none ∈ tb := tbm (wl_in27 _ (List.mem_of_getElem? (i := 12) rfl)) rfl
