theorem f_X10_174 : fl RX10 174 10 15 := ⟨_, rfl, by decide, Or.inl (tbm (wl_in21 _ (List.mem_of_getElem? (i := 19) rfl)) rfl)⟩
theorem f_X10_151 : fl RX10 151 10 14 := ⟨_, rfl, by decide, Or.inl (tbm (wl_in21 _ (List.mem_of_getElem? (i := 18) rfl)) rfl)⟩
theorem m_X10_171 : lmS RX10 171 yX10_isDigit 1 := ⟨⟨⟨ne_WineSpoonModel.1, ne_WineSpoonModel.2, pd__I_Z_4⟩, tbm (wl_in0 _ (List.mem_of_getElem? (i := 11) rfl)) rfl, Or.inl (tbm (wl_in26 _ (List.mem_of_getElem? (i := 40) rfl)) rfl)⟩, tbm (wl_in26 _ (List.mem_of_getElem? (i := 41) rfl)) rfl⟩
theorem f_X10_164 : fl RX10 164 10 16 := ⟨_, rfl, by decide, Or.inl (tbm (wl_in21 _ (List.mem_of_getElem? (i := 20) rfl)) rfl)⟩
theorem k_X10_185 : Cond.constantLong RX10 185 (Int64.ofInt 48) ∈ tb := tbm (wl_in26 _ (List.mem_of_getElem? (i := 47) rfl)) rfl
theorem p_X10_164 : pl RX10 164 10 16 .long := ⟨_, rfl, by decide, Or.inl (tbm (wl_in21 _ (List.mem_of_getElem? (i := 20) rfl)) rfl), rfl, by decide +kernel⟩
theorem p_X10_151 : pl RX10 151 10 14 .int := ⟨_, rfl, by decide, Or.inl (tbm (wl_in21 _ (List.mem_of_getElem? (i := 18) rfl)) rfl), rfl, by decide +kernel⟩
theorem m_X10_168 : lmS RX10 168 yX10_isSmall 1 := ⟨⟨⟨ne_WineSpoonModel.1, ne_WineSpoonModel.2, pd__I_Z_4⟩, tbm (wl_in0 _ (List.mem_of_getElem? (i := 11) rfl)) rfl, Or.inl (tbm (wl_in26 _ (List.mem_of_getElem? (i := 37) rfl)) rfl)⟩, tbm (wl_in26 _ (List.mem_of_getElem? (i := 38) rfl)) rfl⟩
theorem f_X10_161 : fl RX10 161 10 13 := ⟨_, rfl, by decide, Or.inl (tbm (wl_in21 _ (List.mem_of_getElem? (i := 17) rfl)) rfl)⟩
theorem k_X10_177 : Cond.constantLong RX10 177 (Int64.ofInt 32) ∈ tb := tbm (wl_in26 _ (List.mem_of_getElem? (i := 43) rfl)) rfl
theorem k_X10_179 : Cond.constantLong RX10 179 (Int64.ofInt 96) ∈ tb := tbm (wl_in26 _ (List.mem_of_getElem? (i := 44) rfl)) rfl
theorem p_X10_174 : pl RX10 174 10 15 .int := ⟨_, rfl, by decide, Or.inl (tbm (wl_in21 _ (List.mem_of_getElem? (i := 19) rfl)) rfl), rfl, by decide +kernel⟩
theorem p_X10_161 : pl RX10 161 10 13 .int := ⟨_, rfl, by decide, Or.inl (tbm (wl_in21 _ (List.mem_of_getElem? (i := 17) rfl)) rfl), rfl, by decide +kernel⟩
theorem w_X10_isDigit : Cond.code yX10_isDigit cX10_isDigit 1 (some .boolean) ∈ tb := tbm (wl_in26 _ (List.mem_of_getElem? (i := 42) rfl)) rfl
theorem w_X10_isSmall : Cond.code yX10_isSmall cX10_isSmall 1 (some .boolean) ∈ tb := tbm (wl_in26 _ (List.mem_of_getElem? (i := 39) rfl)) rfl
