theorem k_X10_91 : Cond.constantLong RX10 91 (Int64.ofInt 3) ∈ tb := tbm (wl_in24 _ (List.mem_of_getElem? (i := 32) rfl)) rfl
theorem ne_WineSpoonModel : "WineSpoonModel" ≠ "java/lang/invoke/MethodHandle" ∧ "WineSpoonModel" ≠ "java/lang/invoke/VarHandle" := by decide +kernel
theorem pd__JJJ_Z_6 : (parseMethodDescriptor "(JJJ)Z").map (fun d => d.parameters.length) = some 3 := by decide +kernel
theorem m_X10_83 : lmS RX10 83 yX10_in 3 := ⟨⟨⟨ne_WineSpoonModel.1, ne_WineSpoonModel.2, pd__JJJ_Z_6⟩, tbm (wl_in0 _ (List.mem_of_getElem? (i := 11) rfl)) rfl, Or.inl (tbm (wl_in23 _ (List.mem_of_getElem? (i := 44) rfl)) rfl)⟩, tbm (wl_in23 _ (List.mem_of_getElem? (i := 45) rfl)) rfl⟩
theorem k_X10_93 : Cond.constantLong RX10 93 (Int64.ofInt 60) ∈ tb := tbm (wl_in24 _ (List.mem_of_getElem? (i := 12) rfl)) rfl
theorem f_X10_13 : fl RX10 13 10 3 := ⟨_, rfl, by decide, Or.inl (tbm (wl_in21 _ (List.mem_of_getElem? (i := 7) rfl)) rfl)⟩
theorem p_X10_80 : pl RX10 80 10 1 .int := ⟨_, rfl, by decide, Or.inl (tbm (wl_in21 _ (List.mem_of_getElem? (i := 5) rfl)) rfl), rfl, by decide +kernel⟩
theorem f_X10_7 : fl RX10 7 10 2 := ⟨_, rfl, by decide, Or.inl (tbm (wl_in21 _ (List.mem_of_getElem? (i := 6) rfl)) rfl)⟩
theorem f_X10_19 : fl RX10 19 10 5 := ⟨_, rfl, by decide, Or.inl (tbm (wl_in21 _ (List.mem_of_getElem? (i := 9) rfl)) rfl)⟩
theorem m_X10_99 : lmV RX10 99 yX10_full 1 := ⟨⟨⟨ne_WineSpoonModel.1, ne_WineSpoonModel.2, pd__I_I_4⟩, tbm (wl_in0 _ (List.mem_of_getElem? (i := 11) rfl)) rfl, Or.inl (tbm (wl_in24 _ (List.mem_of_getElem? (i := 21) rfl)) rfl)⟩, tbm (wl_in24 _ (List.mem_of_getElem? (i := 23) rfl)) rfl, tbm (List.mem_of_getElem? (i := 55) rfl) rfl⟩
theorem k_X10_110 : Cond.constantLong RX10 110 (Int64.ofInt 100) ∈ tb := tbm (wl_in25 _ (List.mem_of_getElem? (i := 6) rfl)) rfl
theorem w_X10_in : Cond.code yX10_in cX10_in 6 (some .boolean) ∈ tb := tbm (wl_in23 _ (List.mem_of_getElem? (i := 46) rfl)) rfl
theorem w_X10_full : Cond.code yX10_full cX10_full 5 (some .int) ∈ tb := tbm (wl_in24 _ (List.mem_of_getElem? (i := 24) rfl)) rfl
