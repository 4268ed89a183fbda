theorem k_X10_91 : Cond.constantLong RX10 91 (Int64.ofInt 3) ∈ tb := tbm (List.mem_of_getElem? (i := 1287) (by decide +kernel)) (by decide +kernel)
theorem m_X10_83 : lmS RX10 83 yX10_in 3 := ⟨⟨⟨by decide +kernel, by decide +kernel, by decide +kernel⟩, tbm (List.mem_of_getElem? (i := 106) (by decide +kernel)) (by decide +kernel), Or.inl (tbm (List.mem_of_getElem? (i := 1249) (by decide +kernel)) (by decide +kernel))⟩, tbm (List.mem_of_getElem? (i := 1250) (by decide +kernel)) (by decide +kernel)⟩
theorem k_X10_93 : Cond.constantLong RX10 93 (Int64.ofInt 60) ∈ tb := tbm (List.mem_of_getElem? (i := 1267) (by decide +kernel)) (by decide +kernel)
theorem f_X10_13 : fl RX10 13 10 3 := ⟨_, rfl, by decide, Or.inl (tbm (List.mem_of_getElem? (i := 1112) (by decide +kernel)) (by decide +kernel))⟩
theorem p_X10_80 : pl RX10 80 10 1 .int := ⟨_, rfl, by decide, Or.inl (tbm (List.mem_of_getElem? (i := 1110) (by decide +kernel)) (by decide +kernel)), rfl, by decide +kernel⟩
theorem f_X10_7 : fl RX10 7 10 2 := ⟨_, rfl, by decide, Or.inl (tbm (List.mem_of_getElem? (i := 1111) (by decide +kernel)) (by decide +kernel))⟩
theorem f_X10_19 : fl RX10 19 10 5 := ⟨_, rfl, by decide, Or.inl (tbm (List.mem_of_getElem? (i := 1114) (by decide +kernel)) (by decide +kernel))⟩
theorem m_X10_99 : lmV RX10 99 yX10_full 1 := ⟨⟨⟨by decide +kernel, by decide +kernel, by decide +kernel⟩, tbm (List.mem_of_getElem? (i := 106) (by decide +kernel)) (by decide +kernel), Or.inl (tbm (List.mem_of_getElem? (i := 1276) (by decide +kernel)) (by decide +kernel))⟩, tbm (List.mem_of_getElem? (i := 1278) (by decide +kernel)) (by decide +kernel), tbm (List.mem_of_getElem? (i := 55) (by decide +kernel)) (by decide +kernel)⟩
theorem k_X10_110 : Cond.constantLong RX10 110 (Int64.ofInt 100) ∈ tb := tbm (List.mem_of_getElem? (i := 1301) (by decide +kernel)) (by decide +kernel)
theorem w_X10_in : Cond.code yX10_in cX10_in 6 (some .boolean) ∈ tb := tbm (List.mem_of_getElem? (i := 1251) (by decide +kernel)) (by decide +kernel)
theorem w_X10_full : Cond.code yX10_full cX10_full 5 (some .int) ∈ tb := tbm (List.mem_of_getElem? (i := 1279) (by decide +kernel)) (by decide +kernel)
