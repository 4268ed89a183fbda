theorem ne_WineSpoon : "WineSpoon" ≠ "java/lang/invoke/MethodHandle" ∧ "WineSpoon" ≠ "java/lang/invoke/VarHandle" := by decide +kernel
theorem pd__III_Z_6 : (parseMethodDescriptor "(III)Z").map (fun d => d.parameters.length) = some 3 := by decide +kernel
theorem m_X9_191 : lmS RX9 191 yX9_isWithin 3 := ⟨⟨⟨ne_WineSpoon.1, ne_WineSpoon.2, pd__III_Z_6⟩, tbm (wl_in0 _ (List.mem_of_getElem? (i := 1) rfl)) rfl, Or.inl (tbm (wl_in7 _ (List.mem_of_getElem? (i := 26) rfl)) rfl)⟩, tbm (wl_in7 _ (List.mem_of_getElem? (i := 27) rfl)) rfl⟩
theorem pd__I_Z_4 : (parseMethodDescriptor "(I)Z").map (fun d => d.parameters.length) = some 1 := by decide +kernel
theorem m_X9_82 : lmS RX9 82 yX9_isAmount 1 := ⟨⟨⟨ne_WineSpoon.1, ne_WineSpoon.2, pd__I_Z_4⟩, tbm (wl_in0 _ (List.mem_of_getElem? (i := 1) rfl)) rfl, Or.inl (tbm (wl_in7 _ (List.mem_of_getElem? (i := 23) rfl)) rfl)⟩, tbm (wl_in7 _ (List.mem_of_getElem? (i := 24) rfl)) rfl⟩
theorem f_X7_29 : fl RX7 29 7 5 := ⟨_, rfl, by decide, Or.inl (tbm (wl_in0 _ (List.mem_of_getElem? (i := 44) rfl)) rfl)⟩
theorem ne_WineSpoon_Table : "WineSpoon$Table" ≠ "java/lang/invoke/MethodHandle" ∧ "WineSpoon$Table" ≠ "java/lang/invoke/VarHandle" := by decide +kernel
theorem m_X7_33 : lmV RX7 33 yX7_has 1 := ⟨⟨⟨ne_WineSpoon_Table.1, ne_WineSpoon_Table.2, pd__I_Z_4⟩, tbm (wl_in0 _ (List.mem_of_getElem? (i := 3) rfl)) rfl, Or.inl (tbm (wl_in7 _ (List.mem_of_getElem? (i := 37) rfl)) rfl)⟩, tbm (wl_in7 _ (List.mem_of_getElem? (i := 38) rfl)) rfl, tbm (wl_in7 _ (List.mem_of_getElem? (i := 39) rfl)) rfl⟩
theorem f_X7_9 : fl RX7 9 7 0 := ⟨_, rfl, by decide, Or.inl (tbm (wl_in0 _ (List.mem_of_getElem? (i := 38) rfl)) rfl)⟩
theorem f_X7_15 : fl RX7 15 7 1 := ⟨_, rfl, by decide, Or.inl (tbm (wl_in0 _ (List.mem_of_getElem? (i := 39) rfl)) rfl)⟩
theorem pd__JJ_J_5 : (parseMethodDescriptor "(JJ)J").map (fun d => d.parameters.length) = some 2 := by decide +kernel
theorem m_X9_306 : lmS RX9 306 yX9_commonDivisor 2 := ⟨⟨⟨ne_WineSpoon.1, ne_WineSpoon.2, pd__JJ_J_5⟩, tbm (wl_in0 _ (List.mem_of_getElem? (i := 1) rfl)) rfl, Or.inl (tbm (wl_in16 _ (List.mem_of_getElem? (i := 41) rfl)) rfl)⟩, tbm (wl_in9 _ (List.mem_of_getElem? (i := 35) rfl)) rfl⟩
theorem k_X9_104 : Cond.constantLong RX9 104 (Int64.ofInt (-1)) ∈ tb := tbm (wl_in8 _ (List.mem_of_getElem? (i := 21) rfl)) rfl
theorem pd__JI_J_5 : (parseMethodDescriptor "(JI)J").map (fun d => d.parameters.length) = some 2 := by decide +kernel
theorem m_X9_200 : lmS RX9 200 yX9_power 2 := ⟨⟨⟨ne_WineSpoon.1, ne_WineSpoon.2, pd__JI_J_5⟩, tbm (wl_in0 _ (List.mem_of_getElem? (i := 1) rfl)) rfl, Or.inl (tbm (wl_in16 _ (List.mem_of_getElem? (i := 35) rfl)) rfl)⟩, tbm (wl_in16 _ (List.mem_of_getElem? (i := 36) rfl)) rfl⟩
theorem pd__JJI_J_6 : (parseMethodDescriptor "(JJI)J").map (fun d => d.parameters.length) = some 3 := by decide +kernel
theorem m_X9_240 : lmS RX9 240 yX9_lowestTerm 3 := ⟨⟨⟨ne_WineSpoon.1, ne_WineSpoon.2, pd__JJI_J_6⟩, tbm (wl_in0 _ (List.mem_of_getElem? (i := 1) rfl)) rfl, Or.inl (tbm (wl_in16 _ (List.mem_of_getElem? (i := 38) rfl)) rfl)⟩, tbm (wl_in16 _ (List.mem_of_getElem? (i := 39) rfl)) rfl⟩
theorem k_X9_280 : Cond.constantLong RX9 280 (Int64.ofInt 1103) ∈ tb := tbm (wl_in20 _ (List.mem_of_getElem? (i := 10) rfl)) rfl
theorem k_X9_282 : Cond.constantLong RX9 282 (Int64.ofInt 12345) ∈ tb := tbm (wl_in20 _ (List.mem_of_getElem? (i := 11) rfl)) rfl
theorem k_X9_284 : Cond.constantLong RX9 284 (Int64.ofInt 1000003) ∈ tb := tbm (wl_in20 _ (List.mem_of_getElem? (i := 12) rfl)) rfl
theorem f_X7_18 : fl RX7 18 7 2 := ⟨_, rfl, by decide, Or.inl (tbm (wl_in0 _ (List.mem_of_getElem? (i := 40) rfl)) rfl)⟩
theorem f_X7_25 : fl RX7 25 7 4 := ⟨_, rfl, by decide, Or.inl (tbm (wl_in0 _ (List.mem_of_getElem? (i := 42) rfl)) rfl)⟩
theorem k_X7_37 : Cond.constantLong RX7 37 (Int64.ofInt 100) ∈ tb := tbm (wl_in8 _ (List.mem_of_getElem? (i := 38) rfl)) rfl
theorem pd__I_I_4 : (parseMethodDescriptor "(I)I").map (fun d => d.parameters.length) = some 1 := by decide +kernel
theorem m_X7_39 : lmV RX7 39 yX7_fullOf 1 := ⟨⟨⟨ne_WineSpoon_Table.1, ne_WineSpoon_Table.2, pd__I_I_4⟩, tbm (wl_in0 _ (List.mem_of_getElem? (i := 3) rfl)) rfl, Or.inl (tbm (wl_in9 _ (List.mem_of_getElem? (i := 4) rfl)) rfl)⟩, tbm (wl_in8 _ (List.mem_of_getElem? (i := 11) rfl)) rfl, tbm (wl_in8 _ (List.mem_of_getElem? (i := 12) rfl)) rfl⟩
theorem pd__II_J_5 : (parseMethodDescriptor "(II)J").map (fun d => d.parameters.length) = some 2 := by decide +kernel
theorem m_X7_43 : lmV RX7 43 yX7_partOf 2 := ⟨⟨⟨ne_WineSpoon_Table.1, ne_WineSpoon_Table.2, pd__II_J_5⟩, tbm (wl_in0 _ (List.mem_of_getElem? (i := 3) rfl)) rfl, Or.inl (tbm (wl_in16 _ (List.mem_of_getElem? (i := 24) rfl)) rfl)⟩, tbm (wl_in8 _ (List.mem_of_getElem? (i := 23) rfl)) rfl, tbm (wl_in8 _ (List.mem_of_getElem? (i := 24) rfl)) rfl⟩
theorem m_X7_47 : Cond.methodLink RX7 47 Lib.MathLoose.abs_long.x ∈ tb := tbm (wl_in17 _ (List.mem_of_getElem? (i := 30) rfl)) rfl
theorem ms_abs : Cond.static Lib.MathLoose.abs_long.x ∈ tb := tbm (wl_in17 _ (List.mem_of_getElem? (i := 31) rfl)) rfl
theorem mi_Math : Cond.initialized "java/lang/Math" ∈ tb := tbm (wl_in0 _ (List.mem_of_getElem? (i := 12) rfl)) rfl
theorem mc_abs : Cond.code Lib.MathLoose.abs_long.x Lib.MathLoose.abs_long.code 2 (some .long) ∈ tb := tbm (wl_in17 _ (List.mem_of_getElem? (i := 32) rfl)) rfl
theorem m_X7_57 : lmS RX7 57 yX9_isAmount 1 := ⟨⟨⟨ne_WineSpoon.1, ne_WineSpoon.2, pd__I_Z_4⟩, tbm (wl_in0 _ (List.mem_of_getElem? (i := 1) rfl)) rfl, Or.inr ⟨"WineSpoon", List.mem_of_getElem? (i := 56) rfl⟩⟩, tbm (wl_in7 _ (List.mem_of_getElem? (i := 24) rfl)) rfl⟩
theorem m_X7_63 : lmV RX7 63 yX7_sizeOf 1 := ⟨⟨⟨ne_WineSpoon_Table.1, ne_WineSpoon_Table.2, pd__I_I_4⟩, tbm (wl_in0 _ (List.mem_of_getElem? (i := 3) rfl)) rfl, Or.inl (tbm (wl_in9 _ (List.mem_of_getElem? (i := 3) rfl)) rfl)⟩, tbm (wl_in8 _ (List.mem_of_getElem? (i := 7) rfl)) rfl, tbm (wl_in8 _ (List.mem_of_getElem? (i := 8) rfl)) rfl⟩
theorem m_X7_88 : lmS RX7 88 yX9_commonDivisor 2 := ⟨⟨⟨ne_WineSpoon.1, ne_WineSpoon.2, pd__JJ_J_5⟩, tbm (wl_in0 _ (List.mem_of_getElem? (i := 1) rfl)) rfl, Or.inr ⟨"WineSpoon", List.mem_of_getElem? (i := 58) rfl⟩⟩, tbm (wl_in9 _ (List.mem_of_getElem? (i := 35) rfl)) rfl⟩
theorem f_X7_22 : fl RX7 22 7 3 := ⟨_, rfl, by decide, Or.inl (tbm (wl_in0 _ (List.mem_of_getElem? (i := 41) rfl)) rfl)⟩
theorem k_X7_78 : Cond.constantLong RX7 78 (Int64.ofInt 100000000000000) ∈ tb := tbm (wl_in9 _ (List.mem_of_getElem? (i := 29) rfl)) rfl
theorem pd___JJ_V_6 : (parseMethodDescriptor "([JJ)V").map (fun d => d.parameters.length) = some 2 := by decide +kernel
theorem m_X7_84 : lmV RX7 84 yX7_divideBy 2 := ⟨⟨⟨ne_WineSpoon_Table.1, ne_WineSpoon_Table.2, pd___JJ_V_6⟩, tbm (wl_in0 _ (List.mem_of_getElem? (i := 3) rfl)) rfl, Or.inl (tbm (wl_in9 _ (List.mem_of_getElem? (i := 37) rfl)) rfl)⟩, tbm (wl_in9 _ (List.mem_of_getElem? (i := 39) rfl)) rfl, tbm (List.mem_of_getElem? (i := 7) rfl) rfl⟩
theorem p_X7_25 : pl RX7 25 7 4 .long := ⟨_, rfl, by decide, Or.inl (tbm (wl_in0 _ (List.mem_of_getElem? (i := 42) rfl)) rfl), rfl, by decide +kernel⟩
theorem p_X7_18 : pl RX7 18 7 2 (.array .long) := ⟨_, rfl, by decide, Or.inl (tbm (wl_in0 _ (List.mem_of_getElem? (i := 40) rfl)) rfl), rfl, by decide +kernel⟩
theorem p_X7_22 : pl RX7 22 7 3 (.array .long) := ⟨_, rfl, by decide, Or.inl (tbm (wl_in0 _ (List.mem_of_getElem? (i := 41) rfl)) rfl), rfl, by decide +kernel⟩
theorem pd___JJ_J_6 : (parseMethodDescriptor "([JJ)J").map (fun d => d.parameters.length) = some 2 := by decide +kernel
theorem m_X7_80 : lmV RX7 80 yX7_divisorOf 2 := ⟨⟨⟨ne_WineSpoon_Table.1, ne_WineSpoon_Table.2, pd___JJ_J_6⟩, tbm (wl_in0 _ (List.mem_of_getElem? (i := 3) rfl)) rfl, Or.inl (tbm (wl_in9 _ (List.mem_of_getElem? (i := 30) rfl)) rfl)⟩, tbm (wl_in9 _ (List.mem_of_getElem? (i := 32) rfl)) rfl, tbm (List.mem_of_getElem? (i := 6) rfl) rfl⟩
theorem m_X7_66 : lmV RX7 66 yX7_canCarry 3 := ⟨⟨⟨ne_WineSpoon_Table.1, ne_WineSpoon_Table.2, pd__III_Z_6⟩, tbm (wl_in0 _ (List.mem_of_getElem? (i := 3) rfl)) rfl, Or.inl (tbm (wl_in9 _ (List.mem_of_getElem? (i := 17) rfl)) rfl)⟩, tbm (wl_in9 _ (List.mem_of_getElem? (i := 18) rfl)) rfl, tbm (wl_in9 _ (List.mem_of_getElem? (i := 19) rfl)) rfl⟩
theorem pd__III_V_6 : (parseMethodDescriptor "(III)V").map (fun d => d.parameters.length) = some 3 := by decide +kernel
theorem m_X7_70 : lmV RX7 70 yX7_share 3 := ⟨⟨⟨ne_WineSpoon_Table.1, ne_WineSpoon_Table.2, pd__III_V_6⟩, tbm (wl_in0 _ (List.mem_of_getElem? (i := 3) rfl)) rfl, Or.inl (tbm (wl_in9 _ (List.mem_of_getElem? (i := 21) rfl)) rfl)⟩, tbm (wl_in9 _ (List.mem_of_getElem? (i := 23) rfl)) rfl, tbm (List.mem_of_getElem? (i := 4) rfl) rfl⟩
theorem pd__J_Z_4 : (parseMethodDescriptor "(J)Z").map (fun d => d.parameters.length) = some 1 := by decide +kernel
theorem m_X7_74 : lmV RX7 74 yX7_settle 1 := ⟨⟨⟨ne_WineSpoon_Table.1, ne_WineSpoon_Table.2, pd__J_Z_4⟩, tbm (wl_in0 _ (List.mem_of_getElem? (i := 3) rfl)) rfl, Or.inl (tbm (wl_in9 _ (List.mem_of_getElem? (i := 25) rfl)) rfl)⟩, tbm (wl_in9 _ (List.mem_of_getElem? (i := 27) rfl)) rfl, tbm (List.mem_of_getElem? (i := 5) rfl) rfl⟩
theorem m_X7_60 : lmS RX7 60 yX9_isStuff 1 := ⟨⟨⟨ne_WineSpoon.1, ne_WineSpoon.2, pd__I_Z_4⟩, tbm (wl_in0 _ (List.mem_of_getElem? (i := 1) rfl)) rfl, Or.inr ⟨"WineSpoon", List.mem_of_getElem? (i := 57) rfl⟩⟩, tbm (wl_in8 _ (List.mem_of_getElem? (i := 19) rfl)) rfl⟩
theorem p_X7_29 : pl RX7 29 7 5 .int := ⟨_, rfl, by decide, Or.inl (tbm (wl_in0 _ (List.mem_of_getElem? (i := 44) rfl)) rfl), rfl, by decide +kernel⟩
theorem pd__I_V_4 : (parseMethodDescriptor "(I)V").map (fun d => d.parameters.length) = some 1 := by decide +kernel
theorem m_X7_53 : lmV RX7 53 yX7_clear 1 := ⟨⟨⟨ne_WineSpoon_Table.1, ne_WineSpoon_Table.2, pd__I_V_4⟩, tbm (wl_in0 _ (List.mem_of_getElem? (i := 3) rfl)) rfl, Or.inl (tbm (wl_in7 _ (List.mem_of_getElem? (i := 33) rfl)) rfl)⟩, tbm (wl_in7 _ (List.mem_of_getElem? (i := 34) rfl)) rfl, tbm (wl_in7 _ (List.mem_of_getElem? (i := 35) rfl)) rfl⟩
theorem m_X7_92 : Cond.methodLink RX7 92 arraycopyName ∈ tb := tbm (wl_in15 _ (List.mem_of_getElem? (i := 8) rfl)) rfl
theorem mn_copy : Cond.native arraycopyName ∈ tb := tbm (wl_in15 _ (List.mem_of_getElem? (i := 10) rfl)) rfl
theorem ms_copy : Cond.static arraycopyName ∈ tb := tbm (wl_in15 _ (List.mem_of_getElem? (i := 9) rfl)) rfl
theorem mi_Sys : Cond.initialized "java/lang/System" ∈ tb := tbm (wl_in0 _ (List.mem_of_getElem? (i := 17) rfl)) rfl
theorem w_X9_isWithin : Cond.code yX9_isWithin cX9_isWithin 3 (some .boolean) ∈ tb := tbm (wl_in7 _ (List.mem_of_getElem? (i := 28) rfl)) rfl
theorem w_X9_isAmount : Cond.code yX9_isAmount cX9_isAmount 1 (some .boolean) ∈ tb := tbm (wl_in7 _ (List.mem_of_getElem? (i := 25) rfl)) rfl
theorem w_X7_has : Cond.code yX7_has cX7_has 2 (some .boolean) ∈ tb := tbm (wl_in7 _ (List.mem_of_getElem? (i := 40) rfl)) rfl
theorem w_X9_commonDivisor : Cond.code yX9_commonDivisor cX9_commonDivisor 11 (some .long) ∈ tb := tbm (wl_in9 _ (List.mem_of_getElem? (i := 36) rfl)) rfl
theorem w_X9_power : Cond.code yX9_power cX9_power 6 (some .long) ∈ tb := tbm (wl_in16 _ (List.mem_of_getElem? (i := 37) rfl)) rfl
theorem w_X9_lowestTerm : Cond.code yX9_lowestTerm cX9_lowestTerm 7 (some .long) ∈ tb := tbm (wl_in16 _ (List.mem_of_getElem? (i := 40) rfl)) rfl
theorem w_X7_fullOf : Cond.code yX7_fullOf cX7_fullOf 2 (some .int) ∈ tb := tbm (wl_in8 _ (List.mem_of_getElem? (i := 13) rfl)) rfl
theorem w_X7_partOf : Cond.code yX7_partOf cX7_partOf 3 (some .long) ∈ tb := tbm (wl_in8 _ (List.mem_of_getElem? (i := 25) rfl)) rfl
theorem w_X7_sizeOf : Cond.code yX7_sizeOf cX7_sizeOf 2 (some .int) ∈ tb := tbm (wl_in8 _ (List.mem_of_getElem? (i := 9) rfl)) rfl
theorem w_X7_divideBy : Cond.code yX7_divideBy cX7_divideBy 5 none ∈ tb := tbm (wl_in10 _ (List.mem_of_getElem? (i := 0) rfl)) rfl
theorem w_X7_divisorOf : Cond.code yX7_divisorOf cX7_divisorOf 7 (some .long) ∈ tb := tbm (wl_in9 _ (List.mem_of_getElem? (i := 33) rfl)) rfl
theorem w_X7_canCarry : Cond.code yX7_canCarry cX7_canCarry 4 (some .boolean) ∈ tb := tbm (wl_in9 _ (List.mem_of_getElem? (i := 20) rfl)) rfl
theorem w_X7_share : Cond.code yX7_share cX7_share 7 none ∈ tb := tbm (wl_in9 _ (List.mem_of_getElem? (i := 24) rfl)) rfl
theorem w_X7_settle : Cond.code yX7_settle cX7_settle 6 (some .boolean) ∈ tb := tbm (wl_in9 _ (List.mem_of_getElem? (i := 28) rfl)) rfl
theorem w_X9_isStuff : Cond.code yX9_isStuff cX9_isStuff 1 (some .boolean) ∈ tb := tbm (wl_in8 _ (List.mem_of_getElem? (i := 20) rfl)) rfl
theorem w_X7_clear : Cond.code yX7_clear cX7_clear 3 none ∈ tb := tbm (wl_in7 _ (List.mem_of_getElem? (i := 36) rfl)) rfl
