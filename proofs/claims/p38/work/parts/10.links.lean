theorem f_X4_25 : fl RX4 25 4 4 := ⟨_, rfl, by decide, Or.inl (tbm (wl_in3 _ (List.mem_of_getElem? (i := 43) rfl)) rfl)⟩
theorem f_X4_17 : fl RX4 17 4 2 := ⟨_, rfl, by decide, Or.inl (tbm (wl_in3 _ (List.mem_of_getElem? (i := 39) rfl)) rfl)⟩
theorem f_X4_21 : fl RX4 21 4 3 := ⟨_, rfl, by decide, Or.inl (tbm (wl_in3 _ (List.mem_of_getElem? (i := 41) rfl)) rfl)⟩
theorem p_X4_25 : pl RX4 25 4 4 .int := ⟨_, rfl, by decide, Or.inl (tbm (wl_in3 _ (List.mem_of_getElem? (i := 43) rfl)) rfl), rfl, by decide +kernel⟩
theorem f_X8_27 : fl RX8 27 8 1 := ⟨_, rfl, by decide, Or.inl (tbm (wl_in2 _ (List.mem_of_getElem? (i := 12) rfl)) rfl)⟩
theorem f_X8_9 : fl RX8 9 8 0 := ⟨_, rfl, by decide, Or.inl (tbm (wl_in2 _ (List.mem_of_getElem? (i := 10) rfl)) rfl)⟩
theorem p_X8_27 : pl RX8 27 8 1 .int := ⟨_, rfl, by decide, Or.inl (tbm (wl_in2 _ (List.mem_of_getElem? (i := 12) rfl)) rfl), rfl, by decide +kernel⟩
theorem ne_WineSpoon_Tape : "WineSpoon$Tape" ≠ "java/lang/invoke/MethodHandle" ∧ "WineSpoon$Tape" ≠ "java/lang/invoke/VarHandle" := by decide +kernel
theorem m_X8_41 : lmS RX8 41 yX8_kindOf 1 := ⟨⟨⟨ne_WineSpoon_Tape.1, ne_WineSpoon_Tape.2, pd__I_I_4⟩, tbm (wl_in0 _ (List.mem_of_getElem? (i := 5) rfl)) rfl, Or.inl (tbm (wl_in11 _ (List.mem_of_getElem? (i := 16) rfl)) rfl)⟩, tbm (wl_in11 _ (List.mem_of_getElem? (i := 17) rfl)) rfl⟩
theorem f_X8_18 : fl RX8 18 8 3 := ⟨_, rfl, by decide, Or.inl (tbm (wl_in2 _ (List.mem_of_getElem? (i := 15) rfl)) rfl)⟩
theorem f_X8_34 : fl RX8 34 8 7 := ⟨_, rfl, by decide, Or.inl (tbm (wl_in2 _ (List.mem_of_getElem? (i := 19) rfl)) rfl)⟩
theorem f_X8_15 : fl RX8 15 8 2 := ⟨_, rfl, by decide, Or.inl (tbm (wl_in2 _ (List.mem_of_getElem? (i := 14) rfl)) rfl)⟩
theorem p_X8_34 : pl RX8 34 8 7 .int := ⟨_, rfl, by decide, Or.inl (tbm (wl_in2 _ (List.mem_of_getElem? (i := 19) rfl)) rfl), rfl, by decide +kernel⟩
theorem f_X8_24 : fl RX8 24 8 5 := ⟨_, rfl, by decide, Or.inl (tbm (wl_in2 _ (List.mem_of_getElem? (i := 17) rfl)) rfl)⟩
theorem f_X8_31 : fl RX8 31 8 6 := ⟨_, rfl, by decide, Or.inl (tbm (wl_in2 _ (List.mem_of_getElem? (i := 18) rfl)) rfl)⟩
theorem f_X8_21 : fl RX8 21 8 4 := ⟨_, rfl, by decide, Or.inl (tbm (wl_in2 _ (List.mem_of_getElem? (i := 16) rfl)) rfl)⟩
theorem p_X8_31 : pl RX8 31 8 6 .int := ⟨_, rfl, by decide, Or.inl (tbm (wl_in2 _ (List.mem_of_getElem? (i := 18) rfl)) rfl), rfl, by decide +kernel⟩
theorem m_X8_52 : Cond.methodLink RX8 52 Lib.Math.min.name ∈ tb := tbm (wl_in11 _ (List.mem_of_getElem? (i := 27) rfl)) rfl
theorem ms_min : Cond.static Lib.Math.min.name ∈ tb := tbm (wl_in7 _ (List.mem_of_getElem? (i := 46) rfl)) rfl
theorem mc_min : Cond.code Lib.Math.min.name Lib.Math.min.code 2 (some .int) ∈ tb := tbm (wl_in7 _ (List.mem_of_getElem? (i := 47) rfl)) rfl
theorem pd__II_V_5 : (parseMethodDescriptor "(II)V").map (fun d => d.parameters.length) = some 2 := by decide +kernel
theorem m_X8_45 : lmV RX8 45 yX8_beginToken 2 := ⟨⟨⟨ne_WineSpoon_Tape.1, ne_WineSpoon_Tape.2, pd__II_V_5⟩, tbm (wl_in0 _ (List.mem_of_getElem? (i := 5) rfl)) rfl, Or.inl (tbm (wl_in11 _ (List.mem_of_getElem? (i := 19) rfl)) rfl)⟩, tbm (wl_in11 _ (List.mem_of_getElem? (i := 21) rfl)) rfl, tbm (List.mem_of_getElem? (i := 12) rfl) rfl⟩
theorem m_X8_37 : lmV RX8 37 yX8_isFirstOfToken 1 := ⟨⟨⟨ne_WineSpoon_Tape.1, ne_WineSpoon_Tape.2, pd__I_Z_4⟩, tbm (wl_in0 _ (List.mem_of_getElem? (i := 5) rfl)) rfl, Or.inl (tbm (wl_in11 _ (List.mem_of_getElem? (i := 12) rfl)) rfl)⟩, tbm (wl_in11 _ (List.mem_of_getElem? (i := 14) rfl)) rfl, tbm (List.mem_of_getElem? (i := 11) rfl) rfl⟩
theorem m_X8_49 : lmV RX8 49 yX8_growToken 2 := ⟨⟨⟨ne_WineSpoon_Tape.1, ne_WineSpoon_Tape.2, pd__II_V_5⟩, tbm (wl_in0 _ (List.mem_of_getElem? (i := 5) rfl)) rfl, Or.inl (tbm (wl_in11 _ (List.mem_of_getElem? (i := 23) rfl)) rfl)⟩, tbm (wl_in11 _ (List.mem_of_getElem? (i := 25) rfl)) rfl, tbm (List.mem_of_getElem? (i := 13) rfl) rfl⟩
theorem w_X8_kindOf : Cond.code yX8_kindOf cX8_kindOf 1 (some .int) ∈ tb := tbm (wl_in11 _ (List.mem_of_getElem? (i := 18) rfl)) rfl
theorem w_X8_beginToken : Cond.code yX8_beginToken cX8_beginToken 3 none ∈ tb := tbm (wl_in11 _ (List.mem_of_getElem? (i := 22) rfl)) rfl
theorem w_X8_isFirstOfToken : Cond.code yX8_isFirstOfToken cX8_isFirstOfToken 3 (some .boolean) ∈ tb := tbm (wl_in11 _ (List.mem_of_getElem? (i := 15) rfl)) rfl
theorem w_X8_growToken : Cond.code yX8_growToken cX8_growToken 3 none ∈ tb := tbm (wl_in11 _ (List.mem_of_getElem? (i := 26) rfl)) rfl
