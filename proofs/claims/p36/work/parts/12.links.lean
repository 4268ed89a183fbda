theorem pd___I_3 : (parseMethodDescriptor "()I").map (fun d => d.parameters.length) = some 0 := by decide +kernel
theorem m_X8_58 : lmV RX8 58 yJ0_length_8abf5 0 := ⟨⟨⟨ne_java_lang_String.1, ne_java_lang_String.2, pd___I_3⟩, tbm (wl_in0 _ (List.mem_of_getElem? (i := 13) rfl)) rfl, Or.inl (tbm (wl_in11 _ (List.mem_of_getElem? (i := 41) rfl)) rfl)⟩, tbm (wl_in11 _ (List.mem_of_getElem? (i := 42) rfl)) rfl, tbm (wl_in11 _ (List.mem_of_getElem? (i := 43) rfl)) rfl⟩
theorem pd__I_C_4 : (parseMethodDescriptor "(I)C").map (fun d => d.parameters.length) = some 1 := by decide +kernel
theorem m_X8_63 : lmV RX8 63 yJ0_charAt_5068e 1 := ⟨⟨⟨ne_java_lang_String.1, ne_java_lang_String.2, pd__I_C_4⟩, tbm (wl_in0 _ (List.mem_of_getElem? (i := 13) rfl)) rfl, Or.inl (tbm (wl_in12 _ (List.mem_of_getElem? (i := 1) rfl)) rfl)⟩, tbm (wl_in12 _ (List.mem_of_getElem? (i := 2) rfl)) rfl, tbm (wl_in12 _ (List.mem_of_getElem? (i := 3) rfl)) rfl⟩
theorem f_X2_12 : fl RX2 12 2 0 := ⟨_, rfl, by decide, Or.inl (tbm (wl_in4 _ (List.mem_of_getElem? (i := 7) rfl)) rfl)⟩
theorem pd__C_Z_4 : (parseMethodDescriptor "(C)Z").map (fun d => d.parameters.length) = some 1 := by decide +kernel
theorem m_X2_50 : lmV RX2 50 yX8_takeSign 1 := ⟨⟨⟨ne_WineSpoon_Tape.1, ne_WineSpoon_Tape.2, pd__C_Z_4⟩, tbm (wl_in0 _ (List.mem_of_getElem? (i := 5) rfl)) rfl, Or.inl (tbm (wl_in13 _ (List.mem_of_getElem? (i := 9) rfl)) rfl)⟩, tbm (wl_in13 _ (List.mem_of_getElem? (i := 10) rfl)) rfl, tbm (wl_in13 _ (List.mem_of_getElem? (i := 11) rfl)) rfl⟩
theorem fi_1 : ∀ c : Nat, (fun c => c = 31) c → (fun c => 30 ≤ c ∧ c ≤ 52) c := by
  intro c z
  first | omega | (dsimp only at z ⊢; omega)
theorem pd__II_I_5 : (parseMethodDescriptor "(II)I").map (fun d => d.parameters.length) = some 2 := by decide +kernel
theorem m_X2_87 : lmV RX2 87 yX8_takeNumber 2 := ⟨⟨⟨ne_WineSpoon_Tape.1, ne_WineSpoon_Tape.2, pd__II_I_5⟩, tbm (wl_in0 _ (List.mem_of_getElem? (i := 5) rfl)) rfl, Or.inl (tbm (wl_in13 _ (List.mem_of_getElem? (i := 13) rfl)) rfl)⟩, tbm (wl_in13 _ (List.mem_of_getElem? (i := 14) rfl)) rfl, tbm (wl_in13 _ (List.mem_of_getElem? (i := 15) rfl)) rfl⟩
theorem f_X2_21 : fl RX2 21 2 1 := ⟨_, rfl, by decide, Or.inl (tbm (wl_in4 _ (List.mem_of_getElem? (i := 9) rfl)) rfl)⟩
theorem ne_WineSpoon_Script : "WineSpoon$Script" ≠ "java/lang/invoke/MethodHandle" ∧ "WineSpoon$Script" ≠ "java/lang/invoke/VarHandle" := by decide +kernel
theorem m_X2_129 : lmV RX2 129 yX4_write 2 := ⟨⟨⟨ne_WineSpoon_Script.1, ne_WineSpoon_Script.2, pd__II_I_5⟩, tbm (wl_in0 _ (List.mem_of_getElem? (i := 6) rfl)) rfl, Or.inl (tbm (wl_in13 _ (List.mem_of_getElem? (i := 17) rfl)) rfl)⟩, tbm (wl_in13 _ (List.mem_of_getElem? (i := 18) rfl)) rfl, tbm (wl_in13 _ (List.mem_of_getElem? (i := 19) rfl)) rfl⟩
theorem fi_2 : ∀ c : Nat, (fun c => 37 ≤ c ∧ c ≤ 40) c → (fun c => 30 ≤ c ∧ c ≤ 52) c := by
  intro c z
  first | omega | (dsimp only at z ⊢; omega)
theorem m_X2_143 : lmV RX2 143 yX8_isSign 1 := ⟨⟨⟨ne_WineSpoon_Tape.1, ne_WineSpoon_Tape.2, pd__C_Z_4⟩, tbm (wl_in0 _ (List.mem_of_getElem? (i := 5) rfl)) rfl, Or.inl (tbm (wl_in13 _ (List.mem_of_getElem? (i := 5) rfl)) rfl)⟩, tbm (wl_in13 _ (List.mem_of_getElem? (i := 6) rfl)) rfl, tbm (wl_in13 _ (List.mem_of_getElem? (i := 7) rfl)) rfl⟩
theorem f_X2_25 : fl RX2 25 2 2 := ⟨_, rfl, by decide, Or.inl (tbm (wl_in4 _ (List.mem_of_getElem? (i := 11) rfl)) rfl)⟩
theorem p_X2_25 : pl RX2 25 2 2 .int := ⟨_, rfl, by decide, Or.inl (tbm (wl_in4 _ (List.mem_of_getElem? (i := 11) rfl)) rfl), rfl, by decide +kernel⟩
theorem pd__Ljava_lang_String__Z_21 : (parseMethodDescriptor "(Ljava/lang/String;)Z").map (fun d => d.parameters.length) = some 1 := by decide +kernel
theorem m_X2_65 : lmV RX2 65 yX8_takeWord 1 := ⟨⟨⟨ne_WineSpoon_Tape.1, ne_WineSpoon_Tape.2, pd__Ljava_lang_String__Z_21⟩, tbm (wl_in0 _ (List.mem_of_getElem? (i := 5) rfl)) rfl, Or.inl (tbm (wl_in11 _ (List.mem_of_getElem? (i := 37) rfl)) rfl)⟩, tbm (wl_in11 _ (List.mem_of_getElem? (i := 38) rfl)) rfl, tbm (wl_in11 _ (List.mem_of_getElem? (i := 39) rfl)) rfl⟩
theorem ne_WineSpoon_Parser : "WineSpoon$Parser" ≠ "java/lang/invoke/MethodHandle" ∧ "WineSpoon$Parser" ≠ "java/lang/invoke/VarHandle" := by decide +kernel
theorem pd__II_Z_5 : (parseMethodDescriptor "(II)Z").map (fun d => d.parameters.length) = some 2 := by decide +kernel
theorem m_X2_166 : lmV RX2 166 yX2_readGlass 2 := ⟨⟨⟨ne_WineSpoon_Parser.1, ne_WineSpoon_Parser.2, pd__II_Z_5⟩, tbm (wl_in0 _ (List.mem_of_getElem? (i := 4) rfl)) rfl, Or.inl (tbm (wl_in13 _ (List.mem_of_getElem? (i := 23) rfl)) rfl)⟩, tbm (wl_in13 _ (List.mem_of_getElem? (i := 25) rfl)) rfl, tbm (List.mem_of_getElem? (i := 20) rfl) rfl⟩
theorem m_X2_97 : lmV RX2 97 yX2_readSum 1 := ⟨⟨⟨ne_WineSpoon_Parser.1, ne_WineSpoon_Parser.2, pd__I_Z_4⟩, tbm (wl_in0 _ (List.mem_of_getElem? (i := 4) rfl)) rfl, Or.inl (tbm (wl_in12 _ (List.mem_of_getElem? (i := 43) rfl)) rfl)⟩, tbm (wl_in12 _ (List.mem_of_getElem? (i := 45) rfl)) rfl, tbm (List.mem_of_getElem? (i := 17) rfl) rfl⟩
theorem m_X2_156 : lmV RX2 156 yX2_readPart 1 := ⟨⟨⟨ne_WineSpoon_Parser.1, ne_WineSpoon_Parser.2, pd__I_Z_4⟩, tbm (wl_in0 _ (List.mem_of_getElem? (i := 4) rfl)) rfl, Or.inl (tbm (wl_in13 _ (List.mem_of_getElem? (i := 1) rfl)) rfl)⟩, tbm (wl_in13 _ (List.mem_of_getElem? (i := 3) rfl)) rfl, tbm (List.mem_of_getElem? (i := 19) rfl) rfl⟩
theorem m_X2_159 : lmV RX2 159 yX2_takeTermSign 0 := ⟨⟨⟨ne_WineSpoon_Parser.1, ne_WineSpoon_Parser.2, pd___I_3⟩, tbm (wl_in0 _ (List.mem_of_getElem? (i := 4) rfl)) rfl, Or.inl (tbm (wl_in13 _ (List.mem_of_getElem? (i := 29) rfl)) rfl)⟩, tbm (wl_in13 _ (List.mem_of_getElem? (i := 31) rfl)) rfl, tbm (List.mem_of_getElem? (i := 21) rfl) rfl⟩
theorem m_X2_150 : lmV RX2 150 yX2_readTerm 1 := ⟨⟨⟨ne_WineSpoon_Parser.1, ne_WineSpoon_Parser.2, pd__I_Z_4⟩, tbm (wl_in0 _ (List.mem_of_getElem? (i := 4) rfl)) rfl, Or.inl (tbm (wl_in12 _ (List.mem_of_getElem? (i := 47) rfl)) rfl)⟩, tbm (wl_in12 _ (List.mem_of_getElem? (i := 49) rfl)) rfl, tbm (List.mem_of_getElem? (i := 18) rfl) rfl⟩
theorem m_X2_153 : lmV RX2 153 yX2_takeSumSign 0 := ⟨⟨⟨ne_WineSpoon_Parser.1, ne_WineSpoon_Parser.2, pd___I_3⟩, tbm (wl_in0 _ (List.mem_of_getElem? (i := 4) rfl)) rfl, Or.inl (tbm (wl_in13 _ (List.mem_of_getElem? (i := 33) rfl)) rfl)⟩, tbm (wl_in13 _ (List.mem_of_getElem? (i := 35) rfl)) rfl, tbm (List.mem_of_getElem? (i := 22) rfl) rfl⟩
theorem m_X2_146 : lmV RX2 146 yX2_takeComparison 0 := ⟨⟨⟨ne_WineSpoon_Parser.1, ne_WineSpoon_Parser.2, pd___I_3⟩, tbm (wl_in0 _ (List.mem_of_getElem? (i := 4) rfl)) rfl, Or.inl (tbm (wl_in14 _ (List.mem_of_getElem? (i := 22) rfl)) rfl)⟩, tbm (wl_in14 _ (List.mem_of_getElem? (i := 24) rfl)) rfl, tbm (List.mem_of_getElem? (i := 30) rfl) rfl⟩
theorem m_X2_118 : lmV RX2 118 yX2_readTest 1 := ⟨⟨⟨ne_WineSpoon_Parser.1, ne_WineSpoon_Parser.2, pd__I_Z_4⟩, tbm (wl_in0 _ (List.mem_of_getElem? (i := 4) rfl)) rfl, Or.inl (tbm (wl_in14 _ (List.mem_of_getElem? (i := 9) rfl)) rfl)⟩, tbm (wl_in14 _ (List.mem_of_getElem? (i := 11) rfl)) rfl, tbm (List.mem_of_getElem? (i := 27) rfl) rfl⟩
theorem m_X2_136 : lmV RX2 136 yX2_readPlain 1 := ⟨⟨⟨ne_WineSpoon_Parser.1, ne_WineSpoon_Parser.2, pd__I_Z_4⟩, tbm (wl_in0 _ (List.mem_of_getElem? (i := 4) rfl)) rfl, Or.inl (tbm (wl_in14 _ (List.mem_of_getElem? (i := 17) rfl)) rfl)⟩, tbm (wl_in14 _ (List.mem_of_getElem? (i := 19) rfl)) rfl, tbm (List.mem_of_getElem? (i := 29) rfl) rfl⟩
theorem m_X2_132 : lmV RX2 132 yX4_leadHere 1 := ⟨⟨⟨ne_WineSpoon_Script.1, ne_WineSpoon_Script.2, pd__I_V_4⟩, tbm (wl_in0 _ (List.mem_of_getElem? (i := 6) rfl)) rfl, Or.inl (tbm (wl_in14 _ (List.mem_of_getElem? (i := 27) rfl)) rfl)⟩, tbm (wl_in14 _ (List.mem_of_getElem? (i := 28) rfl)) rfl, tbm (wl_in14 _ (List.mem_of_getElem? (i := 29) rfl)) rfl⟩
theorem m_X2_124 : lmV RX2 124 yX2_readBoth 1 := ⟨⟨⟨ne_WineSpoon_Parser.1, ne_WineSpoon_Parser.2, pd__I_Z_4⟩, tbm (wl_in0 _ (List.mem_of_getElem? (i := 4) rfl)) rfl, Or.inl (tbm (wl_in14 _ (List.mem_of_getElem? (i := 13) rfl)) rfl)⟩, tbm (wl_in14 _ (List.mem_of_getElem? (i := 15) rfl)) rfl, tbm (List.mem_of_getElem? (i := 28) rfl) rfl⟩
theorem f_X2_29 : fl RX2 29 4 4 := ⟨_, rfl, by decide, Or.inr ⟨"WineSpoon", List.mem_of_getElem? (i := 40) rfl⟩⟩
theorem p_X2_94 : pl RX2 94 0 5 .int := ⟨_, rfl, by decide, Or.inr ⟨"WineSpoon", List.mem_of_getElem? (i := 29) rfl⟩, rfl, by decide +kernel⟩
theorem p_X2_101 : pl RX2 101 0 6 .int := ⟨_, rfl, by decide, Or.inr ⟨"WineSpoon", List.mem_of_getElem? (i := 31) rfl⟩, rfl, by decide +kernel⟩
theorem p_X2_106 : pl RX2 106 0 2 .int := ⟨_, rfl, by decide, Or.inr ⟨"WineSpoon", List.mem_of_getElem? (i := 23) rfl⟩, rfl, by decide +kernel⟩
theorem f_X2_106 : fl RX2 106 0 2 := ⟨_, rfl, by decide, Or.inr ⟨"WineSpoon", List.mem_of_getElem? (i := 23) rfl⟩⟩
theorem p_X2_110 : pl RX2 110 0 3 .int := ⟨_, rfl, by decide, Or.inr ⟨"WineSpoon", List.mem_of_getElem? (i := 25) rfl⟩, rfl, by decide +kernel⟩
theorem f_X2_110 : fl RX2 110 0 3 := ⟨_, rfl, by decide, Or.inr ⟨"WineSpoon", List.mem_of_getElem? (i := 25) rfl⟩⟩
theorem p_X2_114 : pl RX2 114 0 4 .int := ⟨_, rfl, by decide, Or.inr ⟨"WineSpoon", List.mem_of_getElem? (i := 27) rfl⟩, rfl, by decide +kernel⟩
theorem f_X2_114 : fl RX2 114 0 4 := ⟨_, rfl, by decide, Or.inr ⟨"WineSpoon", List.mem_of_getElem? (i := 27) rfl⟩⟩
theorem p_X2_121 : pl RX2 121 0 7 .int := ⟨_, rfl, by decide, Or.inr ⟨"WineSpoon", List.mem_of_getElem? (i := 33) rfl⟩, rfl, by decide +kernel⟩
theorem p_X2_69 : pl RX2 69 0 0 .int := ⟨_, rfl, by decide, Or.inr ⟨"WineSpoon", List.mem_of_getElem? (i := 18) rfl⟩, rfl, by decide +kernel⟩
theorem p_X2_91 : pl RX2 91 0 1 .int := ⟨_, rfl, by decide, Or.inr ⟨"WineSpoon", List.mem_of_getElem? (i := 20) rfl⟩, rfl, by decide +kernel⟩
theorem f_X2_91 : fl RX2 91 0 1 := ⟨_, rfl, by decide, Or.inr ⟨"WineSpoon", List.mem_of_getElem? (i := 20) rfl⟩⟩
theorem pd__LWineSpoon_Clause__Z_21 : (parseMethodDescriptor "(LWineSpoon$Clause;)Z").map (fun d => d.parameters.length) = some 1 := by decide +kernel
theorem m_X2_74 : lmV RX2 74 yX2_readAmount 1 := ⟨⟨⟨ne_WineSpoon_Parser.1, ne_WineSpoon_Parser.2, pd__LWineSpoon_Clause__Z_21⟩, tbm (wl_in0 _ (List.mem_of_getElem? (i := 4) rfl)) rfl, Or.inl (tbm (wl_in12 _ (List.mem_of_getElem? (i := 39) rfl)) rfl)⟩, tbm (wl_in12 _ (List.mem_of_getElem? (i := 41) rfl)) rfl, tbm (List.mem_of_getElem? (i := 16) rfl) rfl⟩
theorem m_X2_80 : lmV RX2 80 yX2_readTo 1 := ⟨⟨⟨ne_WineSpoon_Parser.1, ne_WineSpoon_Parser.2, pd__LWineSpoon_Clause__Z_21⟩, tbm (wl_in0 _ (List.mem_of_getElem? (i := 4) rfl)) rfl, Or.inl (tbm (wl_in13 _ (List.mem_of_getElem? (i := 42) rfl)) rfl)⟩, tbm (wl_in13 _ (List.mem_of_getElem? (i := 44) rfl)) rfl, tbm (List.mem_of_getElem? (i := 24) rfl) rfl⟩
theorem m_X2_77 : lmV RX2 77 yX2_readFrom 1 := ⟨⟨⟨ne_WineSpoon_Parser.1, ne_WineSpoon_Parser.2, pd__LWineSpoon_Clause__Z_21⟩, tbm (wl_in0 _ (List.mem_of_getElem? (i := 4) rfl)) rfl, Or.inl (tbm (wl_in13 _ (List.mem_of_getElem? (i := 37) rfl)) rfl)⟩, tbm (wl_in13 _ (List.mem_of_getElem? (i := 39) rfl)) rfl, tbm (List.mem_of_getElem? (i := 23) rfl) rfl⟩
theorem m_X2_54 : lmV RX2 54 yX2_readMove 1 := ⟨⟨⟨ne_WineSpoon_Parser.1, ne_WineSpoon_Parser.2, pd__LWineSpoon_Clause__Z_21⟩, tbm (wl_in0 _ (List.mem_of_getElem? (i := 4) rfl)) rfl, Or.inl (tbm (wl_in11 _ (List.mem_of_getElem? (i := 32) rfl)) rfl)⟩, tbm (wl_in11 _ (List.mem_of_getElem? (i := 34) rfl)) rfl, tbm (List.mem_of_getElem? (i := 15) rfl) rfl⟩
theorem m_X2_57 : lmV RX2 57 yX2_readTimes 1 := ⟨⟨⟨ne_WineSpoon_Parser.1, ne_WineSpoon_Parser.2, pd__LWineSpoon_Clause__Z_21⟩, tbm (wl_in0 _ (List.mem_of_getElem? (i := 4) rfl)) rfl, Or.inl (tbm (wl_in13 _ (List.mem_of_getElem? (i := 49) rfl)) rfl)⟩, tbm (wl_in14 _ (List.mem_of_getElem? (i := 1) rfl)) rfl, tbm (List.mem_of_getElem? (i := 25) rfl) rfl⟩
theorem m_X2_60 : lmV RX2 60 yX2_readIf 1 := ⟨⟨⟨ne_WineSpoon_Parser.1, ne_WineSpoon_Parser.2, pd__LWineSpoon_Clause__Z_21⟩, tbm (wl_in0 _ (List.mem_of_getElem? (i := 4) rfl)) rfl, Or.inl (tbm (wl_in14 _ (List.mem_of_getElem? (i := 4) rfl)) rfl)⟩, tbm (wl_in14 _ (List.mem_of_getElem? (i := 6) rfl)) rfl, tbm (List.mem_of_getElem? (i := 26) rfl) rfl⟩
theorem p_X2_35 : pl RX2 35 4 1 .int := ⟨_, rfl, by decide, Or.inr ⟨"WineSpoon", List.mem_of_getElem? (i := 37) rfl⟩, rfl, by decide +kernel⟩
theorem f_X2_38 : fl RX2 38 4 0 := ⟨_, rfl, by decide, Or.inr ⟨"WineSpoon", List.mem_of_getElem? (i := 35) rfl⟩⟩
theorem m_X2_42 : lmV RX2 42 yX2_readClause 1 := ⟨⟨⟨ne_WineSpoon_Parser.1, ne_WineSpoon_Parser.2, pd__LWineSpoon_Clause__Z_21⟩, tbm (wl_in0 _ (List.mem_of_getElem? (i := 4) rfl)) rfl, Or.inl (tbm (wl_in11 _ (List.mem_of_getElem? (i := 28) rfl)) rfl)⟩, tbm (wl_in11 _ (List.mem_of_getElem? (i := 30) rfl)) rfl, tbm (List.mem_of_getElem? (i := 14) rfl) rfl⟩
theorem m_X2_46 : lmV RX2 46 yX8_isEnd 0 := ⟨⟨⟨ne_WineSpoon_Tape.1, ne_WineSpoon_Tape.2, pd___Z_3⟩, tbm (wl_in0 _ (List.mem_of_getElem? (i := 5) rfl)) rfl, Or.inl (tbm (wl_in14 _ (List.mem_of_getElem? (i := 32) rfl)) rfl)⟩, tbm (wl_in14 _ (List.mem_of_getElem? (i := 33) rfl)) rfl, tbm (wl_in14 _ (List.mem_of_getElem? (i := 34) rfl)) rfl⟩
theorem p_X2_29 : pl RX2 29 4 4 .int := ⟨_, rfl, by decide, Or.inr ⟨"WineSpoon", List.mem_of_getElem? (i := 40) rfl⟩, rfl, by decide +kernel⟩
theorem pd___V_3 : (parseMethodDescriptor "()V").map (fun d => d.parameters.length) = some 0 := by decide +kernel
theorem m_X2_32 : lmV RX2 32 yX8_cut 0 := ⟨⟨⟨ne_WineSpoon_Tape.1, ne_WineSpoon_Tape.2, pd___V_3⟩, tbm (wl_in0 _ (List.mem_of_getElem? (i := 5) rfl)) rfl, Or.inl (tbm (wl_in11 _ (List.mem_of_getElem? (i := 8) rfl)) rfl)⟩, tbm (wl_in11 _ (List.mem_of_getElem? (i := 9) rfl)) rfl, tbm (wl_in11 _ (List.mem_of_getElem? (i := 10) rfl)) rfl⟩
theorem fi_3 : ∀ c : Nat, (fun c => 31 ≤ c ∧ c ≤ 36) c → (fun c => 30 ≤ c ∧ c ≤ 52) c := by
  intro c z
  first | omega | (dsimp only at z ⊢; omega)
theorem w_X8_takeSign : Cond.code yX8_takeSign cX8_takeSign 2 (some .boolean) ∈ tb := tbm (wl_in13 _ (List.mem_of_getElem? (i := 12) rfl)) rfl
theorem w_X8_takeNumber : Cond.code yX8_takeNumber cX8_takeNumber 3 (some .int) ∈ tb := tbm (wl_in13 _ (List.mem_of_getElem? (i := 16) rfl)) rfl
theorem w_X4_write : Cond.code yX4_write cX4_write 3 (some .int) ∈ tb := tbm (wl_in13 _ (List.mem_of_getElem? (i := 20) rfl)) rfl
theorem w_X8_isSign : Cond.code yX8_isSign cX8_isSign 2 (some .boolean) ∈ tb := tbm (wl_in13 _ (List.mem_of_getElem? (i := 8) rfl)) rfl
theorem w_X8_takeWord : Cond.code yX8_takeWord cX8_takeWord 4 (some .boolean) ∈ tb := tbm (wl_in11 _ (List.mem_of_getElem? (i := 40) rfl)) rfl
theorem w_X2_readGlass : Cond.code yX2_readGlass cX2_readGlass 4 (some .boolean) ∈ tb := tbm (wl_in13 _ (List.mem_of_getElem? (i := 26) rfl)) rfl
theorem w_X2_readSum : Cond.code yX2_readSum cX2_readSum 5 (some .boolean) ∈ tb := tbm (wl_in12 _ (List.mem_of_getElem? (i := 46) rfl)) rfl
theorem w_X2_readPart : Cond.code yX2_readPart cX2_readPart 4 (some .boolean) ∈ tb := tbm (wl_in13 _ (List.mem_of_getElem? (i := 4) rfl)) rfl
theorem w_X2_takeTermSign : Cond.code yX2_takeTermSign cX2_takeTermSign 1 (some .int) ∈ tb := tbm (wl_in13 _ (List.mem_of_getElem? (i := 32) rfl)) rfl
theorem w_X2_readTerm : Cond.code yX2_readTerm cX2_readTerm 5 (some .boolean) ∈ tb := tbm (wl_in13 _ (List.mem_of_getElem? (i := 0) rfl)) rfl
theorem w_X2_takeSumSign : Cond.code yX2_takeSumSign cX2_takeSumSign 1 (some .int) ∈ tb := tbm (wl_in13 _ (List.mem_of_getElem? (i := 36) rfl)) rfl
theorem w_X2_takeComparison : Cond.code yX2_takeComparison cX2_takeComparison 1 (some .int) ∈ tb := tbm (wl_in14 _ (List.mem_of_getElem? (i := 25) rfl)) rfl
theorem w_X2_readTest : Cond.code yX2_readTest cX2_readTest 5 (some .boolean) ∈ tb := tbm (wl_in14 _ (List.mem_of_getElem? (i := 12) rfl)) rfl
theorem w_X2_readPlain : Cond.code yX2_readPlain cX2_readPlain 5 (some .boolean) ∈ tb := tbm (wl_in14 _ (List.mem_of_getElem? (i := 20) rfl)) rfl
theorem w_X4_leadHere : Cond.code yX4_leadHere cX4_leadHere 2 none ∈ tb := tbm (wl_in14 _ (List.mem_of_getElem? (i := 30) rfl)) rfl
theorem w_X2_readBoth : Cond.code yX2_readBoth cX2_readBoth 5 (some .boolean) ∈ tb := tbm (wl_in14 _ (List.mem_of_getElem? (i := 16) rfl)) rfl
theorem w_X2_readAmount : Cond.code yX2_readAmount cX2_readAmount 3 (some .boolean) ∈ tb := tbm (wl_in12 _ (List.mem_of_getElem? (i := 42) rfl)) rfl
theorem w_X2_readTo : Cond.code yX2_readTo cX2_readTo 2 (some .boolean) ∈ tb := tbm (wl_in13 _ (List.mem_of_getElem? (i := 45) rfl)) rfl
theorem w_X2_readFrom : Cond.code yX2_readFrom cX2_readFrom 2 (some .boolean) ∈ tb := tbm (wl_in13 _ (List.mem_of_getElem? (i := 40) rfl)) rfl
theorem w_X2_readMove : Cond.code yX2_readMove cX2_readMove 2 (some .boolean) ∈ tb := tbm (wl_in11 _ (List.mem_of_getElem? (i := 35) rfl)) rfl
theorem w_X2_readTimes : Cond.code yX2_readTimes cX2_readTimes 2 (some .boolean) ∈ tb := tbm (wl_in14 _ (List.mem_of_getElem? (i := 2) rfl)) rfl
theorem w_X2_readIf : Cond.code yX2_readIf cX2_readIf 3 (some .boolean) ∈ tb := tbm (wl_in14 _ (List.mem_of_getElem? (i := 7) rfl)) rfl
theorem w_X2_readClause : Cond.code yX2_readClause cX2_readClause 2 (some .boolean) ∈ tb := tbm (wl_in11 _ (List.mem_of_getElem? (i := 31) rfl)) rfl
theorem w_X8_isEnd : Cond.code yX8_isEnd cX8_isEnd 1 (some .boolean) ∈ tb := tbm (wl_in14 _ (List.mem_of_getElem? (i := 35) rfl)) rfl
theorem w_X8_cut : Cond.code yX8_cut cX8_cut 2 none ∈ tb := tbm (wl_in11 _ (List.mem_of_getElem? (i := 11) rfl)) rfl
