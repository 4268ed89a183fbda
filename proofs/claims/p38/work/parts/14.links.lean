theorem f_X6_12 : fl RX6 12 6 0 := ⟨_, rfl, by decide, Or.inl (tbm (wl_in1 _ (List.mem_of_getElem? (i := 11) rfl)) rfl)⟩
theorem pd__LWineSpoon_Table__V_20 : (parseMethodDescriptor "(LWineSpoon$Table;)V").map (fun d => d.parameters.length) = some 1 := by decide +kernel
theorem m_X6_28 : lmV RX6 28 yX7_copyFrom 1 := ⟨⟨⟨ne_WineSpoon_Table.1, ne_WineSpoon_Table.2, pd__LWineSpoon_Table__V_20⟩, tbm (wl_in0 _ (List.mem_of_getElem? (i := 3) rfl)) rfl, Or.inl (tbm (wl_in20 _ (List.mem_of_getElem? (i := 29) rfl)) rfl)⟩, tbm (wl_in15 _ (List.mem_of_getElem? (i := 5) rfl)) rfl, tbm (wl_in15 _ (List.mem_of_getElem? (i := 6) rfl)) rfl⟩
theorem f_X6_18 : fl RX6 18 6 1 := ⟨_, rfl, by decide, Or.inl (tbm (wl_in1 _ (List.mem_of_getElem? (i := 14) rfl)) rfl)⟩
theorem m_X6_32 : Cond.methodLink RX6 32 arraycopyName ∈ tb := tbm (wl_in20 _ (List.mem_of_getElem? (i := 30) rfl)) rfl
theorem f_X6_22 : fl RX6 22 6 3 := ⟨_, rfl, by decide, Or.inl (tbm (wl_in1 _ (List.mem_of_getElem? (i := 20) rfl)) rfl)⟩
theorem f_X6_25 : fl RX6 25 6 5 := ⟨_, rfl, by decide, Or.inl (tbm (wl_in1 _ (List.mem_of_getElem? (i := 26) rfl)) rfl)⟩
theorem f_X6_38 : fl RX6 38 6 2 := ⟨_, rfl, by decide, Or.inl (tbm (wl_in1 _ (List.mem_of_getElem? (i := 17) rfl)) rfl)⟩
theorem p_X6_38 : pl RX6 38 6 2 .int := ⟨_, rfl, by decide, Or.inl (tbm (wl_in1 _ (List.mem_of_getElem? (i := 17) rfl)) rfl), rfl, by decide +kernel⟩
theorem f_X6_42 : fl RX6 42 6 4 := ⟨_, rfl, by decide, Or.inl (tbm (wl_in1 _ (List.mem_of_getElem? (i := 23) rfl)) rfl)⟩
theorem p_X6_42 : pl RX6 42 6 4 .int := ⟨_, rfl, by decide, Or.inl (tbm (wl_in1 _ (List.mem_of_getElem? (i := 23) rfl)) rfl), rfl, by decide +kernel⟩
theorem f_X6_45 : fl RX6 45 6 6 := ⟨_, rfl, by decide, Or.inl (tbm (wl_in1 _ (List.mem_of_getElem? (i := 29) rfl)) rfl)⟩
theorem p_X6_45 : pl RX6 45 6 6 .int := ⟨_, rfl, by decide, Or.inl (tbm (wl_in1 _ (List.mem_of_getElem? (i := 29) rfl)) rfl), rfl, by decide +kernel⟩
theorem k_X3_142 : Cond.constantLong RX3 142 (Int64.ofInt 1000000001) ∈ tb := tbm (wl_in15 _ (List.mem_of_getElem? (i := 47) rfl)) rfl
theorem f_X3_99 : fl RX3 99 3 2 := ⟨_, rfl, by decide, Or.inl (tbm (wl_in4 _ (List.mem_of_getElem? (i := 29) rfl)) rfl)⟩
theorem k_X3_144 : Cond.constantLong RX3 144 (Int64.ofInt 1000000000) ∈ tb := tbm (wl_in15 _ (List.mem_of_getElem? (i := 35) rfl)) rfl
theorem k_X3_146 : Cond.constantLong RX3 146 (Int64.ofInt (-1000000000)) ∈ tb := tbm (wl_in15 _ (List.mem_of_getElem? (i := 36) rfl)) rfl
theorem f_X3_18 : fl RX3 18 3 1 := ⟨_, rfl, by decide, Or.inl (tbm (wl_in4 _ (List.mem_of_getElem? (i := 28) rfl)) rfl)⟩
theorem p_X3_99 : pl RX3 99 3 2 .int := ⟨_, rfl, by decide, Or.inl (tbm (wl_in4 _ (List.mem_of_getElem? (i := 29) rfl)) rfl), rfl, by decide +kernel⟩
theorem ne_WineSpoon_Runner : "WineSpoon$Runner" ≠ "java/lang/invoke/MethodHandle" ∧ "WineSpoon$Runner" ≠ "java/lang/invoke/VarHandle" := by decide +kernel
theorem m_X3_120 : lmV RX3 120 yX3_push 1 := ⟨⟨⟨ne_WineSpoon_Runner.1, ne_WineSpoon_Runner.2, pd__J_Z_4⟩, tbm (wl_in0 _ (List.mem_of_getElem? (i := 8) rfl)) rfl, Or.inl (tbm (wl_in15 _ (List.mem_of_getElem? (i := 31) rfl)) rfl)⟩, tbm (wl_in15 _ (List.mem_of_getElem? (i := 33) rfl)) rfl, tbm (List.mem_of_getElem? (i := 36) rfl) rfl⟩
theorem f_X3_12 : fl RX3 12 3 0 := ⟨_, rfl, by decide, Or.inl (tbm (wl_in4 _ (List.mem_of_getElem? (i := 27) rfl)) rfl)⟩
theorem m_X3_124 : lmV RX3 124 yX7_fullOf 1 := ⟨⟨⟨ne_WineSpoon_Table.1, ne_WineSpoon_Table.2, pd__I_I_4⟩, tbm (wl_in0 _ (List.mem_of_getElem? (i := 3) rfl)) rfl, Or.inl (tbm (wl_in15 _ (List.mem_of_getElem? (i := 37) rfl)) rfl)⟩, tbm (wl_in8 _ (List.mem_of_getElem? (i := 11) rfl)) rfl, tbm (wl_in8 _ (List.mem_of_getElem? (i := 12) rfl)) rfl⟩
theorem m_X3_128 : lmV RX3 128 yX7_sizeOf 1 := ⟨⟨⟨ne_WineSpoon_Table.1, ne_WineSpoon_Table.2, pd__I_I_4⟩, tbm (wl_in0 _ (List.mem_of_getElem? (i := 3) rfl)) rfl, Or.inl (tbm (wl_in15 _ (List.mem_of_getElem? (i := 38) rfl)) rfl)⟩, tbm (wl_in8 _ (List.mem_of_getElem? (i := 7) rfl)) rfl, tbm (wl_in8 _ (List.mem_of_getElem? (i := 8) rfl)) rfl⟩
theorem m_X3_131 : lmV RX3 131 yX7_tasteOf 2 := ⟨⟨⟨ne_WineSpoon_Table.1, ne_WineSpoon_Table.2, pd__II_I_5⟩, tbm (wl_in0 _ (List.mem_of_getElem? (i := 3) rfl)) rfl, Or.inl (tbm (wl_in15 _ (List.mem_of_getElem? (i := 39) rfl)) rfl)⟩, tbm (wl_in8 _ (List.mem_of_getElem? (i := 35) rfl)) rfl, tbm (wl_in8 _ (List.mem_of_getElem? (i := 36) rfl)) rfl⟩
theorem f_X3_26 : fl RX3 26 3 3 := ⟨_, rfl, by decide, Or.inl (tbm (wl_in4 _ (List.mem_of_getElem? (i := 30) rfl)) rfl)⟩
theorem pd___J_3 : (parseMethodDescriptor "()J").map (fun d => d.parameters.length) = some 0 := by decide +kernel
theorem m_X3_134 : lmV RX3 134 yX3_pop 0 := ⟨⟨⟨ne_WineSpoon_Runner.1, ne_WineSpoon_Runner.2, pd___J_3⟩, tbm (wl_in0 _ (List.mem_of_getElem? (i := 8) rfl)) rfl, Or.inl (tbm (wl_in15 _ (List.mem_of_getElem? (i := 40) rfl)) rfl)⟩, tbm (wl_in15 _ (List.mem_of_getElem? (i := 42) rfl)) rfl, tbm (List.mem_of_getElem? (i := 37) rfl) rfl⟩
theorem pd__IJJ_J_6 : (parseMethodDescriptor "(IJJ)J").map (fun d => d.parameters.length) = some 3 := by decide +kernel
theorem m_X3_138 : lmS RX3 138 yX3_combined 3 := ⟨⟨⟨ne_WineSpoon_Runner.1, ne_WineSpoon_Runner.2, pd__IJJ_J_6⟩, tbm (wl_in0 _ (List.mem_of_getElem? (i := 8) rfl)) rfl, Or.inl (tbm (wl_in15 _ (List.mem_of_getElem? (i := 44) rfl)) rfl)⟩, tbm (wl_in15 _ (List.mem_of_getElem? (i := 45) rfl)) rfl⟩
theorem f_X3_102 : fl RX3 102 4 4 := ⟨_, rfl, by decide, Or.inr ⟨"WineSpoon", List.mem_of_getElem? (i := 41) rfl⟩⟩
theorem f_X3_105 : fl RX3 105 4 2 := ⟨_, rfl, by decide, Or.inr ⟨"WineSpoon", List.mem_of_getElem? (i := 38) rfl⟩⟩
theorem f_X3_109 : fl RX3 109 4 3 := ⟨_, rfl, by decide, Or.inr ⟨"WineSpoon", List.mem_of_getElem? (i := 39) rfl⟩⟩
theorem m_X3_112 : lmV RX3 112 yX3_isSettled 1 := ⟨⟨⟨ne_WineSpoon_Runner.1, ne_WineSpoon_Runner.2, pd__I_Z_4⟩, tbm (wl_in0 _ (List.mem_of_getElem? (i := 8) rfl)) rfl, Or.inl (tbm (wl_in15 _ (List.mem_of_getElem? (i := 23) rfl)) rfl)⟩, tbm (wl_in15 _ (List.mem_of_getElem? (i := 25) rfl)) rfl, tbm (List.mem_of_getElem? (i := 34) rfl) rfl⟩
theorem m_X3_116 : lmV RX3 116 yX3_work 2 := ⟨⟨⟨ne_WineSpoon_Runner.1, ne_WineSpoon_Runner.2, pd__II_Z_5⟩, tbm (wl_in0 _ (List.mem_of_getElem? (i := 8) rfl)) rfl, Or.inl (tbm (wl_in15 _ (List.mem_of_getElem? (i := 27) rfl)) rfl)⟩, tbm (wl_in15 _ (List.mem_of_getElem? (i := 29) rfl)) rfl, tbm (List.mem_of_getElem? (i := 35) rfl) rfl⟩
theorem f_X3_61 : fl RX3 61 0 7 := ⟨_, rfl, by decide, Or.inr ⟨"WineSpoon", List.mem_of_getElem? (i := 32) rfl⟩⟩
theorem f_X3_64 : fl RX3 64 0 6 := ⟨_, rfl, by decide, Or.inr ⟨"WineSpoon", List.mem_of_getElem? (i := 30) rfl⟩⟩
theorem pd__LWineSpoon_Script_II_Z_23 : (parseMethodDescriptor "(LWineSpoon$Script;II)Z").map (fun d => d.parameters.length) = some 3 := by decide +kernel
theorem m_X3_67 : lmV RX3 67 yX3_works 3 := ⟨⟨⟨ne_WineSpoon_Runner.1, ne_WineSpoon_Runner.2, pd__LWineSpoon_Script_II_Z_23⟩, tbm (wl_in0 _ (List.mem_of_getElem? (i := 8) rfl)) rfl, Or.inl (tbm (wl_in15 _ (List.mem_of_getElem? (i := 19) rfl)) rfl)⟩, tbm (wl_in15 _ (List.mem_of_getElem? (i := 21) rfl)) rfl, tbm (List.mem_of_getElem? (i := 33) rfl) rfl⟩
theorem f_X3_71 : fl RX3 71 0 5 := ⟨_, rfl, by decide, Or.inr ⟨"WineSpoon", List.mem_of_getElem? (i := 28) rfl⟩⟩
theorem fi_4 : ∀ c : Nat, (fun c => c = 53 ∨ c = 59) c → (fun c => 53 ≤ c ∧ c ≤ 59) c := by
  intro c z
  first | omega | (dsimp only at z ⊢; omega)
theorem k_X3_74 : Cond.constantLong RX3 74 (Int64.ofInt 60) ∈ tb := tbm (wl_in16 _ (List.mem_of_getElem? (i := 2) rfl)) rfl
theorem f_X3_76 : fl RX3 76 0 0 := ⟨_, rfl, by decide, Or.inr ⟨"WineSpoon", List.mem_of_getElem? (i := 19) rfl⟩⟩
theorem f_X3_79 : fl RX3 79 0 2 := ⟨_, rfl, by decide, Or.inr ⟨"WineSpoon", List.mem_of_getElem? (i := 22) rfl⟩⟩
theorem f_X3_82 : fl RX3 82 0 3 := ⟨_, rfl, by decide, Or.inr ⟨"WineSpoon", List.mem_of_getElem? (i := 24) rfl⟩⟩
theorem pd__III_I_6 : (parseMethodDescriptor "(III)I").map (fun d => d.parameters.length) = some 3 := by decide +kernel
theorem m_X3_85 : lmV RX3 85 yX7_carry 3 := ⟨⟨⟨ne_WineSpoon_Table.1, ne_WineSpoon_Table.2, pd__III_I_6⟩, tbm (wl_in0 _ (List.mem_of_getElem? (i := 3) rfl)) rfl, Or.inl (tbm (wl_in16 _ (List.mem_of_getElem? (i := 3) rfl)) rfl)⟩, tbm (wl_in9 _ (List.mem_of_getElem? (i := 14) rfl)) rfl, tbm (wl_in9 _ (List.mem_of_getElem? (i := 15) rfl)) rfl⟩
theorem m_X3_89 : lmV RX3 89 yX7_takeOut 2 := ⟨⟨⟨ne_WineSpoon_Table.1, ne_WineSpoon_Table.2, pd__II_I_5⟩, tbm (wl_in0 _ (List.mem_of_getElem? (i := 3) rfl)) rfl, Or.inl (tbm (wl_in16 _ (List.mem_of_getElem? (i := 4) rfl)) rfl)⟩, tbm (wl_in10 _ (List.mem_of_getElem? (i := 14) rfl)) rfl, tbm (wl_in10 _ (List.mem_of_getElem? (i := 15) rfl)) rfl⟩
theorem f_X3_93 : fl RX3 93 0 1 := ⟨_, rfl, by decide, Or.inr ⟨"WineSpoon", List.mem_of_getElem? (i := 21) rfl⟩⟩
theorem m_X3_96 : lmV RX3 96 yX7_pour 3 := ⟨⟨⟨ne_WineSpoon_Table.1, ne_WineSpoon_Table.2, pd__III_I_6⟩, tbm (wl_in0 _ (List.mem_of_getElem? (i := 3) rfl)) rfl, Or.inl (tbm (wl_in16 _ (List.mem_of_getElem? (i := 5) rfl)) rfl)⟩, tbm (wl_in8 _ (List.mem_of_getElem? (i := 48) rfl)) rfl, tbm (wl_in8 _ (List.mem_of_getElem? (i := 49) rfl)) rfl⟩
theorem f_X3_49 : fl RX3 49 0 4 := ⟨_, rfl, by decide, Or.inr ⟨"WineSpoon", List.mem_of_getElem? (i := 26) rfl⟩⟩
theorem pd__LWineSpoon_Script_LWineSpoon_Clause__Z_39 : (parseMethodDescriptor "(LWineSpoon$Script;LWineSpoon$Clause;)Z").map (fun d => d.parameters.length) = some 2 := by decide +kernel
theorem m_X3_54 : lmV RX3 54 yX3_isSo 2 := ⟨⟨⟨ne_WineSpoon_Runner.1, ne_WineSpoon_Runner.2, pd__LWineSpoon_Script_LWineSpoon_Clause__Z_39⟩, tbm (wl_in0 _ (List.mem_of_getElem? (i := 8) rfl)) rfl, Or.inl (tbm (wl_in15 _ (List.mem_of_getElem? (i := 15) rfl)) rfl)⟩, tbm (wl_in15 _ (List.mem_of_getElem? (i := 17) rfl)) rfl, tbm (List.mem_of_getElem? (i := 32) rfl) rfl⟩
theorem pd__LWineSpoon_Script_LWineSpoon_Clause__I_39 : (parseMethodDescriptor "(LWineSpoon$Script;LWineSpoon$Clause;)I").map (fun d => d.parameters.length) = some 2 := by decide +kernel
theorem m_X3_58 : lmV RX3 58 yX3_move 2 := ⟨⟨⟨ne_WineSpoon_Runner.1, ne_WineSpoon_Runner.2, pd__LWineSpoon_Script_LWineSpoon_Clause__I_39⟩, tbm (wl_in0 _ (List.mem_of_getElem? (i := 8) rfl)) rfl, Or.inl (tbm (wl_in15 _ (List.mem_of_getElem? (i := 48) rfl)) rfl)⟩, tbm (wl_in16 _ (List.mem_of_getElem? (i := 0) rfl)) rfl, tbm (List.mem_of_getElem? (i := 38) rfl) rfl⟩
theorem p_X3_26 : pl RX3 26 3 3 .int := ⟨_, rfl, by decide, Or.inl (tbm (wl_in4 _ (List.mem_of_getElem? (i := 30) rfl)) rfl), rfl, by decide +kernel⟩
theorem f_X3_30 : fl RX3 30 3 4 := ⟨_, rfl, by decide, Or.inl (tbm (wl_in4 _ (List.mem_of_getElem? (i := 31) rfl)) rfl)⟩
theorem f_X3_33 : fl RX3 33 4 1 := ⟨_, rfl, by decide, Or.inr ⟨"WineSpoon", List.mem_of_getElem? (i := 36) rfl⟩⟩
theorem m_X3_46 : lmV RX3 46 yX7_toLowestTerms 0 := ⟨⟨⟨ne_WineSpoon_Table.1, ne_WineSpoon_Table.2, pd___V_3⟩, tbm (wl_in0 _ (List.mem_of_getElem? (i := 3) rfl)) rfl, Or.inl (tbm (wl_in16 _ (List.mem_of_getElem? (i := 6) rfl)) rfl)⟩, tbm (wl_in10 _ (List.mem_of_getElem? (i := 2) rfl)) rfl, tbm (wl_in10 _ (List.mem_of_getElem? (i := 3) rfl)) rfl⟩
theorem m_X3_22 : lmV RX3 22 yX7_copyFrom 1 := ⟨⟨⟨ne_WineSpoon_Table.1, ne_WineSpoon_Table.2, pd__LWineSpoon_Table__V_20⟩, tbm (wl_in0 _ (List.mem_of_getElem? (i := 3) rfl)) rfl, Or.inl (tbm (wl_in15 _ (List.mem_of_getElem? (i := 4) rfl)) rfl)⟩, tbm (wl_in15 _ (List.mem_of_getElem? (i := 5) rfl)) rfl, tbm (wl_in15 _ (List.mem_of_getElem? (i := 6) rfl)) rfl⟩
theorem f_X3_38 : fl RX3 38 4 0 := ⟨_, rfl, by decide, Or.inr ⟨"WineSpoon", List.mem_of_getElem? (i := 34) rfl⟩⟩
theorem m_X3_42 : lmV RX3 42 yX3_runClause 2 := ⟨⟨⟨ne_WineSpoon_Runner.1, ne_WineSpoon_Runner.2, pd__LWineSpoon_Script_LWineSpoon_Clause__I_39⟩, tbm (wl_in0 _ (List.mem_of_getElem? (i := 8) rfl)) rfl, Or.inl (tbm (wl_in15 _ (List.mem_of_getElem? (i := 11) rfl)) rfl)⟩, tbm (wl_in15 _ (List.mem_of_getElem? (i := 13) rfl)) rfl, tbm (List.mem_of_getElem? (i := 31) rfl) rfl⟩
theorem fi_5 : ∀ c : Nat, (fun c => 53 ≤ c ∧ c ≤ 59) c → (fun c => (53 ≤ c ∧ c ≤ 59) ∨ (2 ≤ c ∧ c ≤ 6)) c := by
  intro c z
  first | omega | (dsimp only at z ⊢; omega)
theorem p_X3_30 : pl RX3 30 3 4 .int := ⟨_, rfl, by decide, Or.inl (tbm (wl_in4 _ (List.mem_of_getElem? (i := 31) rfl)) rfl), rfl, by decide +kernel⟩
theorem w_X7_copyFrom : Cond.code yX7_copyFrom cX7_copyFrom 2 none ∈ tb := tbm (wl_in15 _ (List.mem_of_getElem? (i := 7) rfl)) rfl
theorem w_X3_push : Cond.code yX3_push cX3_push 3 (some .boolean) ∈ tb := tbm (wl_in15 _ (List.mem_of_getElem? (i := 34) rfl)) rfl
theorem w_X7_tasteOf : Cond.code yX7_tasteOf cX7_tasteOf 5 (some .int) ∈ tb := tbm (wl_in8 _ (List.mem_of_getElem? (i := 37) rfl)) rfl
theorem w_X3_pop : Cond.code yX3_pop cX3_pop 1 (some .long) ∈ tb := tbm (wl_in15 _ (List.mem_of_getElem? (i := 43) rfl)) rfl
theorem w_X3_combined : Cond.code yX3_combined cX3_combined 5 (some .long) ∈ tb := tbm (wl_in15 _ (List.mem_of_getElem? (i := 46) rfl)) rfl
theorem w_X3_isSettled : Cond.code yX3_isSettled cX3_isSettled 3 (some .boolean) ∈ tb := tbm (wl_in15 _ (List.mem_of_getElem? (i := 26) rfl)) rfl
theorem w_X3_work : Cond.code yX3_work cX3_work 4 (some .boolean) ∈ tb := tbm (wl_in15 _ (List.mem_of_getElem? (i := 30) rfl)) rfl
theorem w_X3_works : Cond.code yX3_works cX3_works 8 (some .boolean) ∈ tb := tbm (wl_in15 _ (List.mem_of_getElem? (i := 22) rfl)) rfl
theorem w_X7_carry : Cond.code yX7_carry cX7_carry 4 (some .int) ∈ tb := tbm (wl_in9 _ (List.mem_of_getElem? (i := 16) rfl)) rfl
theorem w_X7_takeOut : Cond.code yX7_takeOut cX7_takeOut 3 (some .int) ∈ tb := tbm (wl_in10 _ (List.mem_of_getElem? (i := 16) rfl)) rfl
theorem w_X7_pour : Cond.code yX7_pour cX7_pour 4 (some .int) ∈ tb := tbm (wl_in9 _ (List.mem_of_getElem? (i := 0) rfl)) rfl
theorem w_X3_isSo : Cond.code yX3_isSo cX3_isSo 3 (some .boolean) ∈ tb := tbm (wl_in15 _ (List.mem_of_getElem? (i := 18) rfl)) rfl
theorem w_X3_move : Cond.code yX3_move cX3_move 4 (some .int) ∈ tb := tbm (wl_in16 _ (List.mem_of_getElem? (i := 1) rfl)) rfl
theorem w_X7_toLowestTerms : Cond.code yX7_toLowestTerms cX7_toLowestTerms 3 none ∈ tb := tbm (wl_in10 _ (List.mem_of_getElem? (i := 4) rfl)) rfl
theorem w_X3_runClause : Cond.code yX3_runClause cX3_runClause 5 (some .int) ∈ tb := tbm (wl_in15 _ (List.mem_of_getElem? (i := 14) rfl)) rfl
