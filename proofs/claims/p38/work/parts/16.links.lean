theorem m_X5_59 : lmS RX5 59 yX9_isWithin 3 := ⟨⟨⟨ne_WineSpoon.1, ne_WineSpoon.2, pd__III_Z_6⟩, tbm (wl_in0 _ (List.mem_of_getElem? (i := 1) rfl)) rfl, Or.inr ⟨"WineSpoon", List.mem_of_getElem? (i := 60) rfl⟩⟩, tbm (wl_in7 _ (List.mem_of_getElem? (i := 27) rfl)) rfl⟩
theorem f_X5_21 : fl RX5 21 5 2 := ⟨_, rfl, by decide, Or.inl (tbm (wl_in5 _ (List.mem_of_getElem? (i := 15) rfl)) rfl)⟩
theorem f_X5_105 : fl RX5 105 6 4 := ⟨_, rfl, by decide, Or.inr ⟨"WineSpoon", List.mem_of_getElem? (i := 10) rfl⟩⟩
theorem m_X5_108 : lmV RX5 108 yX7_tasteOf 2 := ⟨⟨⟨ne_WineSpoon_Table.1, ne_WineSpoon_Table.2, pd__II_I_5⟩, tbm (wl_in0 _ (List.mem_of_getElem? (i := 3) rfl)) rfl, Or.inl (tbm (wl_in17 _ (List.mem_of_getElem? (i := 36) rfl)) rfl)⟩, tbm (wl_in8 _ (List.mem_of_getElem? (i := 35) rfl)) rfl, tbm (wl_in8 _ (List.mem_of_getElem? (i := 36) rfl)) rfl⟩
theorem f_X5_102 : fl RX5 102 6 3 := ⟨_, rfl, by decide, Or.inr ⟨"WineSpoon", List.mem_of_getElem? (i := 8) rfl⟩⟩
theorem f_X5_42 : fl RX5 42 5 8 := ⟨_, rfl, by decide, Or.inl (tbm (wl_in5 _ (List.mem_of_getElem? (i := 21) rfl)) rfl)⟩
theorem p_X5_42 : pl RX5 42 5 8 .int := ⟨_, rfl, by decide, Or.inl (tbm (wl_in5 _ (List.mem_of_getElem? (i := 21) rfl)) rfl), rfl, by decide +kernel⟩
theorem f_X5_17 : fl RX5 17 5 1 := ⟨_, rfl, by decide, Or.inl (tbm (wl_in5 _ (List.mem_of_getElem? (i := 14) rfl)) rfl)⟩
theorem m_X5_96 : Cond.methodLink RX5 96 arraycopyName ∈ tb := tbm (wl_in17 _ (List.mem_of_getElem? (i := 37) rfl)) rfl
theorem f_X5_25 : fl RX5 25 5 3 := ⟨_, rfl, by decide, Or.inl (tbm (wl_in5 _ (List.mem_of_getElem? (i := 16) rfl)) rfl)⟩
theorem ne_WineSpoon_Search : "WineSpoon$Search" ≠ "java/lang/invoke/MethodHandle" ∧ "WineSpoon$Search" ≠ "java/lang/invoke/VarHandle" := by decide +kernel
theorem pd__LWineSpoon_State_LWineSpoon_Table__Z_37 : (parseMethodDescriptor "(LWineSpoon$State;LWineSpoon$Table;)Z").map (fun d => d.parameters.length) = some 2 := by decide +kernel
theorem m_X5_92 : lmS RX5 92 yX5_isAsTold 2 := ⟨⟨⟨ne_WineSpoon_Search.1, ne_WineSpoon_Search.2, pd__LWineSpoon_State_LWineSpoon_Table__Z_37⟩, tbm (wl_in0 _ (List.mem_of_getElem? (i := 9) rfl)) rfl, Or.inl (tbm (wl_in17 _ (List.mem_of_getElem? (i := 33) rfl)) rfl)⟩, tbm (wl_in17 _ (List.mem_of_getElem? (i := 34) rfl)) rfl⟩
theorem f_X5_29 : fl RX5 29 5 4 := ⟨_, rfl, by decide, Or.inl (tbm (wl_in5 _ (List.mem_of_getElem? (i := 17) rfl)) rfl)⟩
theorem f_X5_33 : fl RX5 33 5 5 := ⟨_, rfl, by decide, Or.inl (tbm (wl_in5 _ (List.mem_of_getElem? (i := 18) rfl)) rfl)⟩
theorem f_X5_36 : fl RX5 36 5 6 := ⟨_, rfl, by decide, Or.inl (tbm (wl_in5 _ (List.mem_of_getElem? (i := 19) rfl)) rfl)⟩
theorem f_X5_39 : fl RX5 39 5 7 := ⟨_, rfl, by decide, Or.inl (tbm (wl_in5 _ (List.mem_of_getElem? (i := 20) rfl)) rfl)⟩
theorem pd__IIII_Z_7 : (parseMethodDescriptor "(IIII)Z").map (fun d => d.parameters.length) = some 4 := by decide +kernel
theorem m_X5_88 : lmV RX5 88 yX7_isNear 4 := ⟨⟨⟨ne_WineSpoon_Table.1, ne_WineSpoon_Table.2, pd__IIII_Z_7⟩, tbm (wl_in0 _ (List.mem_of_getElem? (i := 3) rfl)) rfl, Or.inl (tbm (wl_in17 _ (List.mem_of_getElem? (i := 26) rfl)) rfl)⟩, tbm (wl_in17 _ (List.mem_of_getElem? (i := 27) rfl)) rfl, tbm (wl_in17 _ (List.mem_of_getElem? (i := 28) rfl)) rfl⟩
theorem f_X5_11 : fl RX5 11 5 0 := ⟨_, rfl, by decide, Or.inl (tbm (wl_in5 _ (List.mem_of_getElem? (i := 13) rfl)) rfl)⟩
theorem f_X5_74 : fl RX5 74 6 1 := ⟨_, rfl, by decide, Or.inr ⟨"WineSpoon", List.mem_of_getElem? (i := 4) rfl⟩⟩
theorem m_X5_77 : lmV RX5 77 yX7_canCarry 3 := ⟨⟨⟨ne_WineSpoon_Table.1, ne_WineSpoon_Table.2, pd__III_Z_6⟩, tbm (wl_in0 _ (List.mem_of_getElem? (i := 3) rfl)) rfl, Or.inl (tbm (wl_in17 _ (List.mem_of_getElem? (i := 42) rfl)) rfl)⟩, tbm (wl_in9 _ (List.mem_of_getElem? (i := 18) rfl)) rfl, tbm (wl_in9 _ (List.mem_of_getElem? (i := 19) rfl)) rfl⟩
theorem m_X5_51 : lmV RX5 51 yX7_copyFrom 1 := ⟨⟨⟨ne_WineSpoon_Table.1, ne_WineSpoon_Table.2, pd__LWineSpoon_Table__V_20⟩, tbm (wl_in0 _ (List.mem_of_getElem? (i := 3) rfl)) rfl, Or.inl (tbm (wl_in17 _ (List.mem_of_getElem? (i := 17) rfl)) rfl)⟩, tbm (wl_in15 _ (List.mem_of_getElem? (i := 5) rfl)) rfl, tbm (wl_in15 _ (List.mem_of_getElem? (i := 6) rfl)) rfl⟩
theorem m_X5_80 : lmV RX5 80 yX7_carry 3 := ⟨⟨⟨ne_WineSpoon_Table.1, ne_WineSpoon_Table.2, pd__III_I_6⟩, tbm (wl_in0 _ (List.mem_of_getElem? (i := 3) rfl)) rfl, Or.inl (tbm (wl_in17 _ (List.mem_of_getElem? (i := 43) rfl)) rfl)⟩, tbm (wl_in9 _ (List.mem_of_getElem? (i := 14) rfl)) rfl, tbm (wl_in9 _ (List.mem_of_getElem? (i := 15) rfl)) rfl⟩
theorem pd___IIIII_V_9 : (parseMethodDescriptor "([IIIII)V").map (fun d => d.parameters.length) = some 5 := by decide +kernel
theorem m_X5_84 : lmS RX5 84 yX9_putTriple 5 := ⟨⟨⟨ne_WineSpoon.1, ne_WineSpoon.2, pd___IIIII_V_9⟩, tbm (wl_in0 _ (List.mem_of_getElem? (i := 1) rfl)) rfl, Or.inr ⟨"WineSpoon", List.mem_of_getElem? (i := 59) rfl⟩⟩, tbm (wl_in17 _ (List.mem_of_getElem? (i := 45) rfl)) rfl⟩
theorem pd__LWineSpoon_State_II_V_22 : (parseMethodDescriptor "(LWineSpoon$State;II)V").map (fun d => d.parameters.length) = some 3 := by decide +kernel
theorem m_X5_55 : lmV RX5 55 yX5_walk 3 := ⟨⟨⟨ne_WineSpoon_Search.1, ne_WineSpoon_Search.2, pd__LWineSpoon_State_II_V_22⟩, tbm (wl_in0 _ (List.mem_of_getElem? (i := 9) rfl)) rfl, Or.inl (tbm (wl_in17 _ (List.mem_of_getElem? (i := 18) rfl)) rfl)⟩, tbm (wl_in17 _ (List.mem_of_getElem? (i := 20) rfl)) rfl, tbm (List.mem_of_getElem? (i := 40) rfl) rfl⟩
theorem pd__LWineSpoon_State_IIIII_V_25 : (parseMethodDescriptor "(LWineSpoon$State;IIIII)V").map (fun d => d.parameters.length) = some 6 := by decide +kernel
theorem m_X5_70 : lmV RX5 70 yX5_step 6 := ⟨⟨⟨ne_WineSpoon_Search.1, ne_WineSpoon_Search.2, pd__LWineSpoon_State_IIIII_V_25⟩, tbm (wl_in0 _ (List.mem_of_getElem? (i := 9) rfl)) rfl, Or.inl (tbm (wl_in17 _ (List.mem_of_getElem? (i := 38) rfl)) rfl)⟩, tbm (wl_in17 _ (List.mem_of_getElem? (i := 40) rfl)) rfl, tbm (List.mem_of_getElem? (i := 42) rfl) rfl⟩
theorem f_X5_67 : fl RX5 67 6 2 := ⟨_, rfl, by decide, Or.inr ⟨"WineSpoon", List.mem_of_getElem? (i := 6) rfl⟩⟩
theorem pd__LWineSpoon_State_LWineSpoon_Table__V_37 : (parseMethodDescriptor "(LWineSpoon$State;LWineSpoon$Table;)V").map (fun d => d.parameters.length) = some 2 := by decide +kernel
theorem m_X5_63 : lmV RX5 63 yX5_judge 2 := ⟨⟨⟨ne_WineSpoon_Search.1, ne_WineSpoon_Search.2, pd__LWineSpoon_State_LWineSpoon_Table__V_37⟩, tbm (wl_in0 _ (List.mem_of_getElem? (i := 9) rfl)) rfl, Or.inl (tbm (wl_in17 _ (List.mem_of_getElem? (i := 22) rfl)) rfl)⟩, tbm (wl_in17 _ (List.mem_of_getElem? (i := 24) rfl)) rfl, tbm (List.mem_of_getElem? (i := 41) rfl) rfl⟩
theorem fi_6 : ∀ c : Nat, (fun c => c = 60 ∨ c = 83) c → (fun c => 60 ≤ c ∧ c ≤ 83) c := by
  intro c z
  first | omega | (dsimp only at z ⊢; omega)
theorem p_X5_25 : pl RX5 25 5 3 .boolean := ⟨_, rfl, by decide, Or.inl (tbm (wl_in5 _ (List.mem_of_getElem? (i := 16) rfl)) rfl), rfl, by decide +kernel⟩
theorem p_X5_29 : pl RX5 29 5 4 .int := ⟨_, rfl, by decide, Or.inl (tbm (wl_in5 _ (List.mem_of_getElem? (i := 17) rfl)) rfl), rfl, by decide +kernel⟩
theorem p_X5_33 : pl RX5 33 5 5 .int := ⟨_, rfl, by decide, Or.inl (tbm (wl_in5 _ (List.mem_of_getElem? (i := 18) rfl)) rfl), rfl, by decide +kernel⟩
theorem p_X5_36 : pl RX5 36 5 6 .int := ⟨_, rfl, by decide, Or.inl (tbm (wl_in5 _ (List.mem_of_getElem? (i := 19) rfl)) rfl), rfl, by decide +kernel⟩
theorem p_X5_39 : pl RX5 39 5 7 .int := ⟨_, rfl, by decide, Or.inl (tbm (wl_in5 _ (List.mem_of_getElem? (i := 20) rfl)) rfl), rfl, by decide +kernel⟩
theorem f_X5_45 : fl RX5 45 6 0 := ⟨_, rfl, by decide, Or.inr ⟨"WineSpoon", List.mem_of_getElem? (i := 2) rfl⟩⟩
theorem f_X1_21 : fl RX1 21 1 4 := ⟨_, rfl, by decide, Or.inl (tbm (wl_in6 _ (List.mem_of_getElem? (i := 2) rfl)) rfl)⟩
theorem f_X1_24 : fl RX1 24 1 5 := ⟨_, rfl, by decide, Or.inl (tbm (wl_in6 _ (List.mem_of_getElem? (i := 3) rfl)) rfl)⟩
theorem f_X1_18 : fl RX1 18 1 3 := ⟨_, rfl, by decide, Or.inl (tbm (wl_in6 _ (List.mem_of_getElem? (i := 1) rfl)) rfl)⟩
theorem m_X1_72 : lmS RX1 72 yX9_isWithin 3 := ⟨⟨⟨ne_WineSpoon.1, ne_WineSpoon.2, pd__III_Z_6⟩, tbm (wl_in0 _ (List.mem_of_getElem? (i := 1) rfl)) rfl, Or.inr ⟨"WineSpoon", List.mem_of_getElem? (i := 61) rfl⟩⟩, tbm (wl_in7 _ (List.mem_of_getElem? (i := 27) rfl)) rfl⟩
theorem f_X1_30 : fl RX1 30 1 2 := ⟨_, rfl, by decide, Or.inl (tbm (wl_in6 _ (List.mem_of_getElem? (i := 0) rfl)) rfl)⟩
theorem f_X1_27 : fl RX1 27 1 6 := ⟨_, rfl, by decide, Or.inl (tbm (wl_in6 _ (List.mem_of_getElem? (i := 4) rfl)) rfl)⟩
theorem f_X1_53 : fl RX1 53 6 5 := ⟨_, rfl, by decide, Or.inr ⟨"WineSpoon", List.mem_of_getElem? (i := 12) rfl⟩⟩
theorem m_X1_47 : Cond.methodLink RX1 47 Lib.Math.min.name ∈ tb := tbm (wl_in19 _ (List.mem_of_getElem? (i := 12) rfl)) rfl
theorem m_X1_56 : Cond.methodLink RX1 56 Lib.Math.max.name ∈ tb := tbm (wl_in19 _ (List.mem_of_getElem? (i := 13) rfl)) rfl
theorem ms_max : Cond.static Lib.Math.max.name ∈ tb := tbm (wl_in19 _ (List.mem_of_getElem? (i := 14) rfl)) rfl
theorem mc_max : Cond.code Lib.Math.max.name Lib.Math.max.code 2 (some .int) ∈ tb := tbm (wl_in19 _ (List.mem_of_getElem? (i := 15) rfl)) rfl
theorem f_X1_42 : fl RX1 42 6 6 := ⟨_, rfl, by decide, Or.inr ⟨"WineSpoon", List.mem_of_getElem? (i := 14) rfl⟩⟩
theorem f_X1_9 : fl RX1 9 1 0 := ⟨_, rfl, by decide, Or.inl (tbm (wl_in5 _ (List.mem_of_getElem? (i := 47) rfl)) rfl)⟩
theorem ne_WineSpoon_Mixer : "WineSpoon$Mixer" ≠ "java/lang/invoke/MethodHandle" ∧ "WineSpoon$Mixer" ≠ "java/lang/invoke/VarHandle" := by decide +kernel
theorem pd__LWineSpoon_State_IIII_V_24 : (parseMethodDescriptor "(LWineSpoon$State;IIII)V").map (fun d => d.parameters.length) = some 5 := by decide +kernel
theorem m_X1_38 : lmV RX1 38 yX1_take 5 := ⟨⟨⟨ne_WineSpoon_Mixer.1, ne_WineSpoon_Mixer.2, pd__LWineSpoon_State_IIII_V_24⟩, tbm (wl_in0 _ (List.mem_of_getElem? (i := 10) rfl)) rfl, Or.inl (tbm (wl_in19 _ (List.mem_of_getElem? (i := 16) rfl)) rfl)⟩, tbm (wl_in19 _ (List.mem_of_getElem? (i := 18) rfl)) rfl, tbm (List.mem_of_getElem? (i := 47) rfl) rfl⟩
theorem m_X1_59 : lmV RX1 59 yX1_canBe 3 := ⟨⟨⟨ne_WineSpoon_Mixer.1, ne_WineSpoon_Mixer.2, pd__III_Z_6⟩, tbm (wl_in0 _ (List.mem_of_getElem? (i := 10) rfl)) rfl, Or.inl (tbm (wl_in19 _ (List.mem_of_getElem? (i := 20) rfl)) rfl)⟩, tbm (wl_in19 _ (List.mem_of_getElem? (i := 22) rfl)) rfl, tbm (List.mem_of_getElem? (i := 48) rfl) rfl⟩
theorem m_X1_63 : lmV RX1 63 yX1_canBeCheaper 3 := ⟨⟨⟨ne_WineSpoon_Mixer.1, ne_WineSpoon_Mixer.2, pd__III_Z_6⟩, tbm (wl_in0 _ (List.mem_of_getElem? (i := 10) rfl)) rfl, Or.inl (tbm (wl_in19 _ (List.mem_of_getElem? (i := 25) rfl)) rfl)⟩, tbm (wl_in19 _ (List.mem_of_getElem? (i := 27) rfl)) rfl, tbm (List.mem_of_getElem? (i := 49) rfl) rfl⟩
theorem p_X1_30 : pl RX1 30 1 2 .int := ⟨_, rfl, by decide, Or.inl (tbm (wl_in6 _ (List.mem_of_getElem? (i := 0) rfl)) rfl), rfl, by decide +kernel⟩
theorem f_X1_15 : fl RX1 15 1 1 := ⟨_, rfl, by decide, Or.inl (tbm (wl_in5 _ (List.mem_of_getElem? (i := 48) rfl)) rfl)⟩
theorem m_X1_66 : Cond.methodLink RX1 66 arraycopyName ∈ tb := tbm (wl_in19 _ (List.mem_of_getElem? (i := 29) rfl)) rfl
theorem pd__LWineSpoon_State__V_20 : (parseMethodDescriptor "(LWineSpoon$State;)V").map (fun d => d.parameters.length) = some 1 := by decide +kernel
theorem m_X1_34 : lmV RX1 34 yX1_lookBehind 1 := ⟨⟨⟨ne_WineSpoon_Mixer.1, ne_WineSpoon_Mixer.2, pd__LWineSpoon_State__V_20⟩, tbm (wl_in0 _ (List.mem_of_getElem? (i := 10) rfl)) rfl, Or.inl (tbm (wl_in19 _ (List.mem_of_getElem? (i := 8) rfl)) rfl)⟩, tbm (wl_in19 _ (List.mem_of_getElem? (i := 10) rfl)) rfl, tbm (List.mem_of_getElem? (i := 46) rfl) rfl⟩
theorem fi_7 : ∀ c : Nat, (fun c => 87 ≤ c ∧ c ≤ 90) c → (fun c => 84 ≤ c ∧ c ≤ 90) c := by
  intro c z
  first | omega | (dsimp only at z ⊢; omega)
theorem fi_8 : ∀ c : Nat, (fun c => c = 84 ∨ c = 85 ∨ c = 86) c → (fun c => 84 ≤ c ∧ c ≤ 90) c := by
  intro c z
  first | omega | (dsimp only at z ⊢; omega)
theorem w_X5_isAsTold : Cond.code yX5_isAsTold cX5_isAsTold 4 (some .boolean) ∈ tb := tbm (wl_in17 _ (List.mem_of_getElem? (i := 35) rfl)) rfl
theorem w_X7_isNear : Cond.code yX7_isNear cX7_isNear 7 (some .boolean) ∈ tb := tbm (wl_in17 _ (List.mem_of_getElem? (i := 29) rfl)) rfl
theorem w_X9_putTriple : Cond.code yX9_putTriple cX9_putTriple 5 none ∈ tb := tbm (wl_in17 _ (List.mem_of_getElem? (i := 46) rfl)) rfl
theorem w_X5_walk : Cond.code yX5_walk cX5_walk 7 none ∈ tb := tbm (wl_in17 _ (List.mem_of_getElem? (i := 21) rfl)) rfl
theorem w_X5_step : Cond.code yX5_step cX5_step 9 none ∈ tb := tbm (wl_in17 _ (List.mem_of_getElem? (i := 41) rfl)) rfl
theorem w_X5_judge : Cond.code yX5_judge cX5_judge 5 none ∈ tb := tbm (wl_in17 _ (List.mem_of_getElem? (i := 25) rfl)) rfl
theorem w_X1_take : Cond.code yX1_take cX1_take 10 none ∈ tb := tbm (wl_in19 _ (List.mem_of_getElem? (i := 19) rfl)) rfl
theorem w_X1_canBe : Cond.code yX1_canBe cX1_canBe 6 (some .boolean) ∈ tb := tbm (wl_in19 _ (List.mem_of_getElem? (i := 23) rfl)) rfl
theorem w_X1_canBeCheaper : Cond.code yX1_canBeCheaper cX1_canBeCheaper 4 (some .boolean) ∈ tb := tbm (wl_in19 _ (List.mem_of_getElem? (i := 28) rfl)) rfl
theorem w_X1_lookBehind : Cond.code yX1_lookBehind cX1_lookBehind 4 none ∈ tb := tbm (wl_in19 _ (List.mem_of_getElem? (i := 11) rfl)) rfl
