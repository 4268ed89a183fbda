theorem m_X9_298 : Cond.methodLink RX9 298 Lib.Math.min.name ∈ tb := tbm (wl_in7 _ (List.mem_of_getElem? (i := 45) rfl)) rfl
theorem p_X9_295 : pl RX9 295 9 10 .int := ⟨_, rfl, by decide, Or.inl (tbm (wl_in6 _ (List.mem_of_getElem? (i := 32) rfl)) rfl), rfl, by decide +kernel⟩
theorem f_X9_295 : fl RX9 295 9 10 := ⟨_, rfl, by decide, Or.inl (tbm (wl_in6 _ (List.mem_of_getElem? (i := 32) rfl)) rfl)⟩
theorem m_X9_303 : lmS RX9 303 yX9_refusalPlace 1 := ⟨⟨⟨ne_WineSpoon.1, ne_WineSpoon.2, pd__I_I_4⟩, tbm (wl_in0 _ (List.mem_of_getElem? (i := 1) rfl)) rfl, Or.inl (tbm (wl_in7 _ (List.mem_of_getElem? (i := 48) rfl)) rfl)⟩, tbm (wl_in7 _ (List.mem_of_getElem? (i := 49) rfl)) rfl⟩
theorem f_X9_64 : fl RX9 64 9 9 := ⟨_, rfl, by decide, Or.inl (tbm (wl_in6 _ (List.mem_of_getElem? (i := 31) rfl)) rfl)⟩
theorem f_X9_12 : fl RX9 12 9 0 := ⟨_, rfl, by decide, Or.inl (tbm (wl_in6 _ (List.mem_of_getElem? (i := 22) rfl)) rfl)⟩
theorem f_X9_86 : fl RX9 86 6 0 := ⟨_, rfl, by decide, Or.inr ⟨"WineSpoon", List.mem_of_getElem? (i := 3) rfl⟩⟩
theorem m_X9_89 : lmV RX9 89 yX7_add 1 := ⟨⟨⟨ne_WineSpoon_Table.1, ne_WineSpoon_Table.2, pd__I_I_4⟩, tbm (wl_in0 _ (List.mem_of_getElem? (i := 3) rfl)) rfl, Or.inl (tbm (wl_in7 _ (List.mem_of_getElem? (i := 29) rfl)) rfl)⟩, tbm (wl_in7 _ (List.mem_of_getElem? (i := 30) rfl)) rfl, tbm (wl_in7 _ (List.mem_of_getElem? (i := 31) rfl)) rfl⟩
theorem m_X9_75 : lmV RX9 75 yX9_addGlass 1 := ⟨⟨⟨ne_WineSpoon.1, ne_WineSpoon.2, pd__I_I_4⟩, tbm (wl_in0 _ (List.mem_of_getElem? (i := 1) rfl)) rfl, Or.inl (tbm (wl_in7 _ (List.mem_of_getElem? (i := 19) rfl)) rfl)⟩, tbm (wl_in7 _ (List.mem_of_getElem? (i := 21) rfl)) rfl, tbm (List.mem_of_getElem? (i := 0) rfl) rfl⟩
theorem fi_9 : ∀ c : Nat, (fun c => 2 ≤ c ∧ c ≤ 6) c → (fun c => (2 ≤ c ∧ c ≤ 6) ∨ c = 0 ∨ c = 96) c := by
  intro c z
  first | omega | (dsimp only at z ⊢; omega)
theorem m_X9_79 : lmV RX9 79 yX9_answered 1 := ⟨⟨⟨ne_WineSpoon.1, ne_WineSpoon.2, pd__I_I_4⟩, tbm (wl_in0 _ (List.mem_of_getElem? (i := 1) rfl)) rfl, Or.inl (tbm (wl_in7 _ (List.mem_of_getElem? (i := 41) rfl)) rfl)⟩, tbm (wl_in7 _ (List.mem_of_getElem? (i := 43) rfl)) rfl, tbm (List.mem_of_getElem? (i := 1) rfl) rfl⟩
theorem fi_10 : ∀ c : Nat, (fun c => c = 0 ∨ c = 96) c → (fun c => (2 ≤ c ∧ c ≤ 6) ∨ c = 0 ∨ c = 96) c := by
  intro c z
  first | omega | (dsimp only at z ⊢; omega)
theorem m_X9_101 : lmS RX9 101 yX9_isStuff 1 := ⟨⟨⟨ne_WineSpoon.1, ne_WineSpoon.2, pd__I_Z_4⟩, tbm (wl_in0 _ (List.mem_of_getElem? (i := 1) rfl)) rfl, Or.inl (tbm (wl_in8 _ (List.mem_of_getElem? (i := 18) rfl)) rfl)⟩, tbm (wl_in8 _ (List.mem_of_getElem? (i := 19) rfl)) rfl⟩
theorem m_X9_92 : lmV RX9 92 yX7_has 1 := ⟨⟨⟨ne_WineSpoon_Table.1, ne_WineSpoon_Table.2, pd__I_Z_4⟩, tbm (wl_in0 _ (List.mem_of_getElem? (i := 3) rfl)) rfl, Or.inl (tbm (wl_in8 _ (List.mem_of_getElem? (i := 5) rfl)) rfl)⟩, tbm (wl_in7 _ (List.mem_of_getElem? (i := 38) rfl)) rfl, tbm (wl_in7 _ (List.mem_of_getElem? (i := 39) rfl)) rfl⟩
theorem m_X9_122 : lmV RX9 122 yX7_pour 3 := ⟨⟨⟨ne_WineSpoon_Table.1, ne_WineSpoon_Table.2, pd__III_I_6⟩, tbm (wl_in0 _ (List.mem_of_getElem? (i := 3) rfl)) rfl, Or.inl (tbm (wl_in8 _ (List.mem_of_getElem? (i := 47) rfl)) rfl)⟩, tbm (wl_in8 _ (List.mem_of_getElem? (i := 48) rfl)) rfl, tbm (wl_in8 _ (List.mem_of_getElem? (i := 49) rfl)) rfl⟩
theorem m_X9_98 : lmV RX9 98 yX7_fullOf 1 := ⟨⟨⟨ne_WineSpoon_Table.1, ne_WineSpoon_Table.2, pd__I_I_4⟩, tbm (wl_in0 _ (List.mem_of_getElem? (i := 3) rfl)) rfl, Or.inl (tbm (wl_in8 _ (List.mem_of_getElem? (i := 10) rfl)) rfl)⟩, tbm (wl_in8 _ (List.mem_of_getElem? (i := 11) rfl)) rfl, tbm (wl_in8 _ (List.mem_of_getElem? (i := 12) rfl)) rfl⟩
theorem m_X9_118 : lmV RX9 118 yX9_fillGlass 3 := ⟨⟨⟨ne_WineSpoon.1, ne_WineSpoon.2, pd__III_I_6⟩, tbm (wl_in0 _ (List.mem_of_getElem? (i := 1) rfl)) rfl, Or.inl (tbm (wl_in8 _ (List.mem_of_getElem? (i := 43) rfl)) rfl)⟩, tbm (wl_in8 _ (List.mem_of_getElem? (i := 45) rfl)) rfl, tbm (List.mem_of_getElem? (i := 2) rfl) rfl⟩
theorem m_X9_128 : lmV RX9 128 yX7_carry 3 := ⟨⟨⟨ne_WineSpoon_Table.1, ne_WineSpoon_Table.2, pd__III_I_6⟩, tbm (wl_in0 _ (List.mem_of_getElem? (i := 3) rfl)) rfl, Or.inl (tbm (wl_in9 _ (List.mem_of_getElem? (i := 13) rfl)) rfl)⟩, tbm (wl_in9 _ (List.mem_of_getElem? (i := 14) rfl)) rfl, tbm (wl_in9 _ (List.mem_of_getElem? (i := 15) rfl)) rfl⟩
theorem m_X9_131 : lmV RX9 131 yX7_toLowestTerms 0 := ⟨⟨⟨ne_WineSpoon_Table.1, ne_WineSpoon_Table.2, pd___V_3⟩, tbm (wl_in0 _ (List.mem_of_getElem? (i := 3) rfl)) rfl, Or.inl (tbm (wl_in10 _ (List.mem_of_getElem? (i := 1) rfl)) rfl)⟩, tbm (wl_in10 _ (List.mem_of_getElem? (i := 2) rfl)) rfl, tbm (wl_in10 _ (List.mem_of_getElem? (i := 3) rfl)) rfl⟩
theorem m_X9_125 : lmV RX9 125 yX9_spoonGlass 3 := ⟨⟨⟨ne_WineSpoon.1, ne_WineSpoon.2, pd__III_I_6⟩, tbm (wl_in0 _ (List.mem_of_getElem? (i := 1) rfl)) rfl, Or.inl (tbm (wl_in9 _ (List.mem_of_getElem? (i := 9) rfl)) rfl)⟩, tbm (wl_in9 _ (List.mem_of_getElem? (i := 11) rfl)) rfl, tbm (List.mem_of_getElem? (i := 3) rfl) rfl⟩
theorem m_X9_137 : lmV RX9 137 yX7_takeOut 2 := ⟨⟨⟨ne_WineSpoon_Table.1, ne_WineSpoon_Table.2, pd__II_I_5⟩, tbm (wl_in0 _ (List.mem_of_getElem? (i := 3) rfl)) rfl, Or.inl (tbm (wl_in10 _ (List.mem_of_getElem? (i := 13) rfl)) rfl)⟩, tbm (wl_in10 _ (List.mem_of_getElem? (i := 14) rfl)) rfl, tbm (wl_in10 _ (List.mem_of_getElem? (i := 15) rfl)) rfl⟩
theorem m_X9_134 : lmV RX9 134 yX9_lickGlass 2 := ⟨⟨⟨ne_WineSpoon.1, ne_WineSpoon.2, pd__II_I_5⟩, tbm (wl_in0 _ (List.mem_of_getElem? (i := 1) rfl)) rfl, Or.inl (tbm (wl_in10 _ (List.mem_of_getElem? (i := 9) rfl)) rfl)⟩, tbm (wl_in10 _ (List.mem_of_getElem? (i := 11) rfl)) rfl, tbm (List.mem_of_getElem? (i := 8) rfl) rfl⟩
theorem m_X9_143 : lmV RX9 143 yX7_clear 1 := ⟨⟨⟨ne_WineSpoon_Table.1, ne_WineSpoon_Table.2, pd__I_V_4⟩, tbm (wl_in0 _ (List.mem_of_getElem? (i := 3) rfl)) rfl, Or.inl (tbm (wl_in10 _ (List.mem_of_getElem? (i := 25) rfl)) rfl)⟩, tbm (wl_in7 _ (List.mem_of_getElem? (i := 34) rfl)) rfl, tbm (wl_in7 _ (List.mem_of_getElem? (i := 35) rfl)) rfl⟩
theorem m_X9_140 : lmV RX9 140 yX9_emptyGlass 1 := ⟨⟨⟨ne_WineSpoon.1, ne_WineSpoon.2, pd__I_I_4⟩, tbm (wl_in0 _ (List.mem_of_getElem? (i := 1) rfl)) rfl, Or.inl (tbm (wl_in10 _ (List.mem_of_getElem? (i := 21) rfl)) rfl)⟩, tbm (wl_in10 _ (List.mem_of_getElem? (i := 23) rfl)) rfl, tbm (List.mem_of_getElem? (i := 9) rfl) rfl⟩
theorem m_X9_95 : lmV RX9 95 yX7_sizeOf 1 := ⟨⟨⟨ne_WineSpoon_Table.1, ne_WineSpoon_Table.2, pd__I_I_4⟩, tbm (wl_in0 _ (List.mem_of_getElem? (i := 3) rfl)) rfl, Or.inl (tbm (wl_in8 _ (List.mem_of_getElem? (i := 6) rfl)) rfl)⟩, tbm (wl_in8 _ (List.mem_of_getElem? (i := 7) rfl)) rfl, tbm (wl_in8 _ (List.mem_of_getElem? (i := 8) rfl)) rfl⟩
theorem m_X9_106 : lmV RX9 106 yX7_partOf 2 := ⟨⟨⟨ne_WineSpoon_Table.1, ne_WineSpoon_Table.2, pd__II_J_5⟩, tbm (wl_in0 _ (List.mem_of_getElem? (i := 3) rfl)) rfl, Or.inl (tbm (wl_in8 _ (List.mem_of_getElem? (i := 22) rfl)) rfl)⟩, tbm (wl_in8 _ (List.mem_of_getElem? (i := 23) rfl)) rfl, tbm (wl_in8 _ (List.mem_of_getElem? (i := 24) rfl)) rfl⟩
theorem f_X9_110 : fl RX9 110 7 4 := ⟨_, rfl, by decide, Or.inr ⟨"WineSpoon", List.mem_of_getElem? (i := 0) rfl⟩⟩
theorem m_X9_114 : lmV RX9 114 yX7_tasteOf 2 := ⟨⟨⟨ne_WineSpoon_Table.1, ne_WineSpoon_Table.2, pd__II_I_5⟩, tbm (wl_in0 _ (List.mem_of_getElem? (i := 3) rfl)) rfl, Or.inl (tbm (wl_in8 _ (List.mem_of_getElem? (i := 34) rfl)) rfl)⟩, tbm (wl_in8 _ (List.mem_of_getElem? (i := 35) rfl)) rfl, tbm (wl_in8 _ (List.mem_of_getElem? (i := 36) rfl)) rfl⟩
theorem m_X9_183 : lmV RX9 183 yX7_asStrong 3 := ⟨⟨⟨ne_WineSpoon_Table.1, ne_WineSpoon_Table.2, pd__III_Z_6⟩, tbm (wl_in0 _ (List.mem_of_getElem? (i := 3) rfl)) rfl, Or.inl (tbm (wl_in16 _ (List.mem_of_getElem? (i := 20) rfl)) rfl)⟩, tbm (wl_in16 _ (List.mem_of_getElem? (i := 21) rfl)) rfl, tbm (wl_in16 _ (List.mem_of_getElem? (i := 22) rfl)) rfl⟩
theorem f_X9_162 : fl RX9 162 9 11 := ⟨_, rfl, by decide, Or.inl (tbm (wl_in6 _ (List.mem_of_getElem? (i := 33) rfl)) rfl)⟩
theorem f_X9_68 : fl RX9 68 9 12 := ⟨_, rfl, by decide, Or.inl (tbm (wl_in6 _ (List.mem_of_getElem? (i := 34) rfl)) rfl)⟩
theorem f_X9_72 : fl RX9 72 9 13 := ⟨_, rfl, by decide, Or.inl (tbm (wl_in6 _ (List.mem_of_getElem? (i := 35) rfl)) rfl)⟩
theorem m_X9_187 : lmS RX9 187 yX9_isBoth 2 := ⟨⟨⟨ne_WineSpoon.1, ne_WineSpoon.2, pd__II_Z_5⟩, tbm (wl_in0 _ (List.mem_of_getElem? (i := 1) rfl)) rfl, Or.inl (tbm (wl_in16 _ (List.mem_of_getElem? (i := 29) rfl)) rfl)⟩, tbm (wl_in16 _ (List.mem_of_getElem? (i := 30) rfl)) rfl⟩
theorem pd__IIII_J_7 : (parseMethodDescriptor "(IIII)J").map (fun d => d.parameters.length) = some 4 := by decide +kernel
theorem m_X9_194 : lmS RX9 194 yX9_powerTerm 4 := ⟨⟨⟨ne_WineSpoon.1, ne_WineSpoon.2, pd__IIII_J_7⟩, tbm (wl_in0 _ (List.mem_of_getElem? (i := 1) rfl)) rfl, Or.inl (tbm (wl_in16 _ (List.mem_of_getElem? (i := 32) rfl)) rfl)⟩, tbm (wl_in16 _ (List.mem_of_getElem? (i := 33) rfl)) rfl⟩
theorem k_X9_198 : Cond.constantLong RX9 198 (Int64.ofInt 100) ∈ tb := tbm (wl_in16 _ (List.mem_of_getElem? (i := 46) rfl)) rfl
theorem m_X9_237 : lmS RX9 237 yX9_isCask 2 := ⟨⟨⟨ne_WineSpoon.1, ne_WineSpoon.2, pd__II_Z_5⟩, tbm (wl_in0 _ (List.mem_of_getElem? (i := 1) rfl)) rfl, Or.inl (tbm (wl_in18 _ (List.mem_of_getElem? (i := 23) rfl)) rfl)⟩, tbm (wl_in18 _ (List.mem_of_getElem? (i := 24) rfl)) rfl⟩
theorem m_X9_263 : lmS RX9 263 yX9_choices 2 := ⟨⟨⟨ne_WineSpoon.1, ne_WineSpoon.2, pd__II_J_5⟩, tbm (wl_in0 _ (List.mem_of_getElem? (i := 1) rfl)) rfl, Or.inl (tbm (wl_in19 _ (List.mem_of_getElem? (i := 34) rfl)) rfl)⟩, tbm (wl_in19 _ (List.mem_of_getElem? (i := 35) rfl)) rfl⟩
theorem f_X9_274 : fl RX9 274 7 5 := ⟨_, rfl, by decide, Or.inr ⟨"WineSpoon", List.mem_of_getElem? (i := 1) rfl⟩⟩
theorem f_X9_207 : fl RX9 207 6 2 := ⟨_, rfl, by decide, Or.inr ⟨"WineSpoon", List.mem_of_getElem? (i := 7) rfl⟩⟩
theorem f_X9_213 : fl RX9 213 6 4 := ⟨_, rfl, by decide, Or.inr ⟨"WineSpoon", List.mem_of_getElem? (i := 11) rfl⟩⟩
theorem f_X9_247 : fl RX9 247 6 6 := ⟨_, rfl, by decide, Or.inr ⟨"WineSpoon", List.mem_of_getElem? (i := 15) rfl⟩⟩
theorem f_X9_35 : fl RX9 35 9 4 := ⟨_, rfl, by decide, Or.inl (tbm (wl_in6 _ (List.mem_of_getElem? (i := 26) rfl)) rfl)⟩
theorem f_X9_147 : fl RX9 147 8 1 := ⟨_, rfl, by decide, Or.inr ⟨"WineSpoon", List.mem_of_getElem? (i := 17) rfl⟩⟩
theorem f_X9_210 : fl RX9 210 6 1 := ⟨_, rfl, by decide, Or.inr ⟨"WineSpoon", List.mem_of_getElem? (i := 5) rfl⟩⟩
theorem f_X9_60 : fl RX9 60 9 8 := ⟨_, rfl, by decide, Or.inl (tbm (wl_in6 _ (List.mem_of_getElem? (i := 30) rfl)) rfl)⟩
theorem m_X9_152 : lmV RX9 152 yX8_append 1 := ⟨⟨⟨ne_WineSpoon_Tape.1, ne_WineSpoon_Tape.2, pd__I_V_4⟩, tbm (wl_in0 _ (List.mem_of_getElem? (i := 5) rfl)) rfl, Or.inl (tbm (wl_in10 _ (List.mem_of_getElem? (i := 30) rfl)) rfl)⟩, tbm (wl_in10 _ (List.mem_of_getElem? (i := 31) rfl)) rfl, tbm (wl_in10 _ (List.mem_of_getElem? (i := 32) rfl)) rfl⟩
theorem p_X9_147 : pl RX9 147 8 1 .int := ⟨_, rfl, by decide, Or.inr ⟨"WineSpoon", List.mem_of_getElem? (i := 17) rfl⟩, rfl, by decide +kernel⟩
theorem p_X9_162 : pl RX9 162 9 11 .int := ⟨_, rfl, by decide, Or.inl (tbm (wl_in6 _ (List.mem_of_getElem? (i := 33) rfl)) rfl), rfl, by decide +kernel⟩
theorem f_X9_159 : fl RX9 159 8 0 := ⟨_, rfl, by decide, Or.inr ⟨"WineSpoon", List.mem_of_getElem? (i := 16) rfl⟩⟩
theorem m_X9_155 : lmV RX9 155 yX9_fillRow 0 := ⟨⟨⟨ne_WineSpoon.1, ne_WineSpoon.2, pd___I_3⟩, tbm (wl_in0 _ (List.mem_of_getElem? (i := 1) rfl)) rfl, Or.inl (tbm (wl_in10 _ (List.mem_of_getElem? (i := 42) rfl)) rfl)⟩, tbm (wl_in10 _ (List.mem_of_getElem? (i := 44) rfl)) rfl, tbm (List.mem_of_getElem? (i := 10) rfl) rfl⟩
theorem fi_11 : ∀ c : Nat, (fun c => c = 0 ∨ (2 ≤ c ∧ c ≤ 6)) c → (fun c => (2 ≤ c ∧ c ≤ 6) ∨ c = 31 ∨ c = 0 ∨ c = 96) c := by
  intro c z
  first | omega | (dsimp only at z ⊢; omega)
theorem fi_12 : ∀ c : Nat, (fun c => c = 0 ∨ c = 96) c → (fun c => (2 ≤ c ∧ c ≤ 6) ∨ c = 31 ∨ c = 0 ∨ c = 96) c := by
  intro c z
  first | omega | (dsimp only at z ⊢; omega)
theorem f_X9_27 : fl RX9 27 9 3 := ⟨_, rfl, by decide, Or.inl (tbm (wl_in6 _ (List.mem_of_getElem? (i := 25) rfl)) rfl)⟩
theorem m_X9_165 : lmV RX9 165 yX2_readText 0 := ⟨⟨⟨ne_WineSpoon_Parser.1, ne_WineSpoon_Parser.2, pd___Z_3⟩, tbm (wl_in0 _ (List.mem_of_getElem? (i := 4) rfl)) rfl, Or.inl (tbm (wl_in11 _ (List.mem_of_getElem? (i := 4) rfl)) rfl)⟩, tbm (wl_in11 _ (List.mem_of_getElem? (i := 5) rfl)) rfl, tbm (wl_in11 _ (List.mem_of_getElem? (i := 6) rfl)) rfl⟩
theorem m_X9_169 : lmV RX9 169 yX8_place 0 := ⟨⟨⟨ne_WineSpoon_Tape.1, ne_WineSpoon_Tape.2, pd___I_3⟩, tbm (wl_in0 _ (List.mem_of_getElem? (i := 5) rfl)) rfl, Or.inl (tbm (wl_in14 _ (List.mem_of_getElem? (i := 36) rfl)) rfl)⟩, tbm (wl_in14 _ (List.mem_of_getElem? (i := 37) rfl)) rfl, tbm (wl_in14 _ (List.mem_of_getElem? (i := 38) rfl)) rfl⟩
theorem p_X9_68 : pl RX9 68 9 12 .int := ⟨_, rfl, by decide, Or.inl (tbm (wl_in6 _ (List.mem_of_getElem? (i := 34) rfl)) rfl), rfl, by decide +kernel⟩
theorem p_X9_72 : pl RX9 72 9 13 .int := ⟨_, rfl, by decide, Or.inl (tbm (wl_in6 _ (List.mem_of_getElem? (i := 35) rfl)) rfl), rfl, by decide +kernel⟩
theorem f_X9_39 : fl RX9 39 9 5 := ⟨_, rfl, by decide, Or.inl (tbm (wl_in6 _ (List.mem_of_getElem? (i := 27) rfl)) rfl)⟩
theorem f_X9_172 : fl RX9 172 2 1 := ⟨_, rfl, by decide, Or.inr ⟨"WineSpoon", List.mem_of_getElem? (i := 43) rfl⟩⟩
theorem pd__LWineSpoon_Script_LWineSpoon_Table__I_38 : (parseMethodDescriptor "(LWineSpoon$Script;LWineSpoon$Table;)I").map (fun d => d.parameters.length) = some 2 := by decide +kernel
theorem m_X9_176 : lmV RX9 176 yX3_run 2 := ⟨⟨⟨ne_WineSpoon_Runner.1, ne_WineSpoon_Runner.2, pd__LWineSpoon_Script_LWineSpoon_Table__I_38⟩, tbm (wl_in0 _ (List.mem_of_getElem? (i := 8) rfl)) rfl, Or.inl (tbm (wl_in15 _ (List.mem_of_getElem? (i := 0) rfl)) rfl)⟩, tbm (wl_in15 _ (List.mem_of_getElem? (i := 1) rfl)) rfl, tbm (wl_in15 _ (List.mem_of_getElem? (i := 2) rfl)) rfl⟩
theorem fi_14 : ∀ c : Nat, (fun c => (53 ≤ c ∧ c ≤ 59) ∨ (2 ≤ c ∧ c ≤ 6)) c → (fun c => (2 ≤ c ∧ c ≤ 6) ∨ (30 ≤ c ∧ c ≤ 59) ∨ c = 0 ∨ c = 96) c := by
  intro c z
  first | omega | (dsimp only at z ⊢; omega)
theorem fi_15 : ∀ c : Nat, (fun c => c = 0 ∨ c = 96) c → (fun c => (2 ≤ c ∧ c ≤ 6) ∨ (30 ≤ c ∧ c ≤ 59) ∨ c = 0 ∨ c = 96) c := by
  intro c z
  first | omega | (dsimp only at z ⊢; omega)
theorem f_X9_180 : fl RX9 180 3 4 := ⟨_, rfl, by decide, Or.inr ⟨"WineSpoon", List.mem_of_getElem? (i := 44) rfl⟩⟩
theorem p_X9_207 : pl RX9 207 6 2 .int := ⟨_, rfl, by decide, Or.inr ⟨"WineSpoon", List.mem_of_getElem? (i := 7) rfl⟩, rfl, by decide +kernel⟩
theorem m_X9_204 : lmV RX9 204 yX9_addSpoon 1 := ⟨⟨⟨ne_WineSpoon.1, ne_WineSpoon.2, pd__I_I_4⟩, tbm (wl_in0 _ (List.mem_of_getElem? (i := 1) rfl)) rfl, Or.inl (tbm (wl_in17 _ (List.mem_of_getElem? (i := 1) rfl)) rfl)⟩, tbm (wl_in17 _ (List.mem_of_getElem? (i := 3) rfl)) rfl, tbm (List.mem_of_getElem? (i := 39) rfl) rfl⟩
theorem fi_16 : ∀ c : Nat, (fun c => c = 1 ∨ c = 7) c → (fun c => c = 1 ∨ c = 7 ∨ c = 0 ∨ c = 96) c := by
  intro c z
  first | omega | (dsimp only at z ⊢; omega)
theorem fi_17 : ∀ c : Nat, (fun c => c = 0 ∨ c = 96) c → (fun c => c = 1 ∨ c = 7 ∨ c = 0 ∨ c = 96) c := by
  intro c z
  first | omega | (dsimp only at z ⊢; omega)
theorem p_X9_213 : pl RX9 213 6 4 .int := ⟨_, rfl, by decide, Or.inr ⟨"WineSpoon", List.mem_of_getElem? (i := 11) rfl⟩, rfl, by decide +kernel⟩
theorem f_X9_46 : fl RX9 46 9 6 := ⟨_, rfl, by decide, Or.inl (tbm (wl_in6 _ (List.mem_of_getElem? (i := 28) rfl)) rfl)⟩
theorem pd__LWineSpoon_State_IIII_I_24 : (parseMethodDescriptor "(LWineSpoon$State;IIII)I").map (fun d => d.parameters.length) = some 5 := by decide +kernel
theorem m_X9_216 : lmV RX9 216 yX5_fewest 5 := ⟨⟨⟨ne_WineSpoon_Search.1, ne_WineSpoon_Search.2, pd__LWineSpoon_State_IIII_I_24⟩, tbm (wl_in0 _ (List.mem_of_getElem? (i := 9) rfl)) rfl, Or.inl (tbm (wl_in17 _ (List.mem_of_getElem? (i := 13) rfl)) rfl)⟩, tbm (wl_in17 _ (List.mem_of_getElem? (i := 14) rfl)) rfl, tbm (wl_in17 _ (List.mem_of_getElem? (i := 15) rfl)) rfl⟩
theorem fi_18 : ∀ c : Nat, (fun c => 60 ≤ c ∧ c ≤ 83) c → (fun c => (60 ≤ c ∧ c ≤ 83)) c := by
  intro c z
  first | omega | (dsimp only at z ⊢; omega)
theorem m_X9_220 : lmV RX9 220 yX5_ofFirst 3 := ⟨⟨⟨ne_WineSpoon_Search.1, ne_WineSpoon_Search.2, pd__III_I_6⟩, tbm (wl_in0 _ (List.mem_of_getElem? (i := 9) rfl)) rfl, Or.inl (tbm (wl_in17 _ (List.mem_of_getElem? (i := 47) rfl)) rfl)⟩, tbm (wl_in17 _ (List.mem_of_getElem? (i := 48) rfl)) rfl, tbm (wl_in17 _ (List.mem_of_getElem? (i := 49) rfl)) rfl⟩
theorem f_X9_226 : fl RX9 226 6 3 := ⟨_, rfl, by decide, Or.inr ⟨"WineSpoon", List.mem_of_getElem? (i := 9) rfl⟩⟩
theorem m_X9_229 : lmS RX9 229 yX9_putTriple 5 := ⟨⟨⟨ne_WineSpoon.1, ne_WineSpoon.2, pd___IIIII_V_9⟩, tbm (wl_in0 _ (List.mem_of_getElem? (i := 1) rfl)) rfl, Or.inl (tbm (wl_in18 _ (List.mem_of_getElem? (i := 10) rfl)) rfl)⟩, tbm (wl_in17 _ (List.mem_of_getElem? (i := 45) rfl)) rfl⟩
theorem m_X9_223 : lmV RX9 223 yX9_addTasting 3 := ⟨⟨⟨ne_WineSpoon.1, ne_WineSpoon.2, pd__III_I_6⟩, tbm (wl_in0 _ (List.mem_of_getElem? (i := 1) rfl)) rfl, Or.inl (tbm (wl_in18 _ (List.mem_of_getElem? (i := 6) rfl)) rfl)⟩, tbm (wl_in18 _ (List.mem_of_getElem? (i := 8) rfl)) rfl, tbm (List.mem_of_getElem? (i := 43) rfl) rfl⟩
theorem fi_19 : ∀ c : Nat, (fun c => c = 1 ∨ c = 8) c → (fun c => c = 1 ∨ c = 8 ∨ c = 0 ∨ c = 96) c := by
  intro c z
  first | omega | (dsimp only at z ⊢; omega)
theorem fi_20 : ∀ c : Nat, (fun c => c = 0 ∨ c = 96) c → (fun c => c = 1 ∨ c = 8 ∨ c = 0 ∨ c = 96) c := by
  intro c z
  first | omega | (dsimp only at z ⊢; omega)
theorem pd__LWineSpoon_State_I_I_21 : (parseMethodDescriptor "(LWineSpoon$State;I)I").map (fun d => d.parameters.length) = some 2 := by decide +kernel
theorem m_X9_233 : lmV RX9 233 yX5_fitting 2 := ⟨⟨⟨ne_WineSpoon_Search.1, ne_WineSpoon_Search.2, pd__LWineSpoon_State_I_I_21⟩, tbm (wl_in0 _ (List.mem_of_getElem? (i := 9) rfl)) rfl, Or.inl (tbm (wl_in18 _ (List.mem_of_getElem? (i := 15) rfl)) rfl)⟩, tbm (wl_in18 _ (List.mem_of_getElem? (i := 16) rfl)) rfl, tbm (wl_in18 _ (List.mem_of_getElem? (i := 17) rfl)) rfl⟩
theorem f_X9_250 : fl RX9 250 6 5 := ⟨_, rfl, by decide, Or.inr ⟨"WineSpoon", List.mem_of_getElem? (i := 13) rfl⟩⟩
theorem p_X9_247 : pl RX9 247 6 6 .int := ⟨_, rfl, by decide, Or.inr ⟨"WineSpoon", List.mem_of_getElem? (i := 15) rfl⟩, rfl, by decide +kernel⟩
theorem m_X9_244 : lmV RX9 244 yX9_addWine 3 := ⟨⟨⟨ne_WineSpoon.1, ne_WineSpoon.2, pd__III_I_6⟩, tbm (wl_in0 _ (List.mem_of_getElem? (i := 1) rfl)) rfl, Or.inl (tbm (wl_in18 _ (List.mem_of_getElem? (i := 38) rfl)) rfl)⟩, tbm (wl_in18 _ (List.mem_of_getElem? (i := 40) rfl)) rfl, tbm (List.mem_of_getElem? (i := 44) rfl) rfl⟩
theorem fi_21 : ∀ c : Nat, (fun c => c = 1 ∨ c = 9) c → (fun c => c = 1 ∨ c = 9 ∨ c = 0 ∨ c = 96) c := by
  intro c z
  first | omega | (dsimp only at z ⊢; omega)
theorem fi_22 : ∀ c : Nat, (fun c => c = 0 ∨ c = 96) c → (fun c => c = 1 ∨ c = 9 ∨ c = 0 ∨ c = 96) c := by
  intro c z
  first | omega | (dsimp only at z ⊢; omega)
theorem m_X9_253 : lmV RX9 253 yX9_removeWine 1 := ⟨⟨⟨ne_WineSpoon.1, ne_WineSpoon.2, pd__I_I_4⟩, tbm (wl_in0 _ (List.mem_of_getElem? (i := 1) rfl)) rfl, Or.inl (tbm (wl_in18 _ (List.mem_of_getElem? (i := 46) rfl)) rfl)⟩, tbm (wl_in18 _ (List.mem_of_getElem? (i := 48) rfl)) rfl, tbm (List.mem_of_getElem? (i := 45) rfl) rfl⟩
theorem f_X9_53 : fl RX9 53 9 7 := ⟨_, rfl, by decide, Or.inl (tbm (wl_in6 _ (List.mem_of_getElem? (i := 29) rfl)) rfl)⟩
theorem pd__LWineSpoon_State_II_I_22 : (parseMethodDescriptor "(LWineSpoon$State;II)I").map (fun d => d.parameters.length) = some 3 := by decide +kernel
theorem m_X9_256 : lmV RX9 256 yX1_leastPrice 3 := ⟨⟨⟨ne_WineSpoon_Mixer.1, ne_WineSpoon_Mixer.2, pd__LWineSpoon_State_II_I_22⟩, tbm (wl_in0 _ (List.mem_of_getElem? (i := 10) rfl)) rfl, Or.inl (tbm (wl_in19 _ (List.mem_of_getElem? (i := 4) rfl)) rfl)⟩, tbm (wl_in19 _ (List.mem_of_getElem? (i := 5) rfl)) rfl, tbm (wl_in19 _ (List.mem_of_getElem? (i := 6) rfl)) rfl⟩
theorem fi_23 : ∀ c : Nat, (fun c => 84 ≤ c ∧ c ≤ 90) c → (fun c => (84 ≤ c ∧ c ≤ 90)) c := by
  intro c z
  first | omega | (dsimp only at z ⊢; omega)
theorem f_X9_260 : fl RX9 260 1 1 := ⟨_, rfl, by decide, Or.inr ⟨"WineSpoon", List.mem_of_getElem? (i := 45) rfl⟩⟩
theorem m_X9_277 : lmS RX9 277 yX9_nextDraw 1 := ⟨⟨⟨ne_WineSpoon.1, ne_WineSpoon.2, pd__I_I_4⟩, tbm (wl_in0 _ (List.mem_of_getElem? (i := 1) rfl)) rfl, Or.inl (tbm (wl_in20 _ (List.mem_of_getElem? (i := 7) rfl)) rfl)⟩, tbm (wl_in20 _ (List.mem_of_getElem? (i := 8) rfl)) rfl⟩
theorem k_X9_269 : Cond.constant RX9 269 (Int32.ofInt 1000000) ∈ tb := tbm (wl_in20 _ (List.mem_of_getElem? (i := 5) rfl)) rfl
theorem m_X9_270 : lmV RX9 270 yX7_copyFrom 1 := ⟨⟨⟨ne_WineSpoon_Table.1, ne_WineSpoon_Table.2, pd__LWineSpoon_Table__V_20⟩, tbm (wl_in0 _ (List.mem_of_getElem? (i := 3) rfl)) rfl, Or.inl (tbm (wl_in20 _ (List.mem_of_getElem? (i := 6) rfl)) rfl)⟩, tbm (wl_in15 _ (List.mem_of_getElem? (i := 5) rfl)) rfl, tbm (wl_in15 _ (List.mem_of_getElem? (i := 6) rfl)) rfl⟩
theorem m_X9_266 : lmV RX9 266 yX9_passNight 2 := ⟨⟨⟨ne_WineSpoon.1, ne_WineSpoon.2, pd__II_I_5⟩, tbm (wl_in0 _ (List.mem_of_getElem? (i := 1) rfl)) rfl, Or.inl (tbm (wl_in20 _ (List.mem_of_getElem? (i := 1) rfl)) rfl)⟩, tbm (wl_in20 _ (List.mem_of_getElem? (i := 3) rfl)) rfl, tbm (List.mem_of_getElem? (i := 50) rfl) rfl⟩
theorem fi_24 : ∀ c : Nat, (fun c => 91 ≤ c ∧ c ≤ 95) c → (fun c => (91 ≤ c ∧ c ≤ 95) ∨ c = 0 ∨ c = 96) c := by
  intro c z
  first | omega | (dsimp only at z ⊢; omega)
theorem fi_25 : ∀ c : Nat, (fun c => c = 0 ∨ c = 96) c → (fun c => (91 ≤ c ∧ c ≤ 95) ∨ c = 0 ∨ c = 96) c := by
  intro c z
  first | omega | (dsimp only at z ⊢; omega)
theorem f_X9_16 : fl RX9 16 9 1 := ⟨_, rfl, by decide, Or.inl (tbm (wl_in6 _ (List.mem_of_getElem? (i := 23) rfl)) rfl)⟩
theorem ne_WineSpoon_State : "WineSpoon$State" ≠ "java/lang/invoke/MethodHandle" ∧ "WineSpoon$State" ≠ "java/lang/invoke/VarHandle" := by decide +kernel
theorem m_X9_289 : lmV RX9 289 yX6_copyFrom 1 := ⟨⟨⟨ne_WineSpoon_State.1, ne_WineSpoon_State.2, pd__LWineSpoon_State__V_20⟩, tbm (wl_in0 _ (List.mem_of_getElem? (i := 2) rfl)) rfl, Or.inl (tbm (wl_in20 _ (List.mem_of_getElem? (i := 25) rfl)) rfl)⟩, tbm (wl_in20 _ (List.mem_of_getElem? (i := 26) rfl)) rfl, tbm (wl_in20 _ (List.mem_of_getElem? (i := 27) rfl)) rfl⟩
theorem f_X9_20 : fl RX9 20 9 2 := ⟨_, rfl, by decide, Or.inl (tbm (wl_in6 _ (List.mem_of_getElem? (i := 24) rfl)) rfl)⟩
theorem m_X9_286 : lmV RX9 286 yX9_keepImage 1 := ⟨⟨⟨ne_WineSpoon.1, ne_WineSpoon.2, pd__I_I_4⟩, tbm (wl_in0 _ (List.mem_of_getElem? (i := 1) rfl)) rfl, Or.inl (tbm (wl_in20 _ (List.mem_of_getElem? (i := 21) rfl)) rfl)⟩, tbm (wl_in20 _ (List.mem_of_getElem? (i := 23) rfl)) rfl, tbm (List.mem_of_getElem? (i := 51) rfl) rfl⟩
theorem fi_26 : ∀ c : Nat, (fun c => (10 ≤ c ∧ c ≤ 27) ∨ c = 29) c → (fun c => (10 ≤ c ∧ c ≤ 27) ∨ c = 29 ∨ c = 0 ∨ c = 96) c := by
  intro c z
  first | omega | (dsimp only at z ⊢; omega)
theorem fi_27 : ∀ c : Nat, (fun c => c = 0 ∨ c = 96) c → (fun c => (10 ≤ c ∧ c ≤ 27) ∨ c = 29 ∨ c = 0 ∨ c = 96) c := by
  intro c z
  first | omega | (dsimp only at z ⊢; omega)
theorem m_X9_292 : lmV RX9 292 yX9_goBack 1 := ⟨⟨⟨ne_WineSpoon.1, ne_WineSpoon.2, pd__I_I_4⟩, tbm (wl_in0 _ (List.mem_of_getElem? (i := 1) rfl)) rfl, Or.inl (tbm (wl_in20 _ (List.mem_of_getElem? (i := 35) rfl)) rfl)⟩, tbm (wl_in20 _ (List.mem_of_getElem? (i := 37) rfl)) rfl, tbm (List.mem_of_getElem? (i := 52) rfl) rfl⟩
theorem w_X9_refusalPlace : Cond.code yX9_refusalPlace cX9_refusalPlace 1 (some .int) ∈ tb := tbm (wl_in8 _ (List.mem_of_getElem? (i := 0) rfl)) rfl
theorem w_X7_add : Cond.code yX7_add cX7_add 2 (some .int) ∈ tb := tbm (wl_in7 _ (List.mem_of_getElem? (i := 32) rfl)) rfl
theorem w_X9_addGlass : Cond.code yX9_addGlass cX9_addGlass 2 (some .int) ∈ tb := tbm (wl_in7 _ (List.mem_of_getElem? (i := 22) rfl)) rfl
theorem w_X9_answered : Cond.code yX9_answered cX9_answered 3 (some .int) ∈ tb := tbm (wl_in7 _ (List.mem_of_getElem? (i := 44) rfl)) rfl
theorem w_X9_fillGlass : Cond.code yX9_fillGlass cX9_fillGlass 5 (some .int) ∈ tb := tbm (wl_in8 _ (List.mem_of_getElem? (i := 46) rfl)) rfl
theorem w_X9_spoonGlass : Cond.code yX9_spoonGlass cX9_spoonGlass 5 (some .int) ∈ tb := tbm (wl_in9 _ (List.mem_of_getElem? (i := 12) rfl)) rfl
theorem w_X9_lickGlass : Cond.code yX9_lickGlass cX9_lickGlass 4 (some .int) ∈ tb := tbm (wl_in10 _ (List.mem_of_getElem? (i := 12) rfl)) rfl
theorem w_X9_emptyGlass : Cond.code yX9_emptyGlass cX9_emptyGlass 3 (some .int) ∈ tb := tbm (wl_in10 _ (List.mem_of_getElem? (i := 24) rfl)) rfl
theorem w_X7_asStrong : Cond.code yX7_asStrong cX7_asStrong 4 (some .boolean) ∈ tb := tbm (wl_in16 _ (List.mem_of_getElem? (i := 23) rfl)) rfl
theorem w_X9_isBoth : Cond.code yX9_isBoth cX9_isBoth 2 (some .boolean) ∈ tb := tbm (wl_in16 _ (List.mem_of_getElem? (i := 31) rfl)) rfl
theorem w_X9_powerTerm : Cond.code yX9_powerTerm cX9_powerTerm 4 (some .long) ∈ tb := tbm (wl_in16 _ (List.mem_of_getElem? (i := 34) rfl)) rfl
theorem w_X9_isCask : Cond.code yX9_isCask cX9_isCask 2 (some .boolean) ∈ tb := tbm (wl_in18 _ (List.mem_of_getElem? (i := 25) rfl)) rfl
theorem w_X9_choices : Cond.code yX9_choices cX9_choices 5 (some .long) ∈ tb := tbm (wl_in19 _ (List.mem_of_getElem? (i := 36) rfl)) rfl
theorem w_X8_append : Cond.code yX8_append cX8_append 3 none ∈ tb := tbm (wl_in10 _ (List.mem_of_getElem? (i := 33) rfl)) rfl
theorem w_X9_fillRow : Cond.code yX9_fillRow cX9_fillRow 3 (some .int) ∈ tb := tbm (wl_in10 _ (List.mem_of_getElem? (i := 45) rfl)) rfl
theorem w_X2_readText : Cond.code yX2_readText cX2_readText 2 (some .boolean) ∈ tb := tbm (wl_in11 _ (List.mem_of_getElem? (i := 7) rfl)) rfl
theorem w_X8_place : Cond.code yX8_place cX8_place 1 (some .int) ∈ tb := tbm (wl_in14 _ (List.mem_of_getElem? (i := 39) rfl)) rfl
theorem w_X3_run : Cond.code yX3_run cX3_run 4 (some .int) ∈ tb := tbm (wl_in15 _ (List.mem_of_getElem? (i := 3) rfl)) rfl
theorem w_X9_addSpoon : Cond.code yX9_addSpoon cX9_addSpoon 2 (some .int) ∈ tb := tbm (wl_in17 _ (List.mem_of_getElem? (i := 4) rfl)) rfl
theorem w_X5_fewest : Cond.code yX5_fewest cX5_fewest 7 (some .int) ∈ tb := tbm (wl_in17 _ (List.mem_of_getElem? (i := 16) rfl)) rfl
theorem w_X5_ofFirst : Cond.code yX5_ofFirst cX5_ofFirst 4 (some .int) ∈ tb := tbm (wl_in18 _ (List.mem_of_getElem? (i := 0) rfl)) rfl
theorem w_X9_addTasting : Cond.code yX9_addTasting cX9_addTasting 4 (some .int) ∈ tb := tbm (wl_in18 _ (List.mem_of_getElem? (i := 9) rfl)) rfl
theorem w_X5_fitting : Cond.code yX5_fitting cX5_fitting 3 (some .int) ∈ tb := tbm (wl_in18 _ (List.mem_of_getElem? (i := 18) rfl)) rfl
theorem w_X9_addWine : Cond.code yX9_addWine cX9_addWine 4 (some .int) ∈ tb := tbm (wl_in18 _ (List.mem_of_getElem? (i := 41) rfl)) rfl
theorem w_X9_removeWine : Cond.code yX9_removeWine cX9_removeWine 3 (some .int) ∈ tb := tbm (wl_in18 _ (List.mem_of_getElem? (i := 49) rfl)) rfl
theorem w_X1_leastPrice : Cond.code yX1_leastPrice cX1_leastPrice 4 (some .int) ∈ tb := tbm (wl_in19 _ (List.mem_of_getElem? (i := 7) rfl)) rfl
theorem w_X9_nextDraw : Cond.code yX9_nextDraw cX9_nextDraw 1 (some .int) ∈ tb := tbm (wl_in20 _ (List.mem_of_getElem? (i := 9) rfl)) rfl
theorem w_X9_passNight : Cond.code yX9_passNight cX9_passNight 10 (some .int) ∈ tb := tbm (wl_in20 _ (List.mem_of_getElem? (i := 4) rfl)) rfl
theorem w_X6_copyFrom : Cond.code yX6_copyFrom cX6_copyFrom 2 none ∈ tb := tbm (wl_in20 _ (List.mem_of_getElem? (i := 28) rfl)) rfl
theorem w_X9_keepImage : Cond.code yX9_keepImage cX9_keepImage 2 (some .int) ∈ tb := tbm (wl_in20 _ (List.mem_of_getElem? (i := 24) rfl)) rfl
theorem w_X9_goBack : Cond.code yX9_goBack cX9_goBack 2 (some .int) ∈ tb := tbm (wl_in20 _ (List.mem_of_getElem? (i := 38) rfl)) rfl
