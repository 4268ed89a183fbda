theorem m_L_13 : lmV RL 13 yX9_glass 1 := ⟨⟨⟨ne_WineSpoon.1, ne_WineSpoon.2, pd__I_I_4⟩, tbm (wl_in0 _ (List.mem_of_getElem? (i := 1) rfl)) rfl, Or.inl (tbm (wl_in7 _ (List.mem_of_getElem? (i := 15) rfl)) rfl)⟩, tbm (wl_in7 _ (List.mem_of_getElem? (i := 16) rfl)) rfl, tbm (wl_in7 _ (List.mem_of_getElem? (i := 17) rfl)) rfl⟩
theorem fi_76 : ∀ c : Nat, (fun c => (2 ≤ c ∧ c ≤ 6) ∨ c = 0 ∨ c = 96) c → (fun c => c ≤ 96) c := by
  intro c z
  first | omega | (dsimp only at z ⊢; omega)
theorem m_L_17 : lmV RL 17 yX10_glass 1 := ⟨⟨⟨ne_WineSpoonModel.1, ne_WineSpoonModel.2, pd__I_I_4⟩, tbm (wl_in0 _ (List.mem_of_getElem? (i := 11) rfl)) rfl, Or.inl (tbm (wl_in24 _ (List.mem_of_getElem? (i := 5) rfl)) rfl)⟩, tbm (wl_in24 _ (List.mem_of_getElem? (i := 6) rfl)) rfl, tbm (wl_in24 _ (List.mem_of_getElem? (i := 7) rfl)) rfl⟩
theorem fi_77 : ∀ c : Nat, (fun c => c = 97 ∨ c = 98 ∨ c = 99) c → (fun c => 97 ≤ c ∧ c ≤ 116) c := by
  intro c z
  first | omega | (dsimp only at z ⊢; omega)
theorem m_L_18 : lmV RL 18 yX9_of 2 := ⟨⟨⟨ne_WineSpoon.1, ne_WineSpoon.2, pd__II_I_5⟩, tbm (wl_in0 _ (List.mem_of_getElem? (i := 1) rfl)) rfl, Or.inl (tbm (wl_in8 _ (List.mem_of_getElem? (i := 1) rfl)) rfl)⟩, tbm (wl_in8 _ (List.mem_of_getElem? (i := 2) rfl)) rfl, tbm (wl_in8 _ (List.mem_of_getElem? (i := 3) rfl)) rfl⟩
theorem m_L_22 : lmV RL 22 yX10_of 2 := ⟨⟨⟨ne_WineSpoonModel.1, ne_WineSpoonModel.2, pd__II_I_5⟩, tbm (wl_in0 _ (List.mem_of_getElem? (i := 11) rfl)) rfl, Or.inl (tbm (wl_in24 _ (List.mem_of_getElem? (i := 13) rfl)) rfl)⟩, tbm (wl_in24 _ (List.mem_of_getElem? (i := 14) rfl)) rfl, tbm (wl_in24 _ (List.mem_of_getElem? (i := 15) rfl)) rfl⟩
theorem fi_78 : ∀ c : Nat, (fun c => c = 97) c → (fun c => 97 ≤ c ∧ c ≤ 116) c := by
  intro c z
  first | omega | (dsimp only at z ⊢; omega)
theorem m_L_23 : lmV RL 23 yX9_part 2 := ⟨⟨⟨ne_WineSpoon.1, ne_WineSpoon.2, pd__II_J_5⟩, tbm (wl_in0 _ (List.mem_of_getElem? (i := 1) rfl)) rfl, Or.inl (tbm (wl_in8 _ (List.mem_of_getElem? (i := 14) rfl)) rfl)⟩, tbm (wl_in8 _ (List.mem_of_getElem? (i := 15) rfl)) rfl, tbm (wl_in8 _ (List.mem_of_getElem? (i := 16) rfl)) rfl⟩
theorem m_L_27 : lmV RL 27 yX10_part 2 := ⟨⟨⟨ne_WineSpoonModel.1, ne_WineSpoonModel.2, pd__II_J_5⟩, tbm (wl_in0 _ (List.mem_of_getElem? (i := 11) rfl)) rfl, Or.inl (tbm (wl_in24 _ (List.mem_of_getElem? (i := 25) rfl)) rfl)⟩, tbm (wl_in24 _ (List.mem_of_getElem? (i := 26) rfl)) rfl, tbm (wl_in24 _ (List.mem_of_getElem? (i := 27) rfl)) rfl⟩
theorem m_L_28 : lmV RL 28 yX9_lower 0 := ⟨⟨⟨ne_WineSpoon.1, ne_WineSpoon.2, pd___J_3⟩, tbm (wl_in0 _ (List.mem_of_getElem? (i := 1) rfl)) rfl, Or.inl (tbm (wl_in8 _ (List.mem_of_getElem? (i := 26) rfl)) rfl)⟩, tbm (wl_in8 _ (List.mem_of_getElem? (i := 27) rfl)) rfl, tbm (wl_in8 _ (List.mem_of_getElem? (i := 28) rfl)) rfl⟩
theorem m_L_32 : lmV RL 32 yX10_lower 0 := ⟨⟨⟨ne_WineSpoonModel.1, ne_WineSpoonModel.2, pd___J_3⟩, tbm (wl_in0 _ (List.mem_of_getElem? (i := 11) rfl)) rfl, Or.inl (tbm (wl_in24 _ (List.mem_of_getElem? (i := 34) rfl)) rfl)⟩, tbm (wl_in24 _ (List.mem_of_getElem? (i := 35) rfl)) rfl, tbm (wl_in24 _ (List.mem_of_getElem? (i := 36) rfl)) rfl⟩
theorem m_L_33 : lmV RL 33 yX9_taste 2 := ⟨⟨⟨ne_WineSpoon.1, ne_WineSpoon.2, pd__II_I_5⟩, tbm (wl_in0 _ (List.mem_of_getElem? (i := 1) rfl)) rfl, Or.inl (tbm (wl_in8 _ (List.mem_of_getElem? (i := 30) rfl)) rfl)⟩, tbm (wl_in8 _ (List.mem_of_getElem? (i := 31) rfl)) rfl, tbm (wl_in8 _ (List.mem_of_getElem? (i := 32) rfl)) rfl⟩
theorem m_L_36 : lmV RL 36 yX10_taste 2 := ⟨⟨⟨ne_WineSpoonModel.1, ne_WineSpoonModel.2, pd__II_I_5⟩, tbm (wl_in0 _ (List.mem_of_getElem? (i := 11) rfl)) rfl, Or.inl (tbm (wl_in24 _ (List.mem_of_getElem? (i := 38) rfl)) rfl)⟩, tbm (wl_in24 _ (List.mem_of_getElem? (i := 39) rfl)) rfl, tbm (wl_in25 _ (List.mem_of_getElem? (i := 0) rfl)) rfl⟩
theorem m_L_37 : lmV RL 37 yX9_fill 3 := ⟨⟨⟨ne_WineSpoon.1, ne_WineSpoon.2, pd__III_I_6⟩, tbm (wl_in0 _ (List.mem_of_getElem? (i := 1) rfl)) rfl, Or.inl (tbm (wl_in8 _ (List.mem_of_getElem? (i := 39) rfl)) rfl)⟩, tbm (wl_in8 _ (List.mem_of_getElem? (i := 40) rfl)) rfl, tbm (wl_in8 _ (List.mem_of_getElem? (i := 41) rfl)) rfl⟩
theorem m_L_41 : lmV RL 41 yX10_fill 3 := ⟨⟨⟨ne_WineSpoonModel.1, ne_WineSpoonModel.2, pd__III_I_6⟩, tbm (wl_in0 _ (List.mem_of_getElem? (i := 11) rfl)) rfl, Or.inl (tbm (wl_in25 _ (List.mem_of_getElem? (i := 7) rfl)) rfl)⟩, tbm (wl_in25 _ (List.mem_of_getElem? (i := 8) rfl)) rfl, tbm (wl_in25 _ (List.mem_of_getElem? (i := 9) rfl)) rfl⟩
theorem fi_79 : ∀ c : Nat, (fun c => c = 97 ∨ c = 98 ∨ c = 101) c → (fun c => 97 ≤ c ∧ c ≤ 116) c := by
  intro c z
  first | omega | (dsimp only at z ⊢; omega)
theorem m_L_42 : lmV RL 42 yX9_spoon 3 := ⟨⟨⟨ne_WineSpoon.1, ne_WineSpoon.2, pd__III_I_6⟩, tbm (wl_in0 _ (List.mem_of_getElem? (i := 1) rfl)) rfl, Or.inl (tbm (wl_in9 _ (List.mem_of_getElem? (i := 5) rfl)) rfl)⟩, tbm (wl_in9 _ (List.mem_of_getElem? (i := 6) rfl)) rfl, tbm (wl_in9 _ (List.mem_of_getElem? (i := 7) rfl)) rfl⟩
theorem m_L_45 : lmV RL 45 yX10_spoon 3 := ⟨⟨⟨ne_WineSpoonModel.1, ne_WineSpoonModel.2, pd__III_I_6⟩, tbm (wl_in0 _ (List.mem_of_getElem? (i := 11) rfl)) rfl, Or.inl (tbm (wl_in25 _ (List.mem_of_getElem? (i := 19) rfl)) rfl)⟩, tbm (wl_in25 _ (List.mem_of_getElem? (i := 20) rfl)) rfl, tbm (wl_in25 _ (List.mem_of_getElem? (i := 21) rfl)) rfl⟩
theorem fi_80 : ∀ c : Nat, (fun c => c = 97 ∨ c = 98 ∨ c = 101 ∨ c = 104 ∨ c = 105) c → (fun c => 97 ≤ c ∧ c ≤ 116) c := by
  intro c z
  first | omega | (dsimp only at z ⊢; omega)
theorem m_L_46 : lmV RL 46 yX9_lick 2 := ⟨⟨⟨ne_WineSpoon.1, ne_WineSpoon.2, pd__II_I_5⟩, tbm (wl_in0 _ (List.mem_of_getElem? (i := 1) rfl)) rfl, Or.inl (tbm (wl_in10 _ (List.mem_of_getElem? (i := 5) rfl)) rfl)⟩, tbm (wl_in10 _ (List.mem_of_getElem? (i := 6) rfl)) rfl, tbm (wl_in10 _ (List.mem_of_getElem? (i := 7) rfl)) rfl⟩
theorem m_L_49 : lmV RL 49 yX10_lick 2 := ⟨⟨⟨ne_WineSpoonModel.1, ne_WineSpoonModel.2, pd__II_I_5⟩, tbm (wl_in0 _ (List.mem_of_getElem? (i := 11) rfl)) rfl, Or.inl (tbm (wl_in25 _ (List.mem_of_getElem? (i := 43) rfl)) rfl)⟩, tbm (wl_in25 _ (List.mem_of_getElem? (i := 44) rfl)) rfl, tbm (wl_in25 _ (List.mem_of_getElem? (i := 45) rfl)) rfl⟩
theorem m_L_50 : lmV RL 50 yX9_empty 1 := ⟨⟨⟨ne_WineSpoon.1, ne_WineSpoon.2, pd__I_I_4⟩, tbm (wl_in0 _ (List.mem_of_getElem? (i := 1) rfl)) rfl, Or.inl (tbm (wl_in10 _ (List.mem_of_getElem? (i := 17) rfl)) rfl)⟩, tbm (wl_in10 _ (List.mem_of_getElem? (i := 18) rfl)) rfl, tbm (wl_in10 _ (List.mem_of_getElem? (i := 19) rfl)) rfl⟩
theorem m_L_53 : lmV RL 53 yX10_empty 1 := ⟨⟨⟨ne_WineSpoonModel.1, ne_WineSpoonModel.2, pd__I_I_4⟩, tbm (wl_in0 _ (List.mem_of_getElem? (i := 11) rfl)) rfl, Or.inl (tbm (wl_in25 _ (List.mem_of_getElem? (i := 47) rfl)) rfl)⟩, tbm (wl_in25 _ (List.mem_of_getElem? (i := 48) rfl)) rfl, tbm (wl_in25 _ (List.mem_of_getElem? (i := 49) rfl)) rfl⟩
theorem pd__IIIII_I_8 : (parseMethodDescriptor "(IIIII)I").map (fun d => d.parameters.length) = some 5 := by decide +kernel
theorem m_L_54 : lmV RL 54 yX9_feed 5 := ⟨⟨⟨ne_WineSpoon.1, ne_WineSpoon.2, pd__IIIII_I_8⟩, tbm (wl_in0 _ (List.mem_of_getElem? (i := 1) rfl)) rfl, Or.inl (tbm (wl_in10 _ (List.mem_of_getElem? (i := 26) rfl)) rfl)⟩, tbm (wl_in10 _ (List.mem_of_getElem? (i := 27) rfl)) rfl, tbm (wl_in10 _ (List.mem_of_getElem? (i := 28) rfl)) rfl⟩
theorem fi_81 : ∀ c : Nat, (fun c => c = 31 ∨ c = 32) c → (fun c => c ≤ 96) c := by
  intro c z
  first | omega | (dsimp only at z ⊢; omega)
theorem m_L_58 : lmV RL 58 yX10_feed 5 := ⟨⟨⟨ne_WineSpoonModel.1, ne_WineSpoonModel.2, pd__IIIII_I_8⟩, tbm (wl_in0 _ (List.mem_of_getElem? (i := 11) rfl)) rfl, Or.inl (tbm (wl_in26 _ (List.mem_of_getElem? (i := 9) rfl)) rfl)⟩, tbm (wl_in26 _ (List.mem_of_getElem? (i := 10) rfl)) rfl, tbm (wl_in26 _ (List.mem_of_getElem? (i := 11) rfl)) rfl⟩
theorem fi_82 : ∀ c : Nat, (fun c => c = 97 ∨ c = 106) c → (fun c => 97 ≤ c ∧ c ≤ 116) c := by
  intro c z
  first | omega | (dsimp only at z ⊢; omega)
theorem m_L_59 : lmV RL 59 yX9_end 1 := ⟨⟨⟨ne_WineSpoon.1, ne_WineSpoon.2, pd__I_I_4⟩, tbm (wl_in0 _ (List.mem_of_getElem? (i := 1) rfl)) rfl, Or.inl (tbm (wl_in10 _ (List.mem_of_getElem? (i := 34) rfl)) rfl)⟩, tbm (wl_in10 _ (List.mem_of_getElem? (i := 35) rfl)) rfl, tbm (wl_in10 _ (List.mem_of_getElem? (i := 36) rfl)) rfl⟩
theorem fi_83 : ∀ c : Nat, (fun c => c = 31) c → (fun c => c ≤ 96) c := by
  intro c z
  first | omega | (dsimp only at z ⊢; omega)
theorem m_L_62 : lmV RL 62 yX10_end 1 := ⟨⟨⟨ne_WineSpoonModel.1, ne_WineSpoonModel.2, pd__I_I_4⟩, tbm (wl_in0 _ (List.mem_of_getElem? (i := 11) rfl)) rfl, Or.inl (tbm (wl_in26 _ (List.mem_of_getElem? (i := 17) rfl)) rfl)⟩, tbm (wl_in26 _ (List.mem_of_getElem? (i := 18) rfl)) rfl, tbm (wl_in26 _ (List.mem_of_getElem? (i := 19) rfl)) rfl⟩
theorem m_L_63 : lmV RL 63 yX9_row 0 := ⟨⟨⟨ne_WineSpoon.1, ne_WineSpoon.2, pd___I_3⟩, tbm (wl_in0 _ (List.mem_of_getElem? (i := 1) rfl)) rfl, Or.inl (tbm (wl_in10 _ (List.mem_of_getElem? (i := 38) rfl)) rfl)⟩, tbm (wl_in10 _ (List.mem_of_getElem? (i := 39) rfl)) rfl, tbm (wl_in10 _ (List.mem_of_getElem? (i := 40) rfl)) rfl⟩
theorem fi_84 : ∀ c : Nat, (fun c => (2 ≤ c ∧ c ≤ 6) ∨ c = 31 ∨ c = 0 ∨ c = 96) c → (fun c => c ≤ 96) c := by
  intro c z
  first | omega | (dsimp only at z ⊢; omega)
theorem m_L_67 : lmV RL 67 yX10_row 0 := ⟨⟨⟨ne_WineSpoonModel.1, ne_WineSpoonModel.2, pd___I_3⟩, tbm (wl_in0 _ (List.mem_of_getElem? (i := 11) rfl)) rfl, Or.inl (tbm (wl_in26 _ (List.mem_of_getElem? (i := 1) rfl)) rfl)⟩, tbm (wl_in26 _ (List.mem_of_getElem? (i := 2) rfl)) rfl, tbm (wl_in26 _ (List.mem_of_getElem? (i := 3) rfl)) rfl⟩
theorem m_L_68 : lmV RL 68 yX9_spilt 0 := ⟨⟨⟨ne_WineSpoon.1, ne_WineSpoon.2, pd___I_3⟩, tbm (wl_in0 _ (List.mem_of_getElem? (i := 1) rfl)) rfl, Or.inl (tbm (wl_in10 _ (List.mem_of_getElem? (i := 46) rfl)) rfl)⟩, tbm (wl_in10 _ (List.mem_of_getElem? (i := 47) rfl)) rfl, tbm (wl_in10 _ (List.mem_of_getElem? (i := 48) rfl)) rfl⟩
theorem m_L_71 : lmV RL 71 yX10_spilt 0 := ⟨⟨⟨ne_WineSpoonModel.1, ne_WineSpoonModel.2, pd___I_3⟩, tbm (wl_in0 _ (List.mem_of_getElem? (i := 11) rfl)) rfl, Or.inl (tbm (wl_in26 _ (List.mem_of_getElem? (i := 5) rfl)) rfl)⟩, tbm (wl_in26 _ (List.mem_of_getElem? (i := 6) rfl)) rfl, tbm (wl_in26 _ (List.mem_of_getElem? (i := 7) rfl)) rfl⟩
theorem m_L_72 : lmV RL 72 yX9_evening 0 := ⟨⟨⟨ne_WineSpoon.1, ne_WineSpoon.2, pd___I_3⟩, tbm (wl_in0 _ (List.mem_of_getElem? (i := 1) rfl)) rfl, Or.inl (tbm (wl_in11 _ (List.mem_of_getElem? (i := 0) rfl)) rfl)⟩, tbm (wl_in11 _ (List.mem_of_getElem? (i := 1) rfl)) rfl, tbm (wl_in11 _ (List.mem_of_getElem? (i := 2) rfl)) rfl⟩
theorem fi_85 : ∀ c : Nat, (fun c => (2 ≤ c ∧ c ≤ 6) ∨ (30 ≤ c ∧ c ≤ 59) ∨ c = 0 ∨ c = 96) c → (fun c => c ≤ 96) c := by
  intro c z
  first | omega | (dsimp only at z ⊢; omega)
theorem m_L_75 : lmV RL 75 yX10_evening 0 := ⟨⟨⟨ne_WineSpoonModel.1, ne_WineSpoonModel.2, pd___I_3⟩, tbm (wl_in0 _ (List.mem_of_getElem? (i := 11) rfl)) rfl, Or.inl (tbm (wl_in26 _ (List.mem_of_getElem? (i := 25) rfl)) rfl)⟩, tbm (wl_in26 _ (List.mem_of_getElem? (i := 26) rfl)) rfl, tbm (wl_in26 _ (List.mem_of_getElem? (i := 27) rfl)) rfl⟩
theorem fi_86 : ∀ c : Nat, (fun c => c = 97 ∨ c = 98 ∨ c = 101 ∨ c = 104 ∨ c = 105 ∨ c = 107 ∨ c = 108 ∨ c = 109 ∨ c = 110 ∨ c = 111 ∨ c = 112) c → (fun c => 97 ≤ c ∧ c ≤ 116) c := by
  intro c z
  first | omega | (dsimp only at z ⊢; omega)
theorem m_L_76 : lmV RL 76 yX9_fault 0 := ⟨⟨⟨ne_WineSpoon.1, ne_WineSpoon.2, pd___I_3⟩, tbm (wl_in0 _ (List.mem_of_getElem? (i := 1) rfl)) rfl, Or.inl (tbm (wl_in16 _ (List.mem_of_getElem? (i := 8) rfl)) rfl)⟩, tbm (wl_in16 _ (List.mem_of_getElem? (i := 9) rfl)) rfl, tbm (wl_in16 _ (List.mem_of_getElem? (i := 10) rfl)) rfl⟩
theorem m_L_79 : lmV RL 79 yX10_fault 0 := ⟨⟨⟨ne_WineSpoonModel.1, ne_WineSpoonModel.2, pd___I_3⟩, tbm (wl_in0 _ (List.mem_of_getElem? (i := 11) rfl)) rfl, Or.inl (tbm (wl_in26 _ (List.mem_of_getElem? (i := 21) rfl)) rfl)⟩, tbm (wl_in26 _ (List.mem_of_getElem? (i := 22) rfl)) rfl, tbm (wl_in26 _ (List.mem_of_getElem? (i := 23) rfl)) rfl⟩
theorem m_L_80 : lmV RL 80 yX9_stopped 0 := ⟨⟨⟨ne_WineSpoon.1, ne_WineSpoon.2, pd___I_3⟩, tbm (wl_in0 _ (List.mem_of_getElem? (i := 1) rfl)) rfl, Or.inl (tbm (wl_in16 _ (List.mem_of_getElem? (i := 12) rfl)) rfl)⟩, tbm (wl_in16 _ (List.mem_of_getElem? (i := 13) rfl)) rfl, tbm (wl_in16 _ (List.mem_of_getElem? (i := 14) rfl)) rfl⟩
theorem m_L_83 : lmV RL 83 yX10_stopped 0 := ⟨⟨⟨ne_WineSpoonModel.1, ne_WineSpoonModel.2, pd___I_3⟩, tbm (wl_in0 _ (List.mem_of_getElem? (i := 11) rfl)) rfl, Or.inl (tbm (wl_in29 _ (List.mem_of_getElem? (i := 6) rfl)) rfl)⟩, tbm (wl_in29 _ (List.mem_of_getElem? (i := 7) rfl)) rfl, tbm (wl_in29 _ (List.mem_of_getElem? (i := 8) rfl)) rfl⟩
theorem m_L_84 : lmV RL 84 yX9_alike 3 := ⟨⟨⟨ne_WineSpoon.1, ne_WineSpoon.2, pd__III_I_6⟩, tbm (wl_in0 _ (List.mem_of_getElem? (i := 1) rfl)) rfl, Or.inl (tbm (wl_in16 _ (List.mem_of_getElem? (i := 16) rfl)) rfl)⟩, tbm (wl_in16 _ (List.mem_of_getElem? (i := 17) rfl)) rfl, tbm (wl_in16 _ (List.mem_of_getElem? (i := 18) rfl)) rfl⟩
theorem m_L_87 : lmV RL 87 yX10_alike 3 := ⟨⟨⟨ne_WineSpoonModel.1, ne_WineSpoonModel.2, pd__III_I_6⟩, tbm (wl_in0 _ (List.mem_of_getElem? (i := 11) rfl)) rfl, Or.inl (tbm (wl_in29 _ (List.mem_of_getElem? (i := 10) rfl)) rfl)⟩, tbm (wl_in29 _ (List.mem_of_getElem? (i := 11) rfl)) rfl, tbm (wl_in29 _ (List.mem_of_getElem? (i := 12) rfl)) rfl⟩
theorem m_L_88 : lmV RL 88 yX9_both 4 := ⟨⟨⟨ne_WineSpoon.1, ne_WineSpoon.2, pd__IIII_J_7⟩, tbm (wl_in0 _ (List.mem_of_getElem? (i := 1) rfl)) rfl, Or.inl (tbm (wl_in16 _ (List.mem_of_getElem? (i := 25) rfl)) rfl)⟩, tbm (wl_in16 _ (List.mem_of_getElem? (i := 26) rfl)) rfl, tbm (wl_in16 _ (List.mem_of_getElem? (i := 27) rfl)) rfl⟩
theorem m_L_92 : lmV RL 92 yX10_both 4 := ⟨⟨⟨ne_WineSpoonModel.1, ne_WineSpoonModel.2, pd__IIII_J_7⟩, tbm (wl_in0 _ (List.mem_of_getElem? (i := 11) rfl)) rfl, Or.inl (tbm (wl_in29 _ (List.mem_of_getElem? (i := 14) rfl)) rfl)⟩, tbm (wl_in29 _ (List.mem_of_getElem? (i := 15) rfl)) rfl, tbm (wl_in29 _ (List.mem_of_getElem? (i := 16) rfl)) rfl⟩
theorem m_L_93 : lmV RL 93 yX9_rounds 3 := ⟨⟨⟨ne_WineSpoon.1, ne_WineSpoon.2, pd__III_I_6⟩, tbm (wl_in0 _ (List.mem_of_getElem? (i := 1) rfl)) rfl, Or.inl (tbm (wl_in16 _ (List.mem_of_getElem? (i := 42) rfl)) rfl)⟩, tbm (wl_in16 _ (List.mem_of_getElem? (i := 43) rfl)) rfl, tbm (wl_in16 _ (List.mem_of_getElem? (i := 44) rfl)) rfl⟩
theorem m_L_96 : lmV RL 96 yX10_rounds 3 := ⟨⟨⟨ne_WineSpoonModel.1, ne_WineSpoonModel.2, pd__III_I_6⟩, tbm (wl_in0 _ (List.mem_of_getElem? (i := 11) rfl)) rfl, Or.inl (tbm (wl_in29 _ (List.mem_of_getElem? (i := 28) rfl)) rfl)⟩, tbm (wl_in29 _ (List.mem_of_getElem? (i := 29) rfl)) rfl, tbm (wl_in29 _ (List.mem_of_getElem? (i := 30) rfl)) rfl⟩
theorem m_L_97 : lmV RL 97 yX9_size 1 := ⟨⟨⟨ne_WineSpoon.1, ne_WineSpoon.2, pd__I_I_4⟩, tbm (wl_in0 _ (List.mem_of_getElem? (i := 1) rfl)) rfl, Or.inl (tbm (wl_in16 _ (List.mem_of_getElem? (i := 47) rfl)) rfl)⟩, tbm (wl_in16 _ (List.mem_of_getElem? (i := 48) rfl)) rfl, tbm (wl_in16 _ (List.mem_of_getElem? (i := 49) rfl)) rfl⟩
theorem fi_87 : ∀ c : Nat, (fun c => c = 1 ∨ c = 7 ∨ c = 0 ∨ c = 96) c → (fun c => c ≤ 96) c := by
  intro c z
  first | omega | (dsimp only at z ⊢; omega)
theorem m_L_100 : lmV RL 100 yX10_size 1 := ⟨⟨⟨ne_WineSpoonModel.1, ne_WineSpoonModel.2, pd__I_I_4⟩, tbm (wl_in0 _ (List.mem_of_getElem? (i := 11) rfl)) rfl, Or.inl (tbm (wl_in29 _ (List.mem_of_getElem? (i := 32) rfl)) rfl)⟩, tbm (wl_in29 _ (List.mem_of_getElem? (i := 33) rfl)) rfl, tbm (wl_in29 _ (List.mem_of_getElem? (i := 34) rfl)) rfl⟩
theorem m_L_101 : lmV RL 101 yX9_wash 0 := ⟨⟨⟨ne_WineSpoon.1, ne_WineSpoon.2, pd___I_3⟩, tbm (wl_in0 _ (List.mem_of_getElem? (i := 1) rfl)) rfl, Or.inl (tbm (wl_in17 _ (List.mem_of_getElem? (i := 5) rfl)) rfl)⟩, tbm (wl_in17 _ (List.mem_of_getElem? (i := 6) rfl)) rfl, tbm (wl_in17 _ (List.mem_of_getElem? (i := 7) rfl)) rfl⟩
theorem fi_88 : ∀ c : Nat, (fun c => c = 1) c → (fun c => c ≤ 96) c := by
  intro c z
  first | omega | (dsimp only at z ⊢; omega)
theorem m_L_104 : lmV RL 104 yX10_wash 0 := ⟨⟨⟨ne_WineSpoonModel.1, ne_WineSpoonModel.2, pd___I_3⟩, tbm (wl_in0 _ (List.mem_of_getElem? (i := 11) rfl)) rfl, Or.inl (tbm (wl_in29 _ (List.mem_of_getElem? (i := 36) rfl)) rfl)⟩, tbm (wl_in29 _ (List.mem_of_getElem? (i := 37) rfl)) rfl, tbm (wl_in29 _ (List.mem_of_getElem? (i := 38) rfl)) rfl⟩
theorem fi_89 : ∀ c : Nat, (fun c => c = 97 ∨ c = 99) c → (fun c => 97 ≤ c ∧ c ≤ 116) c := by
  intro c z
  first | omega | (dsimp only at z ⊢; omega)
theorem pd__IIIIII_I_9 : (parseMethodDescriptor "(IIIIII)I").map (fun d => d.parameters.length) = some 6 := by decide +kernel
theorem m_L_105 : lmV RL 105 yX9_reach 6 := ⟨⟨⟨ne_WineSpoon.1, ne_WineSpoon.2, pd__IIIIII_I_9⟩, tbm (wl_in0 _ (List.mem_of_getElem? (i := 1) rfl)) rfl, Or.inl (tbm (wl_in17 _ (List.mem_of_getElem? (i := 9) rfl)) rfl)⟩, tbm (wl_in17 _ (List.mem_of_getElem? (i := 10) rfl)) rfl, tbm (wl_in17 _ (List.mem_of_getElem? (i := 11) rfl)) rfl⟩
theorem fi_90 : ∀ c : Nat, (fun c => (60 ≤ c ∧ c ≤ 83)) c → (fun c => c ≤ 96) c := by
  intro c z
  first | omega | (dsimp only at z ⊢; omega)
theorem m_L_109 : lmV RL 109 yX10_reach 6 := ⟨⟨⟨ne_WineSpoonModel.1, ne_WineSpoonModel.2, pd__IIIIII_I_9⟩, tbm (wl_in0 _ (List.mem_of_getElem? (i := 11) rfl)) rfl, Or.inl (tbm (wl_in30 _ (List.mem_of_getElem? (i := 4) rfl)) rfl)⟩, tbm (wl_in30 _ (List.mem_of_getElem? (i := 5) rfl)) rfl, tbm (wl_in30 _ (List.mem_of_getElem? (i := 6) rfl)) rfl⟩
theorem fi_91 : ∀ c : Nat, (fun c => c = 97 ∨ c = 101 ∨ c = 104 ∨ c = 105 ∨ c = 113 ∨ c = 114) c → (fun c => 97 ≤ c ∧ c ≤ 116) c := by
  intro c z
  first | omega | (dsimp only at z ⊢; omega)
theorem m_L_110 : lmV RL 110 yX9_tasting 3 := ⟨⟨⟨ne_WineSpoon.1, ne_WineSpoon.2, pd__III_I_6⟩, tbm (wl_in0 _ (List.mem_of_getElem? (i := 1) rfl)) rfl, Or.inl (tbm (wl_in18 _ (List.mem_of_getElem? (i := 2) rfl)) rfl)⟩, tbm (wl_in18 _ (List.mem_of_getElem? (i := 3) rfl)) rfl, tbm (wl_in18 _ (List.mem_of_getElem? (i := 4) rfl)) rfl⟩
theorem fi_92 : ∀ c : Nat, (fun c => c = 1 ∨ c = 8 ∨ c = 0 ∨ c = 96) c → (fun c => c ≤ 96) c := by
  intro c z
  first | omega | (dsimp only at z ⊢; omega)
theorem m_L_113 : lmV RL 113 yX10_tasting 3 := ⟨⟨⟨ne_WineSpoonModel.1, ne_WineSpoonModel.2, pd__III_I_6⟩, tbm (wl_in0 _ (List.mem_of_getElem? (i := 11) rfl)) rfl, Or.inl (tbm (wl_in30 _ (List.mem_of_getElem? (i := 0) rfl)) rfl)⟩, tbm (wl_in30 _ (List.mem_of_getElem? (i := 1) rfl)) rfl, tbm (wl_in30 _ (List.mem_of_getElem? (i := 2) rfl)) rfl⟩
theorem m_L_114 : lmV RL 114 yX9_fits 3 := ⟨⟨⟨ne_WineSpoon.1, ne_WineSpoon.2, pd__III_I_6⟩, tbm (wl_in0 _ (List.mem_of_getElem? (i := 1) rfl)) rfl, Or.inl (tbm (wl_in18 _ (List.mem_of_getElem? (i := 11) rfl)) rfl)⟩, tbm (wl_in18 _ (List.mem_of_getElem? (i := 12) rfl)) rfl, tbm (wl_in18 _ (List.mem_of_getElem? (i := 13) rfl)) rfl⟩
theorem m_L_117 : lmV RL 117 yX10_fits 3 := ⟨⟨⟨ne_WineSpoonModel.1, ne_WineSpoonModel.2, pd__III_I_6⟩, tbm (wl_in0 _ (List.mem_of_getElem? (i := 11) rfl)) rfl, Or.inl (tbm (wl_in30 _ (List.mem_of_getElem? (i := 29) rfl)) rfl)⟩, tbm (wl_in30 _ (List.mem_of_getElem? (i := 30) rfl)) rfl, tbm (wl_in30 _ (List.mem_of_getElem? (i := 31) rfl)) rfl⟩
theorem m_L_118 : lmV RL 118 yX9_cask 4 := ⟨⟨⟨ne_WineSpoon.1, ne_WineSpoon.2, pd__IIII_J_7⟩, tbm (wl_in0 _ (List.mem_of_getElem? (i := 1) rfl)) rfl, Or.inl (tbm (wl_in18 _ (List.mem_of_getElem? (i := 19) rfl)) rfl)⟩, tbm (wl_in18 _ (List.mem_of_getElem? (i := 20) rfl)) rfl, tbm (wl_in18 _ (List.mem_of_getElem? (i := 21) rfl)) rfl⟩
theorem m_L_121 : lmV RL 121 yX10_cask 4 := ⟨⟨⟨ne_WineSpoonModel.1, ne_WineSpoonModel.2, pd__IIII_J_7⟩, tbm (wl_in0 _ (List.mem_of_getElem? (i := 11) rfl)) rfl, Or.inl (tbm (wl_in30 _ (List.mem_of_getElem? (i := 33) rfl)) rfl)⟩, tbm (wl_in30 _ (List.mem_of_getElem? (i := 34) rfl)) rfl, tbm (wl_in30 _ (List.mem_of_getElem? (i := 35) rfl)) rfl⟩
theorem m_L_122 : lmV RL 122 yX9_guests 3 := ⟨⟨⟨ne_WineSpoon.1, ne_WineSpoon.2, pd__III_I_6⟩, tbm (wl_in0 _ (List.mem_of_getElem? (i := 1) rfl)) rfl, Or.inl (tbm (wl_in18 _ (List.mem_of_getElem? (i := 26) rfl)) rfl)⟩, tbm (wl_in18 _ (List.mem_of_getElem? (i := 27) rfl)) rfl, tbm (wl_in18 _ (List.mem_of_getElem? (i := 28) rfl)) rfl⟩
theorem m_L_125 : lmV RL 125 yX10_guests 3 := ⟨⟨⟨ne_WineSpoonModel.1, ne_WineSpoonModel.2, pd__III_I_6⟩, tbm (wl_in0 _ (List.mem_of_getElem? (i := 11) rfl)) rfl, Or.inl (tbm (wl_in30 _ (List.mem_of_getElem? (i := 40) rfl)) rfl)⟩, tbm (wl_in30 _ (List.mem_of_getElem? (i := 41) rfl)) rfl, tbm (wl_in30 _ (List.mem_of_getElem? (i := 42) rfl)) rfl⟩
theorem m_L_126 : lmV RL 126 yX9_rinse 4 := ⟨⟨⟨ne_WineSpoon.1, ne_WineSpoon.2, pd__IIII_J_7⟩, tbm (wl_in0 _ (List.mem_of_getElem? (i := 1) rfl)) rfl, Or.inl (tbm (wl_in18 _ (List.mem_of_getElem? (i := 30) rfl)) rfl)⟩, tbm (wl_in18 _ (List.mem_of_getElem? (i := 31) rfl)) rfl, tbm (wl_in18 _ (List.mem_of_getElem? (i := 32) rfl)) rfl⟩
theorem m_L_129 : lmV RL 129 yX10_rinse 4 := ⟨⟨⟨ne_WineSpoonModel.1, ne_WineSpoonModel.2, pd__IIII_J_7⟩, tbm (wl_in0 _ (List.mem_of_getElem? (i := 11) rfl)) rfl, Or.inl (tbm (wl_in30 _ (List.mem_of_getElem? (i := 44) rfl)) rfl)⟩, tbm (wl_in30 _ (List.mem_of_getElem? (i := 45) rfl)) rfl, tbm (wl_in30 _ (List.mem_of_getElem? (i := 46) rfl)) rfl⟩
theorem m_L_130 : lmV RL 130 yX9_wine 3 := ⟨⟨⟨ne_WineSpoon.1, ne_WineSpoon.2, pd__III_I_6⟩, tbm (wl_in0 _ (List.mem_of_getElem? (i := 1) rfl)) rfl, Or.inl (tbm (wl_in18 _ (List.mem_of_getElem? (i := 34) rfl)) rfl)⟩, tbm (wl_in18 _ (List.mem_of_getElem? (i := 35) rfl)) rfl, tbm (wl_in18 _ (List.mem_of_getElem? (i := 36) rfl)) rfl⟩
theorem fi_93 : ∀ c : Nat, (fun c => c = 1 ∨ c = 9 ∨ c = 0 ∨ c = 96) c → (fun c => c ≤ 96) c := by
  intro c z
  first | omega | (dsimp only at z ⊢; omega)
theorem m_L_133 : lmV RL 133 yX10_wine 3 := ⟨⟨⟨ne_WineSpoonModel.1, ne_WineSpoonModel.2, pd__III_I_6⟩, tbm (wl_in0 _ (List.mem_of_getElem? (i := 11) rfl)) rfl, Or.inl (tbm (wl_in30 _ (List.mem_of_getElem? (i := 49) rfl)) rfl)⟩, tbm (wl_in31 _ (List.mem_of_getElem? (i := 0) rfl)) rfl, tbm (wl_in31 _ (List.mem_of_getElem? (i := 1) rfl)) rfl⟩
theorem m_L_134 : lmV RL 134 yX9_drink 1 := ⟨⟨⟨ne_WineSpoon.1, ne_WineSpoon.2, pd__I_I_4⟩, tbm (wl_in0 _ (List.mem_of_getElem? (i := 1) rfl)) rfl, Or.inl (tbm (wl_in18 _ (List.mem_of_getElem? (i := 42) rfl)) rfl)⟩, tbm (wl_in18 _ (List.mem_of_getElem? (i := 43) rfl)) rfl, tbm (wl_in18 _ (List.mem_of_getElem? (i := 44) rfl)) rfl⟩
theorem m_L_137 : lmV RL 137 yX10_drink 1 := ⟨⟨⟨ne_WineSpoonModel.1, ne_WineSpoonModel.2, pd__I_I_4⟩, tbm (wl_in0 _ (List.mem_of_getElem? (i := 11) rfl)) rfl, Or.inl (tbm (wl_in31 _ (List.mem_of_getElem? (i := 4) rfl)) rfl)⟩, tbm (wl_in31 _ (List.mem_of_getElem? (i := 5) rfl)) rfl, tbm (wl_in31 _ (List.mem_of_getElem? (i := 6) rfl)) rfl⟩
theorem m_L_138 : lmV RL 138 yX9_mix 3 := ⟨⟨⟨ne_WineSpoon.1, ne_WineSpoon.2, pd__III_I_6⟩, tbm (wl_in0 _ (List.mem_of_getElem? (i := 1) rfl)) rfl, Or.inl (tbm (wl_in19 _ (List.mem_of_getElem? (i := 0) rfl)) rfl)⟩, tbm (wl_in19 _ (List.mem_of_getElem? (i := 1) rfl)) rfl, tbm (wl_in19 _ (List.mem_of_getElem? (i := 2) rfl)) rfl⟩
theorem fi_94 : ∀ c : Nat, (fun c => (84 ≤ c ∧ c ≤ 90)) c → (fun c => c ≤ 96) c := by
  intro c z
  first | omega | (dsimp only at z ⊢; omega)
theorem m_L_141 : lmV RL 141 yX10_mix 3 := ⟨⟨⟨ne_WineSpoonModel.1, ne_WineSpoonModel.2, pd__III_I_6⟩, tbm (wl_in0 _ (List.mem_of_getElem? (i := 11) rfl)) rfl, Or.inl (tbm (wl_in31 _ (List.mem_of_getElem? (i := 8) rfl)) rfl)⟩, tbm (wl_in31 _ (List.mem_of_getElem? (i := 9) rfl)) rfl, tbm (wl_in31 _ (List.mem_of_getElem? (i := 10) rfl)) rfl⟩
theorem fi_95 : ∀ c : Nat, (fun c => c = 97 ∨ c = 115) c → (fun c => 97 ≤ c ∧ c ≤ 116) c := by
  intro c z
  first | omega | (dsimp only at z ⊢; omega)
theorem pd__IIIII_J_8 : (parseMethodDescriptor "(IIIII)J").map (fun d => d.parameters.length) = some 5 := by decide +kernel
theorem m_L_142 : lmV RL 142 yX9_cards 5 := ⟨⟨⟨ne_WineSpoon.1, ne_WineSpoon.2, pd__IIIII_J_8⟩, tbm (wl_in0 _ (List.mem_of_getElem? (i := 1) rfl)) rfl, Or.inl (tbm (wl_in19 _ (List.mem_of_getElem? (i := 30) rfl)) rfl)⟩, tbm (wl_in19 _ (List.mem_of_getElem? (i := 31) rfl)) rfl, tbm (wl_in19 _ (List.mem_of_getElem? (i := 32) rfl)) rfl⟩
theorem m_L_146 : lmV RL 146 yX10_cards 5 := ⟨⟨⟨ne_WineSpoonModel.1, ne_WineSpoonModel.2, pd__IIIII_J_8⟩, tbm (wl_in0 _ (List.mem_of_getElem? (i := 11) rfl)) rfl, Or.inl (tbm (wl_in31 _ (List.mem_of_getElem? (i := 25) rfl)) rfl)⟩, tbm (wl_in31 _ (List.mem_of_getElem? (i := 26) rfl)) rfl, tbm (wl_in31 _ (List.mem_of_getElem? (i := 27) rfl)) rfl⟩
theorem m_L_147 : lmV RL 147 yX9_night 2 := ⟨⟨⟨ne_WineSpoon.1, ne_WineSpoon.2, pd__II_I_5⟩, tbm (wl_in0 _ (List.mem_of_getElem? (i := 1) rfl)) rfl, Or.inl (tbm (wl_in19 _ (List.mem_of_getElem? (i := 37) rfl)) rfl)⟩, tbm (wl_in19 _ (List.mem_of_getElem? (i := 38) rfl)) rfl, tbm (wl_in19 _ (List.mem_of_getElem? (i := 39) rfl)) rfl⟩
theorem fi_96 : ∀ c : Nat, (fun c => (91 ≤ c ∧ c ≤ 95) ∨ c = 0 ∨ c = 96) c → (fun c => c ≤ 96) c := by
  intro c z
  first | omega | (dsimp only at z ⊢; omega)
theorem m_L_150 : lmV RL 150 yX10_night 2 := ⟨⟨⟨ne_WineSpoonModel.1, ne_WineSpoonModel.2, pd__II_I_5⟩, tbm (wl_in0 _ (List.mem_of_getElem? (i := 11) rfl)) rfl, Or.inl (tbm (wl_in31 _ (List.mem_of_getElem? (i := 32) rfl)) rfl)⟩, tbm (wl_in31 _ (List.mem_of_getElem? (i := 33) rfl)) rfl, tbm (wl_in31 _ (List.mem_of_getElem? (i := 34) rfl)) rfl⟩
theorem fi_97 : ∀ c : Nat, (fun c => c = 97 ∨ c = 98 ∨ c = 101 ∨ c = 104 ∨ c = 105 ∨ c = 116) c → (fun c => 97 ≤ c ∧ c ≤ 116) c := by
  intro c z
  first | omega | (dsimp only at z ⊢; omega)
theorem m_L_151 : lmV RL 151 yX9_drawn 2 := ⟨⟨⟨ne_WineSpoon.1, ne_WineSpoon.2, pd__II_I_5⟩, tbm (wl_in0 _ (List.mem_of_getElem? (i := 1) rfl)) rfl, Or.inl (tbm (wl_in20 _ (List.mem_of_getElem? (i := 13) rfl)) rfl)⟩, tbm (wl_in20 _ (List.mem_of_getElem? (i := 14) rfl)) rfl, tbm (wl_in20 _ (List.mem_of_getElem? (i := 15) rfl)) rfl⟩
theorem m_L_154 : lmV RL 154 yX10_drawn 2 := ⟨⟨⟨ne_WineSpoonModel.1, ne_WineSpoonModel.2, pd__II_I_5⟩, tbm (wl_in0 _ (List.mem_of_getElem? (i := 11) rfl)) rfl, Or.inl (tbm (wl_in31 _ (List.mem_of_getElem? (i := 43) rfl)) rfl)⟩, tbm (wl_in31 _ (List.mem_of_getElem? (i := 44) rfl)) rfl, tbm (wl_in31 _ (List.mem_of_getElem? (i := 45) rfl)) rfl⟩
theorem m_L_155 : lmV RL 155 yX9_image 1 := ⟨⟨⟨ne_WineSpoon.1, ne_WineSpoon.2, pd__I_I_4⟩, tbm (wl_in0 _ (List.mem_of_getElem? (i := 1) rfl)) rfl, Or.inl (tbm (wl_in20 _ (List.mem_of_getElem? (i := 17) rfl)) rfl)⟩, tbm (wl_in20 _ (List.mem_of_getElem? (i := 18) rfl)) rfl, tbm (wl_in20 _ (List.mem_of_getElem? (i := 19) rfl)) rfl⟩
theorem fi_98 : ∀ c : Nat, (fun c => (10 ≤ c ∧ c ≤ 27) ∨ c = 29 ∨ c = 0 ∨ c = 96) c → (fun c => c ≤ 96) c := by
  intro c z
  first | omega | (dsimp only at z ⊢; omega)
theorem m_L_158 : lmV RL 158 yX10_image 1 := ⟨⟨⟨ne_WineSpoonModel.1, ne_WineSpoonModel.2, pd__I_I_4⟩, tbm (wl_in0 _ (List.mem_of_getElem? (i := 11) rfl)) rfl, Or.inl (tbm (wl_in23 _ (List.mem_of_getElem? (i := 40) rfl)) rfl)⟩, tbm (wl_in23 _ (List.mem_of_getElem? (i := 41) rfl)) rfl, tbm (wl_in23 _ (List.mem_of_getElem? (i := 42) rfl)) rfl⟩
theorem fi_99 : ∀ c : Nat, (fun c => c = 97 ∨ c = 98 ∨ c = 100 ∨ c = 102 ∨ c = 103) c → (fun c => 97 ≤ c ∧ c ≤ 116) c := by
  intro c z
  first | omega | (dsimp only at z ⊢; omega)
theorem m_L_159 : lmV RL 159 yX9_back 1 := ⟨⟨⟨ne_WineSpoon.1, ne_WineSpoon.2, pd__I_I_4⟩, tbm (wl_in0 _ (List.mem_of_getElem? (i := 1) rfl)) rfl, Or.inl (tbm (wl_in20 _ (List.mem_of_getElem? (i := 31) rfl)) rfl)⟩, tbm (wl_in20 _ (List.mem_of_getElem? (i := 32) rfl)) rfl, tbm (wl_in20 _ (List.mem_of_getElem? (i := 33) rfl)) rfl⟩
theorem fi_100 : ∀ c : Nat, (fun c => 1 ≤ c ∧ c ≤ 9 ∨ c = 0 ∨ c = 96) c → (fun c => c ≤ 96) c := by
  intro c z
  first | omega | (dsimp only at z ⊢; omega)
theorem m_L_162 : lmV RL 162 yX10_back 1 := ⟨⟨⟨ne_WineSpoonModel.1, ne_WineSpoonModel.2, pd__I_I_4⟩, tbm (wl_in0 _ (List.mem_of_getElem? (i := 11) rfl)) rfl, Or.inl (tbm (wl_in24 _ (List.mem_of_getElem? (i := 1) rfl)) rfl)⟩, tbm (wl_in24 _ (List.mem_of_getElem? (i := 2) rfl)) rfl, tbm (wl_in24 _ (List.mem_of_getElem? (i := 3) rfl)) rfl⟩
theorem fi_101 : ∀ c : Nat, (fun c => c = 97 ∨ c = 98 ∨ c = 99 ∨ c = 101) c → (fun c => 97 ≤ c ∧ c ≤ 116) c := by
  intro c z
  first | omega | (dsimp only at z ⊢; omega)
theorem m_L_163 : lmV RL 163 yX9_count 1 := ⟨⟨⟨ne_WineSpoon.1, ne_WineSpoon.2, pd__I_I_4⟩, tbm (wl_in0 _ (List.mem_of_getElem? (i := 1) rfl)) rfl, Or.inl (tbm (wl_in20 _ (List.mem_of_getElem? (i := 39) rfl)) rfl)⟩, tbm (wl_in20 _ (List.mem_of_getElem? (i := 40) rfl)) rfl, tbm (wl_in20 _ (List.mem_of_getElem? (i := 41) rfl)) rfl⟩
theorem m_L_166 : lmV RL 166 yX10_count 1 := ⟨⟨⟨ne_WineSpoonModel.1, ne_WineSpoonModel.2, pd__I_I_4⟩, tbm (wl_in0 _ (List.mem_of_getElem? (i := 11) rfl)) rfl, Or.inl (tbm (wl_in31 _ (List.mem_of_getElem? (i := 47) rfl)) rfl)⟩, tbm (wl_in31 _ (List.mem_of_getElem? (i := 48) rfl)) rfl, tbm (wl_in31 _ (List.mem_of_getElem? (i := 49) rfl)) rfl⟩
theorem m_L_167 : lmV RL 167 yX9_status 0 := ⟨⟨⟨ne_WineSpoon.1, ne_WineSpoon.2, pd___I_3⟩, tbm (wl_in0 _ (List.mem_of_getElem? (i := 1) rfl)) rfl, Or.inl (tbm (wl_in20 _ (List.mem_of_getElem? (i := 43) rfl)) rfl)⟩, tbm (wl_in20 _ (List.mem_of_getElem? (i := 44) rfl)) rfl, tbm (wl_in20 _ (List.mem_of_getElem? (i := 45) rfl)) rfl⟩
theorem m_L_170 : lmV RL 170 yX10_status 0 := ⟨⟨⟨ne_WineSpoonModel.1, ne_WineSpoonModel.2, pd___I_3⟩, tbm (wl_in0 _ (List.mem_of_getElem? (i := 11) rfl)) rfl, Or.inl (tbm (wl_in32 _ (List.mem_of_getElem? (i := 2) rfl)) rfl)⟩, tbm (wl_in32 _ (List.mem_of_getElem? (i := 3) rfl)) rfl, tbm (wl_in32 _ (List.mem_of_getElem? (i := 4) rfl)) rfl⟩
theorem w_X9_glass : Cond.code yX9_glass cX9_glass 2 (some .int) ∈ tb := tbm (wl_in7 _ (List.mem_of_getElem? (i := 18) rfl)) rfl
theorem w_X10_glass : Cond.code yX10_glass cX10_glass 3 (some .int) ∈ tb := tbm (wl_in24 _ (List.mem_of_getElem? (i := 8) rfl)) rfl
theorem w_X9_of : Cond.code yX9_of cX9_of 3 (some .int) ∈ tb := tbm (wl_in8 _ (List.mem_of_getElem? (i := 4) rfl)) rfl
theorem w_X10_of : Cond.code yX10_of cX10_of 3 (some .int) ∈ tb := tbm (wl_in24 _ (List.mem_of_getElem? (i := 16) rfl)) rfl
theorem w_X9_part : Cond.code yX9_part cX9_part 3 (some .long) ∈ tb := tbm (wl_in8 _ (List.mem_of_getElem? (i := 17) rfl)) rfl
theorem w_X10_part : Cond.code yX10_part cX10_part 3 (some .long) ∈ tb := tbm (wl_in24 _ (List.mem_of_getElem? (i := 28) rfl)) rfl
theorem w_X9_lower : Cond.code yX9_lower cX9_lower 1 (some .long) ∈ tb := tbm (wl_in8 _ (List.mem_of_getElem? (i := 29) rfl)) rfl
theorem w_X10_lower : Cond.code yX10_lower cX10_lower 1 (some .long) ∈ tb := tbm (wl_in24 _ (List.mem_of_getElem? (i := 37) rfl)) rfl
theorem w_X9_taste : Cond.code yX9_taste cX9_taste 3 (some .int) ∈ tb := tbm (wl_in8 _ (List.mem_of_getElem? (i := 33) rfl)) rfl
theorem w_X10_taste : Cond.code yX10_taste cX10_taste 3 (some .int) ∈ tb := tbm (wl_in25 _ (List.mem_of_getElem? (i := 1) rfl)) rfl
theorem w_X9_fill : Cond.code yX9_fill cX9_fill 4 (some .int) ∈ tb := tbm (wl_in8 _ (List.mem_of_getElem? (i := 42) rfl)) rfl
theorem w_X10_fill : Cond.code yX10_fill cX10_fill 4 (some .int) ∈ tb := tbm (wl_in25 _ (List.mem_of_getElem? (i := 10) rfl)) rfl
theorem w_X9_spoon : Cond.code yX9_spoon cX9_spoon 4 (some .int) ∈ tb := tbm (wl_in9 _ (List.mem_of_getElem? (i := 8) rfl)) rfl
theorem w_X10_spoon : Cond.code yX10_spoon cX10_spoon 5 (some .int) ∈ tb := tbm (wl_in25 _ (List.mem_of_getElem? (i := 22) rfl)) rfl
theorem w_X9_lick : Cond.code yX9_lick cX9_lick 3 (some .int) ∈ tb := tbm (wl_in10 _ (List.mem_of_getElem? (i := 8) rfl)) rfl
theorem w_X10_lick : Cond.code yX10_lick cX10_lick 4 (some .int) ∈ tb := tbm (wl_in25 _ (List.mem_of_getElem? (i := 46) rfl)) rfl
theorem w_X9_empty : Cond.code yX9_empty cX9_empty 2 (some .int) ∈ tb := tbm (wl_in10 _ (List.mem_of_getElem? (i := 20) rfl)) rfl
theorem w_X10_empty : Cond.code yX10_empty cX10_empty 4 (some .int) ∈ tb := tbm (wl_in26 _ (List.mem_of_getElem? (i := 0) rfl)) rfl
theorem w_X9_feed : Cond.code yX9_feed cX9_feed 6 (some .int) ∈ tb := tbm (wl_in10 _ (List.mem_of_getElem? (i := 29) rfl)) rfl
theorem w_X10_feed : Cond.code yX10_feed cX10_feed 6 (some .int) ∈ tb := tbm (wl_in26 _ (List.mem_of_getElem? (i := 12) rfl)) rfl
theorem w_X9_end : Cond.code yX9_end cX9_end 2 (some .int) ∈ tb := tbm (wl_in10 _ (List.mem_of_getElem? (i := 37) rfl)) rfl
theorem w_X10_end : Cond.code yX10_end cX10_end 2 (some .int) ∈ tb := tbm (wl_in26 _ (List.mem_of_getElem? (i := 20) rfl)) rfl
theorem w_X9_row : Cond.code yX9_row cX9_row 2 (some .int) ∈ tb := tbm (wl_in10 _ (List.mem_of_getElem? (i := 41) rfl)) rfl
theorem w_X10_row : Cond.code yX10_row cX10_row 5 (some .int) ∈ tb := tbm (wl_in26 _ (List.mem_of_getElem? (i := 4) rfl)) rfl
theorem w_X9_spilt : Cond.code yX9_spilt cX9_spilt 1 (some .int) ∈ tb := tbm (wl_in10 _ (List.mem_of_getElem? (i := 49) rfl)) rfl
theorem w_X10_spilt : Cond.code yX10_spilt cX10_spilt 1 (some .int) ∈ tb := tbm (wl_in26 _ (List.mem_of_getElem? (i := 8) rfl)) rfl
theorem w_X9_evening : Cond.code yX9_evening cX9_evening 3 (some .int) ∈ tb := tbm (wl_in11 _ (List.mem_of_getElem? (i := 3) rfl)) rfl
theorem w_X10_evening : Cond.code yX10_evening cX10_evening 4 (some .int) ∈ tb := tbm (wl_in26 _ (List.mem_of_getElem? (i := 28) rfl)) rfl
theorem w_X9_fault : Cond.code yX9_fault cX9_fault 1 (some .int) ∈ tb := tbm (wl_in16 _ (List.mem_of_getElem? (i := 11) rfl)) rfl
theorem w_X10_fault : Cond.code yX10_fault cX10_fault 1 (some .int) ∈ tb := tbm (wl_in26 _ (List.mem_of_getElem? (i := 24) rfl)) rfl
theorem w_X9_stopped : Cond.code yX9_stopped cX9_stopped 1 (some .int) ∈ tb := tbm (wl_in16 _ (List.mem_of_getElem? (i := 15) rfl)) rfl
theorem w_X10_stopped : Cond.code yX10_stopped cX10_stopped 1 (some .int) ∈ tb := tbm (wl_in29 _ (List.mem_of_getElem? (i := 9) rfl)) rfl
theorem w_X9_alike : Cond.code yX9_alike cX9_alike 4 (some .int) ∈ tb := tbm (wl_in16 _ (List.mem_of_getElem? (i := 19) rfl)) rfl
theorem w_X10_alike : Cond.code yX10_alike cX10_alike 10 (some .int) ∈ tb := tbm (wl_in29 _ (List.mem_of_getElem? (i := 13) rfl)) rfl
theorem w_X9_both : Cond.code yX9_both cX9_both 5 (some .long) ∈ tb := tbm (wl_in16 _ (List.mem_of_getElem? (i := 28) rfl)) rfl
theorem w_X10_both : Cond.code yX10_both cX10_both 5 (some .long) ∈ tb := tbm (wl_in29 _ (List.mem_of_getElem? (i := 17) rfl)) rfl
theorem w_X9_rounds : Cond.code yX9_rounds cX9_rounds 5 (some .int) ∈ tb := tbm (wl_in16 _ (List.mem_of_getElem? (i := 45) rfl)) rfl
theorem w_X10_rounds : Cond.code yX10_rounds cX10_rounds 5 (some .int) ∈ tb := tbm (wl_in29 _ (List.mem_of_getElem? (i := 31) rfl)) rfl
theorem w_X9_size : Cond.code yX9_size cX9_size 2 (some .int) ∈ tb := tbm (wl_in17 _ (List.mem_of_getElem? (i := 0) rfl)) rfl
theorem w_X10_size : Cond.code yX10_size cX10_size 3 (some .int) ∈ tb := tbm (wl_in29 _ (List.mem_of_getElem? (i := 35) rfl)) rfl
theorem w_X9_wash : Cond.code yX9_wash cX9_wash 2 (some .int) ∈ tb := tbm (wl_in17 _ (List.mem_of_getElem? (i := 8) rfl)) rfl
theorem w_X10_wash : Cond.code yX10_wash cX10_wash 2 (some .int) ∈ tb := tbm (wl_in29 _ (List.mem_of_getElem? (i := 39) rfl)) rfl
theorem w_X9_reach : Cond.code yX9_reach cX9_reach 8 (some .int) ∈ tb := tbm (wl_in17 _ (List.mem_of_getElem? (i := 12) rfl)) rfl
theorem w_X10_reach : Cond.code yX10_reach cX10_reach 8 (some .int) ∈ tb := tbm (wl_in30 _ (List.mem_of_getElem? (i := 7) rfl)) rfl
theorem w_X9_tasting : Cond.code yX9_tasting cX9_tasting 4 (some .int) ∈ tb := tbm (wl_in18 _ (List.mem_of_getElem? (i := 5) rfl)) rfl
theorem w_X10_tasting : Cond.code yX10_tasting cX10_tasting 5 (some .int) ∈ tb := tbm (wl_in30 _ (List.mem_of_getElem? (i := 3) rfl)) rfl
theorem w_X9_fits : Cond.code yX9_fits cX9_fits 5 (some .int) ∈ tb := tbm (wl_in18 _ (List.mem_of_getElem? (i := 14) rfl)) rfl
theorem w_X10_fits : Cond.code yX10_fits cX10_fits 4 (some .int) ∈ tb := tbm (wl_in30 _ (List.mem_of_getElem? (i := 32) rfl)) rfl
theorem w_X9_cask : Cond.code yX9_cask cX9_cask 5 (some .long) ∈ tb := tbm (wl_in18 _ (List.mem_of_getElem? (i := 22) rfl)) rfl
theorem w_X10_cask : Cond.code yX10_cask cX10_cask 5 (some .long) ∈ tb := tbm (wl_in30 _ (List.mem_of_getElem? (i := 36) rfl)) rfl
theorem w_X9_guests : Cond.code yX9_guests cX9_guests 5 (some .int) ∈ tb := tbm (wl_in18 _ (List.mem_of_getElem? (i := 29) rfl)) rfl
theorem w_X10_guests : Cond.code yX10_guests cX10_guests 5 (some .int) ∈ tb := tbm (wl_in30 _ (List.mem_of_getElem? (i := 43) rfl)) rfl
theorem w_X9_rinse : Cond.code yX9_rinse cX9_rinse 11 (some .long) ∈ tb := tbm (wl_in18 _ (List.mem_of_getElem? (i := 33) rfl)) rfl
theorem w_X10_rinse : Cond.code yX10_rinse cX10_rinse 8 (some .long) ∈ tb := tbm (wl_in30 _ (List.mem_of_getElem? (i := 47) rfl)) rfl
theorem w_X9_wine : Cond.code yX9_wine cX9_wine 4 (some .int) ∈ tb := tbm (wl_in18 _ (List.mem_of_getElem? (i := 37) rfl)) rfl
theorem w_X10_wine : Cond.code yX10_wine cX10_wine 5 (some .int) ∈ tb := tbm (wl_in31 _ (List.mem_of_getElem? (i := 2) rfl)) rfl
theorem w_X9_drink : Cond.code yX9_drink cX9_drink 2 (some .int) ∈ tb := tbm (wl_in18 _ (List.mem_of_getElem? (i := 45) rfl)) rfl
theorem w_X10_drink : Cond.code yX10_drink cX10_drink 3 (some .int) ∈ tb := tbm (wl_in31 _ (List.mem_of_getElem? (i := 7) rfl)) rfl
theorem w_X9_mix : Cond.code yX9_mix cX9_mix 5 (some .int) ∈ tb := tbm (wl_in19 _ (List.mem_of_getElem? (i := 3) rfl)) rfl
theorem w_X10_mix : Cond.code yX10_mix cX10_mix 9 (some .int) ∈ tb := tbm (wl_in31 _ (List.mem_of_getElem? (i := 11) rfl)) rfl
theorem w_X9_cards : Cond.code yX9_cards cX9_cards 8 (some .long) ∈ tb := tbm (wl_in19 _ (List.mem_of_getElem? (i := 33) rfl)) rfl
theorem w_X10_cards : Cond.code yX10_cards cX10_cards 6 (some .long) ∈ tb := tbm (wl_in31 _ (List.mem_of_getElem? (i := 28) rfl)) rfl
theorem w_X9_night : Cond.code yX9_night cX9_night 3 (some .int) ∈ tb := tbm (wl_in20 _ (List.mem_of_getElem? (i := 0) rfl)) rfl
theorem w_X10_night : Cond.code yX10_night cX10_night 7 (some .int) ∈ tb := tbm (wl_in31 _ (List.mem_of_getElem? (i := 35) rfl)) rfl
theorem w_X9_drawn : Cond.code yX9_drawn cX9_drawn 3 (some .int) ∈ tb := tbm (wl_in20 _ (List.mem_of_getElem? (i := 16) rfl)) rfl
theorem w_X10_drawn : Cond.code yX10_drawn cX10_drawn 3 (some .int) ∈ tb := tbm (wl_in31 _ (List.mem_of_getElem? (i := 46) rfl)) rfl
theorem w_X9_image : Cond.code yX9_image cX9_image 2 (some .int) ∈ tb := tbm (wl_in20 _ (List.mem_of_getElem? (i := 20) rfl)) rfl
theorem w_X10_image : Cond.code yX10_image cX10_image 3 (some .int) ∈ tb := tbm (wl_in23 _ (List.mem_of_getElem? (i := 43) rfl)) rfl
theorem w_X9_back : Cond.code yX9_back cX9_back 2 (some .int) ∈ tb := tbm (wl_in20 _ (List.mem_of_getElem? (i := 34) rfl)) rfl
theorem w_X10_back : Cond.code yX10_back cX10_back 3 (some .int) ∈ tb := tbm (wl_in24 _ (List.mem_of_getElem? (i := 4) rfl)) rfl
theorem w_X9_count : Cond.code yX9_count cX9_count 2 (some .int) ∈ tb := tbm (wl_in20 _ (List.mem_of_getElem? (i := 42) rfl)) rfl
theorem w_X10_count : Cond.code yX10_count cX10_count 2 (some .int) ∈ tb := tbm (wl_in32 _ (List.mem_of_getElem? (i := 0) rfl)) rfl
theorem w_X9_status : Cond.code yX9_status cX9_status 1 (some .int) ∈ tb := tbm (wl_in20 _ (List.mem_of_getElem? (i := 46) rfl)) rfl
theorem w_X10_status : Cond.code yX10_status cX10_status 1 (some .int) ∈ tb := tbm (wl_in32 _ (List.mem_of_getElem? (i := 5) rfl)) rfl
theorem w_X9_init : Cond.code yX9_init cX9_init 2 none ∈ tb := tbm (wl_in0 _ (List.mem_of_getElem? (i := 22) rfl)) rfl
theorem w_X10_init : Cond.code yX10_init cX10_init 1 none ∈ tb := tbm (wl_in21 _ (List.mem_of_getElem? (i := 1) rfl)) rfl
theorem cl_L_7 : Cond.classLink RL 7 RX9 ∈ tb := tbm (wl_in0 _ (List.mem_of_getElem? (i := 18) rfl)) rfl
theorem in_X9 : Cond.instantiable RX9 14 ∈ tb := tbm (wl_in0 _ (List.mem_of_getElem? (i := 19) rfl)) rfl
theorem ii_X9 : Cond.initialized RX9 ∈ tb := tbm (wl_in0 _ (List.mem_of_getElem? (i := 1) rfl)) rfl
theorem df_X9 : ∀ j, j < 14 → defaultValue (tyX9 j) = vp_V [.null, .null, .null, .null, .null, .null, .null, .null, .null, .null, vi 0, vi 0, vi 0, vi 0] j := by decide +kernel
theorem cl_L_10 : Cond.classLink RL 10 RX10 ∈ tb := tbm (wl_in20 _ (List.mem_of_getElem? (i := 47) rfl)) rfl
theorem in_X10 : Cond.instantiable RX10 45 ∈ tb := tbm (wl_in20 _ (List.mem_of_getElem? (i := 48) rfl)) rfl
theorem ii_X10 : Cond.initialized RX10 ∈ tb := tbm (wl_in0 _ (List.mem_of_getElem? (i := 11) rfl)) rfl
theorem df_X10 : ∀ j, j < 45 → defaultValue (tyX10 j) = vp_V [vi 0, vi 0, .null, .null, .null, .null, .null, .null, .null, .null, vi 0, .null, vi 0, vi 0, vi 0, vi 0, vl 0, vi 0, vi 0, vi 0, .null, vi 0, .null, .null, vi 0, .null, .null, vi 0, vi 0, .null, vi 0, vl 0, vi 0, vi 0, .null, .null, vi 0, vi 0, vi 0, vi 0, vi 0, .null, vl 0, .null, vi 0] j := by decide +kernel
theorem li_L_9 : lmI RL 9 yX9_init := ⟨⟨by decide +kernel, by decide +kernel, by decide +kernel⟩, ii_X9, Or.inl (tbm (wl_in0 _ (List.mem_of_getElem? (i := 20) rfl)) rfl), rfl, tbm (wl_in0 _ (List.mem_of_getElem? (i := 21) rfl)) rfl⟩
theorem li_L_12 : lmI RL 12 yX10_init := ⟨⟨by decide +kernel, by decide +kernel, by decide +kernel⟩, ii_X10, Or.inl (tbm (wl_in20 _ (List.mem_of_getElem? (i := 49) rfl)) rfl), rfl, tbm (wl_in21 _ (List.mem_of_getElem? (i := 0) rfl)) rfl⟩
