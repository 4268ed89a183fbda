theorem p_X10_77 : pl RX10 77 10 0 .int := ⟨_, rfl, by decide, Or.inl (tbm (wl_in21 _ (List.mem_of_getElem? (i := 4) rfl)) rfl), rfl, by decide +kernel⟩
theorem m_X10_95 : lmS RX10 95 yX10_isAmount 1 := ⟨⟨⟨ne_WineSpoonModel.1, ne_WineSpoonModel.2, pd__I_Z_4⟩, tbm (wl_in0 _ (List.mem_of_getElem? (i := 11) rfl)) rfl, Or.inl (tbm (wl_in24 _ (List.mem_of_getElem? (i := 9) rfl)) rfl)⟩, tbm (wl_in24 _ (List.mem_of_getElem? (i := 10) rfl)) rfl⟩
theorem m_X10_87 : lmV RX10 87 yX10_tell 1 := ⟨⟨⟨ne_WineSpoonModel.1, ne_WineSpoonModel.2, pd__I_I_4⟩, tbm (wl_in0 _ (List.mem_of_getElem? (i := 11) rfl)) rfl, Or.inl (tbm (wl_in23 _ (List.mem_of_getElem? (i := 47) rfl)) rfl)⟩, tbm (wl_in23 _ (List.mem_of_getElem? (i := 49) rfl)) rfl, tbm (List.mem_of_getElem? (i := 53) rfl) rfl⟩
theorem fi_30 : ∀ c : Nat, (fun c => c = 97 ∨ c = 98) c → (fun c => c = 97 ∨ c = 98 ∨ c = 99) c := by
  intro c z
  first | omega | (dsimp only at z ⊢; omega)
theorem m_X10_102 : lmV RX10 102 yX10_isGlass 1 := ⟨⟨⟨ne_WineSpoonModel.1, ne_WineSpoonModel.2, pd__I_Z_4⟩, tbm (wl_in0 _ (List.mem_of_getElem? (i := 11) rfl)) rfl, Or.inl (tbm (wl_in24 _ (List.mem_of_getElem? (i := 17) rfl)) rfl)⟩, tbm (wl_in24 _ (List.mem_of_getElem? (i := 19) rfl)) rfl, tbm (List.mem_of_getElem? (i := 54) rfl) rfl⟩
theorem k_X10_108 : Cond.constantLong RX10 108 (Int64.ofInt (-1)) ∈ tb := tbm (wl_in24 _ (List.mem_of_getElem? (i := 33) rfl)) rfl
theorem m_X10_105 : lmS RX10 105 yX10_isStuff 1 := ⟨⟨⟨ne_WineSpoonModel.1, ne_WineSpoonModel.2, pd__I_Z_4⟩, tbm (wl_in0 _ (List.mem_of_getElem? (i := 11) rfl)) rfl, Or.inl (tbm (wl_in24 _ (List.mem_of_getElem? (i := 29) rfl)) rfl)⟩, tbm (wl_in24 _ (List.mem_of_getElem? (i := 30) rfl)) rfl⟩
theorem m_X10_112 : lmV RX10 112 yX10_tasteOf 2 := ⟨⟨⟨ne_WineSpoonModel.1, ne_WineSpoonModel.2, pd__II_I_5⟩, tbm (wl_in0 _ (List.mem_of_getElem? (i := 11) rfl)) rfl, Or.inl (tbm (wl_in25 _ (List.mem_of_getElem? (i := 2) rfl)) rfl)⟩, tbm (wl_in25 _ (List.mem_of_getElem? (i := 4) rfl)) rfl, tbm (List.mem_of_getElem? (i := 56) rfl) rfl⟩
theorem fi_31 : ∀ c : Nat, (fun c => c = 97 ∨ c = 98) c → (fun c => c = 97 ∨ c = 98 ∨ c = 101) c := by
  intro c z
  first | omega | (dsimp only at z ⊢; omega)
theorem m_X10_135 : lmV RX10 135 yX10_filled 3 := ⟨⟨⟨ne_WineSpoonModel.1, ne_WineSpoonModel.2, pd__III_I_6⟩, tbm (wl_in0 _ (List.mem_of_getElem? (i := 11) rfl)) rfl, Or.inl (tbm (wl_in25 _ (List.mem_of_getElem? (i := 11) rfl)) rfl)⟩, tbm (wl_in25 _ (List.mem_of_getElem? (i := 13) rfl)) rfl, tbm (List.mem_of_getElem? (i := 57) rfl) rfl⟩
theorem fi_32 : ∀ c : Nat, (fun c => c = 101) c → (fun c => c = 97 ∨ c = 98 ∨ c = 101) c := by
  intro c z
  first | omega | (dsimp only at z ⊢; omega)
theorem fi_33 : ∀ c : Nat, (fun c => c = 97 ∨ c = 98) c → (fun c => c = 97 ∨ c = 98 ∨ c = 101 ∨ c = 104 ∨ c = 105) c := by
  intro c z
  first | omega | (dsimp only at z ⊢; omega)
theorem m_X10_139 : lmV RX10 139 yX10_spooned 3 := ⟨⟨⟨ne_WineSpoonModel.1, ne_WineSpoonModel.2, pd__III_I_6⟩, tbm (wl_in0 _ (List.mem_of_getElem? (i := 11) rfl)) rfl, Or.inl (tbm (wl_in25 _ (List.mem_of_getElem? (i := 23) rfl)) rfl)⟩, tbm (wl_in25 _ (List.mem_of_getElem? (i := 25) rfl)) rfl, tbm (List.mem_of_getElem? (i := 59) rfl) rfl⟩
theorem fi_34 : ∀ c : Nat, (fun c => c = 101 ∨ c = 104 ∨ c = 105) c → (fun c => c = 97 ∨ c = 98 ∨ c = 101 ∨ c = 104 ∨ c = 105) c := by
  intro c z
  first | omega | (dsimp only at z ⊢; omega)
theorem f_X10_145 : fl RX10 145 10 10 := ⟨_, rfl, by decide, Or.inl (tbm (wl_in21 _ (List.mem_of_getElem? (i := 14) rfl)) rfl)⟩
theorem f_X10_39 : fl RX10 39 10 17 := ⟨_, rfl, by decide, Or.inl (tbm (wl_in21 _ (List.mem_of_getElem? (i := 21) rfl)) rfl)⟩
theorem f_X10_61 : fl RX10 61 10 33 := ⟨_, rfl, by decide, Or.inl (tbm (wl_in21 _ (List.mem_of_getElem? (i := 37) rfl)) rfl)⟩
theorem f_X10_80 : fl RX10 80 10 1 := ⟨_, rfl, by decide, Or.inl (tbm (wl_in21 _ (List.mem_of_getElem? (i := 5) rfl)) rfl)⟩
theorem f_X10_142 : fl RX10 142 10 12 := ⟨_, rfl, by decide, Or.inl (tbm (wl_in21 _ (List.mem_of_getElem? (i := 16) rfl)) rfl)⟩
theorem p_X10_142 : pl RX10 142 10 12 .int := ⟨_, rfl, by decide, Or.inl (tbm (wl_in21 _ (List.mem_of_getElem? (i := 16) rfl)) rfl), rfl, by decide +kernel⟩
theorem f_X10_36 : fl RX10 36 10 11 := ⟨_, rfl, by decide, Or.inl (tbm (wl_in21 _ (List.mem_of_getElem? (i := 15) rfl)) rfl)⟩
theorem m_X10_148 : lmV RX10 148 yX10_four 1 := ⟨⟨⟨ne_WineSpoonModel.1, ne_WineSpoonModel.2, pd__I_V_4⟩, tbm (wl_in0 _ (List.mem_of_getElem? (i := 11) rfl)) rfl, Or.inl (tbm (wl_in26 _ (List.mem_of_getElem? (i := 13) rfl)) rfl)⟩, tbm (wl_in26 _ (List.mem_of_getElem? (i := 15) rfl)) rfl, tbm (List.mem_of_getElem? (i := 63) rfl) rfl⟩
theorem p_X10_145 : pl RX10 145 10 10 .int := ⟨_, rfl, by decide, Or.inl (tbm (wl_in21 _ (List.mem_of_getElem? (i := 14) rfl)) rfl), rfl, by decide +kernel⟩
theorem m_X10_331 : lmS RX10 331 yX10_areBoth 2 := ⟨⟨⟨ne_WineSpoonModel.1, ne_WineSpoonModel.2, pd__II_Z_5⟩, tbm (wl_in0 _ (List.mem_of_getElem? (i := 11) rfl)) rfl, Or.inl (tbm (wl_in29 _ (List.mem_of_getElem? (i := 18) rfl)) rfl)⟩, tbm (wl_in29 _ (List.mem_of_getElem? (i := 19) rfl)) rfl⟩
theorem k_X10_335 : Cond.constantLong RX10 335 (Int64.ofInt 6) ∈ tb := tbm (wl_in29 _ (List.mem_of_getElem? (i := 21) rfl)) rfl
theorem m_X10_337 : lmS RX10 337 yX10_power 2 := ⟨⟨⟨ne_WineSpoonModel.1, ne_WineSpoonModel.2, pd__JI_J_5⟩, tbm (wl_in0 _ (List.mem_of_getElem? (i := 11) rfl)) rfl, Or.inl (tbm (wl_in29 _ (List.mem_of_getElem? (i := 22) rfl)) rfl)⟩, tbm (wl_in29 _ (List.mem_of_getElem? (i := 23) rfl)) rfl⟩
theorem m_X10_341 : lmS RX10 341 yX10_lowest 3 := ⟨⟨⟨ne_WineSpoonModel.1, ne_WineSpoonModel.2, pd__JJI_J_6⟩, tbm (wl_in0 _ (List.mem_of_getElem? (i := 11) rfl)) rfl, Or.inl (tbm (wl_in29 _ (List.mem_of_getElem? (i := 25) rfl)) rfl)⟩, tbm (wl_in29 _ (List.mem_of_getElem? (i := 26) rfl)) rfl⟩
theorem m_X10_377 : lmS RX10 377 yX10_isCask 2 := ⟨⟨⟨ne_WineSpoonModel.1, ne_WineSpoonModel.2, pd__II_Z_5⟩, tbm (wl_in0 _ (List.mem_of_getElem? (i := 11) rfl)) rfl, Or.inl (tbm (wl_in30 _ (List.mem_of_getElem? (i := 37) rfl)) rfl)⟩, tbm (wl_in30 _ (List.mem_of_getElem? (i := 38) rfl)) rfl⟩
theorem k_X10_204 : Cond.constantLong RX10 204 (Int64.ofInt 20) ∈ tb := tbm (wl_in28 _ (List.mem_of_getElem? (i := 24) rfl)) rfl
theorem m_X10_396 : lmS RX10 396 yX10_choose 2 := ⟨⟨⟨ne_WineSpoonModel.1, ne_WineSpoonModel.2, pd__II_J_5⟩, tbm (wl_in0 _ (List.mem_of_getElem? (i := 11) rfl)) rfl, Or.inl (tbm (wl_in31 _ (List.mem_of_getElem? (i := 29) rfl)) rfl)⟩, tbm (wl_in31 _ (List.mem_of_getElem? (i := 30) rfl)) rfl⟩
theorem f_X10_411 : fl RX10 411 10 44 := ⟨_, rfl, by decide, Or.inl (tbm (wl_in21 _ (List.mem_of_getElem? (i := 48) rfl)) rfl)⟩
theorem f_X10_74 : fl RX10 74 10 43 := ⟨_, rfl, by decide, Or.inl (tbm (wl_in21 _ (List.mem_of_getElem? (i := 47) rfl)) rfl)⟩
theorem k_X10_183 : Cond.constantLong RX10 183 (Int64.ofInt 10) ∈ tb := tbm (wl_in26 _ (List.mem_of_getElem? (i := 46) rfl)) rfl
theorem k_X10_414 : Cond.constantLong RX10 414 (Int64.ofInt 12) ∈ tb := tbm (wl_in32 _ (List.mem_of_getElem? (i := 1) rfl)) rfl
theorem w_X10_isAmount : Cond.code yX10_isAmount cX10_isAmount 1 (some .boolean) ∈ tb := tbm (wl_in24 _ (List.mem_of_getElem? (i := 11) rfl)) rfl
theorem w_X10_tell : Cond.code yX10_tell cX10_tell 2 (some .int) ∈ tb := tbm (wl_in24 _ (List.mem_of_getElem? (i := 0) rfl)) rfl
theorem w_X10_isGlass : Cond.code yX10_isGlass cX10_isGlass 2 (some .boolean) ∈ tb := tbm (wl_in24 _ (List.mem_of_getElem? (i := 20) rfl)) rfl
theorem w_X10_isStuff : Cond.code yX10_isStuff cX10_isStuff 1 (some .boolean) ∈ tb := tbm (wl_in24 _ (List.mem_of_getElem? (i := 31) rfl)) rfl
theorem w_X10_tasteOf : Cond.code yX10_tasteOf cX10_tasteOf 4 (some .int) ∈ tb := tbm (wl_in25 _ (List.mem_of_getElem? (i := 5) rfl)) rfl
theorem w_X10_filled : Cond.code yX10_filled cX10_filled 4 (some .int) ∈ tb := tbm (wl_in25 _ (List.mem_of_getElem? (i := 14) rfl)) rfl
theorem w_X10_spooned : Cond.code yX10_spooned cX10_spooned 6 (some .int) ∈ tb := tbm (wl_in25 _ (List.mem_of_getElem? (i := 26) rfl)) rfl
theorem w_X10_four : Cond.code yX10_four cX10_four 3 none ∈ tb := tbm (wl_in26 _ (List.mem_of_getElem? (i := 16) rfl)) rfl
theorem w_X10_areBoth : Cond.code yX10_areBoth cX10_areBoth 2 (some .boolean) ∈ tb := tbm (wl_in29 _ (List.mem_of_getElem? (i := 20) rfl)) rfl
theorem w_X10_power : Cond.code yX10_power cX10_power 6 (some .long) ∈ tb := tbm (wl_in29 _ (List.mem_of_getElem? (i := 24) rfl)) rfl
theorem w_X10_lowest : Cond.code yX10_lowest cX10_lowest 7 (some .long) ∈ tb := tbm (wl_in29 _ (List.mem_of_getElem? (i := 27) rfl)) rfl
theorem w_X10_isCask : Cond.code yX10_isCask cX10_isCask 2 (some .boolean) ∈ tb := tbm (wl_in30 _ (List.mem_of_getElem? (i := 39) rfl)) rfl
theorem w_X10_choose : Cond.code yX10_choose cX10_choose 5 (some .long) ∈ tb := tbm (wl_in31 _ (List.mem_of_getElem? (i := 31) rfl)) rfl
