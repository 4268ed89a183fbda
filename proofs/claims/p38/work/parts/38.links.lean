theorem k_X10_384 : Cond.constant RX10 384 (Int32.ofInt 42021) ∈ tb := tbm (wl_in31 _ (List.mem_of_getElem? (i := 19) rfl)) rfl
theorem f_X10_71 : fl RX10 71 10 41 := ⟨_, rfl, by decide, Or.inl (tbm (wl_in21 _ (List.mem_of_getElem? (i := 45) rfl)) rfl)⟩
theorem m_X10_385 : lmS RX10 385 yX10_at 3 := ⟨⟨⟨ne_WineSpoonModel.1, ne_WineSpoonModel.2, pd__III_I_6⟩, tbm (wl_in0 _ (List.mem_of_getElem? (i := 11) rfl)) rfl, Or.inl (tbm (wl_in31 _ (List.mem_of_getElem? (i := 16) rfl)) rfl)⟩, tbm (wl_in31 _ (List.mem_of_getElem? (i := 17) rfl)) rfl⟩
theorem k_X10_388 : Cond.constant RX10 388 (Int32.ofInt 1000000) ∈ tb := tbm (wl_in31 _ (List.mem_of_getElem? (i := 20) rfl)) rfl
theorem m_X10_392 : lmV RX10 392 yX10_isLeast 4 := ⟨⟨⟨ne_WineSpoonModel.1, ne_WineSpoonModel.2, pd__IIII_Z_7⟩, tbm (wl_in0 _ (List.mem_of_getElem? (i := 11) rfl)) rfl, Or.inl (tbm (wl_in31 _ (List.mem_of_getElem? (i := 21) rfl)) rfl)⟩, tbm (wl_in31 _ (List.mem_of_getElem? (i := 23) rfl)) rfl, tbm (List.mem_of_getElem? (i := 93) rfl) rfl⟩
theorem m_X10_389 : lmV RX10 389 yX10_findMixes 1 := ⟨⟨⟨ne_WineSpoonModel.1, ne_WineSpoonModel.2, pd__I_V_4⟩, tbm (wl_in0 _ (List.mem_of_getElem? (i := 11) rfl)) rfl, Or.inl (tbm (wl_in31 _ (List.mem_of_getElem? (i := 12) rfl)) rfl)⟩, tbm (wl_in31 _ (List.mem_of_getElem? (i := 14) rfl)) rfl, tbm (List.mem_of_getElem? (i := 92) rfl) rfl⟩
theorem fi_42 : ∀ c : Nat, (fun c => c = 115) c → (fun c => c = 97 ∨ c = 115) c := by
  intro c z
  first | omega | (dsimp only at z ⊢; omega)
theorem w_X10_at : Cond.code yX10_at cX10_at 3 (some .int) ∈ tb := tbm (wl_in31 _ (List.mem_of_getElem? (i := 18) rfl)) rfl
theorem w_X10_isLeast : Cond.code yX10_isLeast cX10_isLeast 6 (some .boolean) ∈ tb := tbm (wl_in31 _ (List.mem_of_getElem? (i := 24) rfl)) rfl
theorem w_X10_findMixes : Cond.code yX10_findMixes cX10_findMixes 10 none ∈ tb := tbm (wl_in31 _ (List.mem_of_getElem? (i := 15) rfl)) rfl
