theorem k_X10_382 : Cond.constantLong RX10 382 (Int64.ofInt 99) ∈ tb := tbm (wl_in31 _ (List.mem_of_getElem? (i := 3) rfl)) rfl
theorem k_X10_380 : Cond.constantLong RX10 380 (Int64.ofInt 9) ∈ tb := tbm (wl_in30 _ (List.mem_of_getElem? (i := 48) rfl)) rfl
theorem f_X10_399 : fl RX10 399 10 42 := ⟨_, rfl, by decide, Or.inl (tbm (wl_in21 _ (List.mem_of_getElem? (i := 46) rfl)) rfl)⟩
theorem k_X10_402 : Cond.constantLong RX10 402 (Int64.ofInt 1103) ∈ tb := tbm (wl_in31 _ (List.mem_of_getElem? (i := 40) rfl)) rfl
theorem k_X10_404 : Cond.constantLong RX10 404 (Int64.ofInt 12345) ∈ tb := tbm (wl_in31 _ (List.mem_of_getElem? (i := 41) rfl)) rfl
theorem k_X10_406 : Cond.constantLong RX10 406 (Int64.ofInt 1000003) ∈ tb := tbm (wl_in31 _ (List.mem_of_getElem? (i := 42) rfl)) rfl
theorem p_X10_399 : pl RX10 399 10 42 .long := ⟨_, rfl, by decide, Or.inl (tbm (wl_in21 _ (List.mem_of_getElem? (i := 46) rfl)) rfl), rfl, by decide +kernel⟩
theorem fi_35 : ∀ c : Nat, (fun c => c = 97 ∨ c = 98) c → (fun c => c = 97 ∨ c = 98 ∨ c = 101 ∨ c = 104 ∨ c = 105 ∨ c = 116) c := by
  intro c z
  first | omega | (dsimp only at z ⊢; omega)
theorem p_X10_411 : pl RX10 411 10 44 .int := ⟨_, rfl, by decide, Or.inl (tbm (wl_in21 _ (List.mem_of_getElem? (i := 48) rfl)) rfl), rfl, by decide +kernel⟩
theorem m_X10_408 : lmV RX10 408 yX10_draw 1 := ⟨⟨⟨ne_WineSpoonModel.1, ne_WineSpoonModel.2, pd__I_I_4⟩, tbm (wl_in0 _ (List.mem_of_getElem? (i := 11) rfl)) rfl, Or.inl (tbm (wl_in31 _ (List.mem_of_getElem? (i := 36) rfl)) rfl)⟩, tbm (wl_in31 _ (List.mem_of_getElem? (i := 38) rfl)) rfl, tbm (List.mem_of_getElem? (i := 94) rfl) rfl⟩
theorem fi_36 : ∀ c : Nat, (fun c => c = 97) c → (fun c => c = 97 ∨ c = 98 ∨ c = 101 ∨ c = 104 ∨ c = 105 ∨ c = 116) c := by
  intro c z
  first | omega | (dsimp only at z ⊢; omega)
theorem fi_37 : ∀ c : Nat, (fun c => c = 101 ∨ c = 104 ∨ c = 105) c → (fun c => c = 97 ∨ c = 98 ∨ c = 101 ∨ c = 104 ∨ c = 105 ∨ c = 116) c := by
  intro c z
  first | omega | (dsimp only at z ⊢; omega)
theorem k_X10_181 : Cond.constantLong RX10 181 (Int64.ofInt 1000000) ∈ tb := tbm (wl_in26 _ (List.mem_of_getElem? (i := 45) rfl)) rfl
theorem w_X10_draw : Cond.code yX10_draw cX10_draw 2 (some .int) ∈ tb := tbm (wl_in31 _ (List.mem_of_getElem? (i := 39) rfl)) rfl
