theorem f_X10_345 : fl RX10 345 10 37 := ⟨_, rfl, by decide, Or.inl (tbm (wl_in21 _ (List.mem_of_getElem? (i := 41) rfl)) rfl)⟩
theorem f_X10_348 : fl RX10 348 10 38 := ⟨_, rfl, by decide, Or.inl (tbm (wl_in21 _ (List.mem_of_getElem? (i := 42) rfl)) rfl)⟩
theorem f_X10_351 : fl RX10 351 10 39 := ⟨_, rfl, by decide, Or.inl (tbm (wl_in21 _ (List.mem_of_getElem? (i := 43) rfl)) rfl)⟩
theorem f_X10_354 : fl RX10 354 10 40 := ⟨_, rfl, by decide, Or.inl (tbm (wl_in21 _ (List.mem_of_getElem? (i := 44) rfl)) rfl)⟩
theorem f_X10_357 : fl RX10 357 10 36 := ⟨_, rfl, by decide, Or.inl (tbm (wl_in21 _ (List.mem_of_getElem? (i := 40) rfl)) rfl)⟩
theorem p_X10_357 : pl RX10 357 10 36 .int := ⟨_, rfl, by decide, Or.inl (tbm (wl_in21 _ (List.mem_of_getElem? (i := 40) rfl)) rfl), rfl, by decide +kernel⟩
theorem f_X10_67 : fl RX10 67 10 35 := ⟨_, rfl, by decide, Or.inl (tbm (wl_in21 _ (List.mem_of_getElem? (i := 39) rfl)) rfl)⟩
theorem f_X10_64 : fl RX10 64 10 34 := ⟨_, rfl, by decide, Or.inl (tbm (wl_in21 _ (List.mem_of_getElem? (i := 38) rfl)) rfl)⟩
theorem m_X10_363 : lmV RX10 363 yX10_goes 1 := ⟨⟨⟨ne_WineSpoonModel.1, ne_WineSpoonModel.2, pd__I_Z_4⟩, tbm (wl_in0 _ (List.mem_of_getElem? (i := 11) rfl)) rfl, Or.inl (tbm (wl_in30 _ (List.mem_of_getElem? (i := 17) rfl)) rfl)⟩, tbm (wl_in30 _ (List.mem_of_getElem? (i := 19) rfl)) rfl, tbm (List.mem_of_getElem? (i := 89) rfl) rfl⟩
theorem fi_40 : ∀ c : Nat, (fun c => c = 101 ∨ c = 104 ∨ c = 105) c → (fun c => c = 97 ∨ c = 101 ∨ c = 104 ∨ c = 105 ∨ c = 113 ∨ c = 114) c := by
  intro c z
  first | omega | (dsimp only at z ⊢; omega)
theorem m_X10_360 : lmV RX10 360 yX10_isWish 0 := ⟨⟨⟨ne_WineSpoonModel.1, ne_WineSpoonModel.2, pd___Z_3⟩, tbm (wl_in0 _ (List.mem_of_getElem? (i := 11) rfl)) rfl, Or.inl (tbm (wl_in30 _ (List.mem_of_getElem? (i := 13) rfl)) rfl)⟩, tbm (wl_in30 _ (List.mem_of_getElem? (i := 15) rfl)) rfl, tbm (List.mem_of_getElem? (i := 88) rfl) rfl⟩
theorem m_X10_366 : lmV RX10 366 yX10_keepFirst 1 := ⟨⟨⟨ne_WineSpoonModel.1, ne_WineSpoonModel.2, pd__I_V_4⟩, tbm (wl_in0 _ (List.mem_of_getElem? (i := 11) rfl)) rfl, Or.inl (tbm (wl_in30 _ (List.mem_of_getElem? (i := 21) rfl)) rfl)⟩, tbm (wl_in30 _ (List.mem_of_getElem? (i := 23) rfl)) rfl, tbm (List.mem_of_getElem? (i := 90) rfl) rfl⟩
theorem fi_41 : ∀ c : Nat, (fun c => c = 97 ∨ c = 114) c → (fun c => c = 97 ∨ c = 101 ∨ c = 104 ∨ c = 105 ∨ c = 113 ∨ c = 114) c := by
  intro c z
  first | omega | (dsimp only at z ⊢; omega)
theorem m_X10_374 : lmV RX10 374 yX10_ofMove 2 := ⟨⟨⟨ne_WineSpoonModel.1, ne_WineSpoonModel.2, pd__II_I_5⟩, tbm (wl_in0 _ (List.mem_of_getElem? (i := 11) rfl)) rfl, Or.inl (tbm (wl_in30 _ (List.mem_of_getElem? (i := 25) rfl)) rfl)⟩, tbm (wl_in30 _ (List.mem_of_getElem? (i := 27) rfl)) rfl, tbm (List.mem_of_getElem? (i := 91) rfl) rfl⟩
theorem m_X10_371 : lmV RX10 371 yX10_goThrough 1 := ⟨⟨⟨ne_WineSpoonModel.1, ne_WineSpoonModel.2, pd__I_V_4⟩, tbm (wl_in0 _ (List.mem_of_getElem? (i := 11) rfl)) rfl, Or.inl (tbm (wl_in30 _ (List.mem_of_getElem? (i := 9) rfl)) rfl)⟩, tbm (wl_in30 _ (List.mem_of_getElem? (i := 11) rfl)) rfl, tbm (List.mem_of_getElem? (i := 87) rfl) rfl⟩
theorem k_X10_369 : Cond.constantLong RX10 369 (Int64.ofInt 2) ∈ tb := tbm (wl_in30 _ (List.mem_of_getElem? (i := 8) rfl)) rfl
theorem p_X10_345 : pl RX10 345 10 37 .int := ⟨_, rfl, by decide, Or.inl (tbm (wl_in21 _ (List.mem_of_getElem? (i := 41) rfl)) rfl), rfl, by decide +kernel⟩
theorem p_X10_348 : pl RX10 348 10 38 .int := ⟨_, rfl, by decide, Or.inl (tbm (wl_in21 _ (List.mem_of_getElem? (i := 42) rfl)) rfl), rfl, by decide +kernel⟩
theorem p_X10_351 : pl RX10 351 10 39 .int := ⟨_, rfl, by decide, Or.inl (tbm (wl_in21 _ (List.mem_of_getElem? (i := 43) rfl)) rfl), rfl, by decide +kernel⟩
theorem p_X10_354 : pl RX10 354 10 40 .int := ⟨_, rfl, by decide, Or.inl (tbm (wl_in21 _ (List.mem_of_getElem? (i := 44) rfl)) rfl), rfl, by decide +kernel⟩
theorem w_X10_goes : Cond.code yX10_goes cX10_goes 4 (some .boolean) ∈ tb := tbm (wl_in30 _ (List.mem_of_getElem? (i := 20) rfl)) rfl
theorem w_X10_isWish : Cond.code yX10_isWish cX10_isWish 5 (some .boolean) ∈ tb := tbm (wl_in30 _ (List.mem_of_getElem? (i := 16) rfl)) rfl
theorem w_X10_keepFirst : Cond.code yX10_keepFirst cX10_keepFirst 3 none ∈ tb := tbm (wl_in30 _ (List.mem_of_getElem? (i := 24) rfl)) rfl
theorem w_X10_ofMove : Cond.code yX10_ofMove cX10_ofMove 3 (some .int) ∈ tb := tbm (wl_in30 _ (List.mem_of_getElem? (i := 28) rfl)) rfl
theorem w_X10_goThrough : Cond.code yX10_goThrough cX10_goThrough 4 none ∈ tb := tbm (wl_in30 _ (List.mem_of_getElem? (i := 12) rfl)) rfl
