theorem f_X10_345 : fl RX10 345 10 37 := ⟨_, rfl, by decide, Or.inl (tbm (wl_in21 _ (List.mem_of_getElem? (i := 41) rfl)) (by decide +kernel))⟩
theorem f_X10_348 : fl RX10 348 10 38 := ⟨_, rfl, by decide, Or.inl (tbm (wl_in21 _ (List.mem_of_getElem? (i := 42) rfl)) (by decide +kernel))⟩
theorem f_X10_351 : fl RX10 351 10 39 := ⟨_, rfl, by decide, Or.inl (tbm (wl_in21 _ (List.mem_of_getElem? (i := 43) rfl)) (by decide +kernel))⟩
theorem f_X10_354 : fl RX10 354 10 40 := ⟨_, rfl, by decide, Or.inl (tbm (wl_in21 _ (List.mem_of_getElem? (i := 44) rfl)) (by decide +kernel))⟩
theorem f_X10_357 : fl RX10 357 10 36 := ⟨_, rfl, by decide, Or.inl (tbm (wl_in21 _ (List.mem_of_getElem? (i := 40) rfl)) (by decide +kernel))⟩
theorem p_X10_357 : pl RX10 357 10 36 .int := ⟨_, rfl, by decide, Or.inl (tbm (wl_in21 _ (List.mem_of_getElem? (i := 40) rfl)) (by decide +kernel)), rfl, by decide +kernel⟩
theorem f_X10_67 : fl RX10 67 10 35 := ⟨_, rfl, by decide, Or.inl (tbm (wl_in21 _ (List.mem_of_getElem? (i := 39) rfl)) (by decide +kernel))⟩
theorem f_X10_64 : fl RX10 64 10 34 := ⟨_, rfl, by decide, Or.inl (tbm (wl_in21 _ (List.mem_of_getElem? (i := 38) rfl)) (by decide +kernel))⟩
theorem m_X10_363 : lmV RX10 363 yX10_goes 1 := ⟨⟨⟨by decide +kernel, by decide +kernel, by decide +kernel⟩, tbm (wl_in0 _ (List.mem_of_getElem? (i := 11) rfl)) (by decide +kernel), Or.inl (tbm (wl_in30 _ (List.mem_of_getElem? (i := 17) rfl)) (by decide +kernel))⟩, tbm (wl_in30 _ (List.mem_of_getElem? (i := 19) rfl)) (by decide +kernel), tbm (List.mem_of_getElem? (i := 89) (by decide +kernel)) (by decide +kernel)⟩
theorem fi_30 : ∀ c : Nat, (fun c => c = 101 ∨ c = 104 ∨ c = 105) c → (fun c => c = 97 ∨ c = 101 ∨ c = 104 ∨ c = 105 ∨ c = 113 ∨ c = 114) c := by
  intro c z
  dsimp only at z ⊢
  omega
theorem m_X10_360 : lmV RX10 360 yX10_isWish 0 := ⟨⟨⟨by decide +kernel, by decide +kernel, by decide +kernel⟩, tbm (wl_in0 _ (List.mem_of_getElem? (i := 11) rfl)) (by decide +kernel), Or.inl (tbm (wl_in30 _ (List.mem_of_getElem? (i := 13) rfl)) (by decide +kernel))⟩, tbm (wl_in30 _ (List.mem_of_getElem? (i := 15) rfl)) (by decide +kernel), tbm (List.mem_of_getElem? (i := 88) (by decide +kernel)) (by decide +kernel)⟩
theorem m_X10_366 : lmV RX10 366 yX10_keepFirst 1 := ⟨⟨⟨by decide +kernel, by decide +kernel, by decide +kernel⟩, tbm (wl_in0 _ (List.mem_of_getElem? (i := 11) rfl)) (by decide +kernel), Or.inl (tbm (wl_in30 _ (List.mem_of_getElem? (i := 21) rfl)) (by decide +kernel))⟩, tbm (wl_in30 _ (List.mem_of_getElem? (i := 23) rfl)) (by decide +kernel), tbm (List.mem_of_getElem? (i := 90) (by decide +kernel)) (by decide +kernel)⟩
theorem fi_31 : ∀ c : Nat, (fun c => c = 97 ∨ c = 114) c → (fun c => c = 97 ∨ c = 101 ∨ c = 104 ∨ c = 105 ∨ c = 113 ∨ c = 114) c := by
  intro c z
  dsimp only at z ⊢
  omega
theorem m_X10_374 : lmV RX10 374 yX10_ofMove 2 := ⟨⟨⟨by decide +kernel, by decide +kernel, by decide +kernel⟩, tbm (wl_in0 _ (List.mem_of_getElem? (i := 11) rfl)) (by decide +kernel), Or.inl (tbm (wl_in30 _ (List.mem_of_getElem? (i := 25) rfl)) (by decide +kernel))⟩, tbm (wl_in30 _ (List.mem_of_getElem? (i := 27) rfl)) (by decide +kernel), tbm (List.mem_of_getElem? (i := 91) (by decide +kernel)) (by decide +kernel)⟩
theorem m_X10_371 : lmV RX10 371 yX10_goThrough 1 := ⟨⟨⟨by decide +kernel, by decide +kernel, by decide +kernel⟩, tbm (wl_in0 _ (List.mem_of_getElem? (i := 11) rfl)) (by decide +kernel), Or.inl (tbm (wl_in30 _ (List.mem_of_getElem? (i := 9) rfl)) (by decide +kernel))⟩, tbm (wl_in30 _ (List.mem_of_getElem? (i := 11) rfl)) (by decide +kernel), tbm (List.mem_of_getElem? (i := 87) (by decide +kernel)) (by decide +kernel)⟩
theorem fi_32 : ∀ c : Nat, (fun c => c = 97 ∨ c = 101 ∨ c = 104 ∨ c = 105 ∨ c = 113 ∨ c = 114) c → (fun c => 97 ≤ c ∧ c ≤ 116) c := by
  intro c z
  dsimp only at z ⊢
  omega
theorem k_X10_369 : Cond.constantLong RX10 369 (Int64.ofInt 2) ∈ tb := tbm (wl_in30 _ (List.mem_of_getElem? (i := 8) rfl)) (by decide +kernel)
theorem p_X10_345 : pl RX10 345 10 37 .int := ⟨_, rfl, by decide, Or.inl (tbm (wl_in21 _ (List.mem_of_getElem? (i := 41) rfl)) (by decide +kernel)), rfl, by decide +kernel⟩
theorem p_X10_348 : pl RX10 348 10 38 .int := ⟨_, rfl, by decide, Or.inl (tbm (wl_in21 _ (List.mem_of_getElem? (i := 42) rfl)) (by decide +kernel)), rfl, by decide +kernel⟩
theorem p_X10_351 : pl RX10 351 10 39 .int := ⟨_, rfl, by decide, Or.inl (tbm (wl_in21 _ (List.mem_of_getElem? (i := 43) rfl)) (by decide +kernel)), rfl, by decide +kernel⟩
theorem p_X10_354 : pl RX10 354 10 40 .int := ⟨_, rfl, by decide, Or.inl (tbm (wl_in21 _ (List.mem_of_getElem? (i := 44) rfl)) (by decide +kernel)), rfl, by decide +kernel⟩
theorem w_X10_goes : Cond.code yX10_goes cX10_goes 4 (some .boolean) ∈ tb := tbm (wl_in30 _ (List.mem_of_getElem? (i := 20) rfl)) (by decide +kernel)
theorem w_X10_isWish : Cond.code yX10_isWish cX10_isWish 5 (some .boolean) ∈ tb := tbm (wl_in30 _ (List.mem_of_getElem? (i := 16) rfl)) (by decide +kernel)
theorem w_X10_keepFirst : Cond.code yX10_keepFirst cX10_keepFirst 3 none ∈ tb := tbm (wl_in30 _ (List.mem_of_getElem? (i := 24) rfl)) (by decide +kernel)
theorem w_X10_ofMove : Cond.code yX10_ofMove cX10_ofMove 3 (some .int) ∈ tb := tbm (wl_in30 _ (List.mem_of_getElem? (i := 28) rfl)) (by decide +kernel)
theorem w_X10_goThrough : Cond.code yX10_goThrough cX10_goThrough 4 none ∈ tb := tbm (wl_in30 _ (List.mem_of_getElem? (i := 12) rfl)) (by decide +kernel)
