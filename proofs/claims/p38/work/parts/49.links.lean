theorem f_X10_298 : fl RX10 298 10 32 := ⟨_, rfl, by decide, Or.inl (tbm (wl_in21 _ (List.mem_of_getElem? (i := 36) rfl)) rfl)⟩
theorem p_X10_301 : pl RX10 301 10 30 .boolean := ⟨_, rfl, by decide, Or.inl (tbm (wl_in21 _ (List.mem_of_getElem? (i := 34) rfl)) rfl), rfl, by decide +kernel⟩
theorem f_X10_301 : fl RX10 301 10 30 := ⟨_, rfl, by decide, Or.inl (tbm (wl_in21 _ (List.mem_of_getElem? (i := 34) rfl)) rfl)⟩
theorem p_X10_316 : pl RX10 316 10 31 .long := ⟨_, rfl, by decide, Or.inl (tbm (wl_in21 _ (List.mem_of_getElem? (i := 35) rfl)) rfl), rfl, by decide +kernel⟩
theorem f_X10_58 : fl RX10 58 10 29 := ⟨_, rfl, by decide, Or.inl (tbm (wl_in21 _ (List.mem_of_getElem? (i := 33) rfl)) rfl)⟩
theorem m_X10_308 : lmV RX10 308 yX10_reckon 3 := ⟨⟨⟨ne_WineSpoonModel.1, ne_WineSpoonModel.2, pd__IJJ_J_6⟩, tbm (wl_in0 _ (List.mem_of_getElem? (i := 11) rfl)) rfl, Or.inl (tbm (wl_in29 _ (List.mem_of_getElem? (i := 0) rfl)) rfl)⟩, tbm (wl_in29 _ (List.mem_of_getElem? (i := 2) rfl)) rfl, tbm (List.mem_of_getElem? (i := 86) rfl) rfl⟩
theorem fi_48 : ∀ c : Nat, (fun c => c = 97) c → (fun c => c = 97 ∨ c = 112) c := by
  intro c z
  first | omega | (dsimp only at z ⊢; omega)
theorem k_X10_312 : Cond.constantLong RX10 312 (Int64.ofInt (-1000000000)) ∈ tb := tbm (wl_in29 _ (List.mem_of_getElem? (i := 4) rfl)) rfl
theorem k_X10_314 : Cond.constantLong RX10 314 (Int64.ofInt 1000000000) ∈ tb := tbm (wl_in29 _ (List.mem_of_getElem? (i := 5) rfl)) rfl
theorem m_X10_304 : lmV RX10 304 yX10_partOf 2 := ⟨⟨⟨ne_WineSpoonModel.1, ne_WineSpoonModel.2, pd__II_J_5⟩, tbm (wl_in0 _ (List.mem_of_getElem? (i := 11) rfl)) rfl, Or.inl (tbm (wl_in28 _ (List.mem_of_getElem? (i := 46) rfl)) rfl)⟩, tbm (wl_in28 _ (List.mem_of_getElem? (i := 48) rfl)) rfl, tbm (List.mem_of_getElem? (i := 85) rfl) rfl⟩
theorem f_X10_316 : fl RX10 316 10 31 := ⟨_, rfl, by decide, Or.inl (tbm (wl_in21 _ (List.mem_of_getElem? (i := 35) rfl)) rfl)⟩
theorem f_X10_43 : fl RX10 43 10 20 := ⟨_, rfl, by decide, Or.inl (tbm (wl_in21 _ (List.mem_of_getElem? (i := 24) rfl)) rfl)⟩
theorem fi_49 : ∀ c : Nat, (fun c => c = 101 ∨ c = 104 ∨ c = 105) c → (fun c => c = 97 ∨ c = 101 ∨ c = 104 ∨ c = 105 ∨ c = 112) c := by
  intro c z
  first | omega | (dsimp only at z ⊢; omega)
theorem p_X10_298 : pl RX10 298 10 32 .int := ⟨_, rfl, by decide, Or.inl (tbm (wl_in21 _ (List.mem_of_getElem? (i := 36) rfl)) rfl), rfl, by decide +kernel⟩
theorem fi_50 : ∀ c : Nat, (fun c => c = 101) c → (fun c => c = 97 ∨ c = 101 ∨ c = 104 ∨ c = 105 ∨ c = 112) c := by
  intro c z
  first | omega | (dsimp only at z ⊢; omega)
theorem m_X10_319 : lmV RX10 319 yX10_reckonAll 2 := ⟨⟨⟨ne_WineSpoonModel.1, ne_WineSpoonModel.2, pd__II_V_5⟩, tbm (wl_in0 _ (List.mem_of_getElem? (i := 11) rfl)) rfl, Or.inl (tbm (wl_in28 _ (List.mem_of_getElem? (i := 42) rfl)) rfl)⟩, tbm (wl_in28 _ (List.mem_of_getElem? (i := 44) rfl)) rfl, tbm (List.mem_of_getElem? (i := 84) rfl) rfl⟩
theorem fi_51 : ∀ c : Nat, (fun c => c = 97 ∨ c = 112) c → (fun c => c = 97 ∨ c = 101 ∨ c = 104 ∨ c = 105 ∨ c = 112) c := by
  intro c z
  first | omega | (dsimp only at z ⊢; omega)
theorem w_X10_reckon : Cond.code yX10_reckon cX10_reckon 6 (some .long) ∈ tb := tbm (wl_in29 _ (List.mem_of_getElem? (i := 3) rfl)) rfl
theorem w_X10_partOf : Cond.code yX10_partOf cX10_partOf 4 (some .long) ∈ tb := tbm (wl_in28 _ (List.mem_of_getElem? (i := 49) rfl)) rfl
theorem w_X10_reckonAll : Cond.code yX10_reckonAll cX10_reckonAll 7 none ∈ tb := tbm (wl_in28 _ (List.mem_of_getElem? (i := 45) rfl)) rfl
