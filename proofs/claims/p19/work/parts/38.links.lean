theorem k_X10_384 : Cond.constant RX10 384 (Int32.ofInt 42021) ∈ tb := tbm (wl_in31 _ (List.mem_of_getElem? (i := 19) rfl)) (by decide +kernel)
theorem f_X10_71 : fl RX10 71 10 41 := ⟨_, rfl, by decide, Or.inl (tbm (wl_in21 _ (List.mem_of_getElem? (i := 45) rfl)) (by decide +kernel))⟩
theorem m_X10_385 : lmS RX10 385 yX10_at 3 := ⟨⟨⟨by decide +kernel, by decide +kernel, by decide +kernel⟩, tbm (wl_in0 _ (List.mem_of_getElem? (i := 11) rfl)) (by decide +kernel), Or.inl (tbm (wl_in31 _ (List.mem_of_getElem? (i := 16) rfl)) (by decide +kernel))⟩, tbm (wl_in31 _ (List.mem_of_getElem? (i := 17) rfl)) (by decide +kernel)⟩
theorem k_X10_388 : Cond.constant RX10 388 (Int32.ofInt 1000000) ∈ tb := tbm (wl_in31 _ (List.mem_of_getElem? (i := 20) rfl)) (by decide +kernel)
theorem m_X10_392 : lmV RX10 392 yX10_isLeast 4 := ⟨⟨⟨by decide +kernel, by decide +kernel, by decide +kernel⟩, tbm (wl_in0 _ (List.mem_of_getElem? (i := 11) rfl)) (by decide +kernel), Or.inl (tbm (wl_in31 _ (List.mem_of_getElem? (i := 21) rfl)) (by decide +kernel))⟩, tbm (wl_in31 _ (List.mem_of_getElem? (i := 23) rfl)) (by decide +kernel), tbm (List.mem_of_getElem? (i := 93) (by decide +kernel)) (by decide +kernel)⟩
theorem m_X10_389 : lmV RX10 389 yX10_findMixes 1 := ⟨⟨⟨by decide +kernel, by decide +kernel, by decide +kernel⟩, tbm (wl_in0 _ (List.mem_of_getElem? (i := 11) rfl)) (by decide +kernel), Or.inl (tbm (wl_in31 _ (List.mem_of_getElem? (i := 12) rfl)) (by decide +kernel))⟩, tbm (wl_in31 _ (List.mem_of_getElem? (i := 14) rfl)) (by decide +kernel), tbm (List.mem_of_getElem? (i := 92) (by decide +kernel)) (by decide +kernel)⟩
theorem fi_33 : ∀ c : Nat, (fun c => c = 115) c → (fun c => 97 ≤ c ∧ c ≤ 116) c := by
  intro c z
  dsimp only at z ⊢
  omega
theorem w_X10_at : Cond.code yX10_at cX10_at 3 (some .int) ∈ tb := tbm (wl_in31 _ (List.mem_of_getElem? (i := 18) rfl)) (by decide +kernel)
theorem w_X10_isLeast : Cond.code yX10_isLeast cX10_isLeast 6 (some .boolean) ∈ tb := tbm (wl_in31 _ (List.mem_of_getElem? (i := 24) rfl)) (by decide +kernel)
theorem w_X10_findMixes : Cond.code yX10_findMixes cX10_findMixes 10 none ∈ tb := tbm (wl_in31 _ (List.mem_of_getElem? (i := 15) rfl)) (by decide +kernel)
