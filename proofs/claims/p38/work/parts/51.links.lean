theorem k_X10_296 : Cond.constantLong RX10 296 (Int64.ofInt 294) ∈ tb := tbm (wl_in28 _ (List.mem_of_getElem? (i := 37) rfl)) rfl
theorem fi_52 : ∀ c : Nat, (fun c => c = 97) c → (fun c => c = 97 ∨ (107 ≤ c ∧ c ≤ 111)) c := by
  intro c z
  first | omega | (dsimp only at z ⊢; omega)
theorem m_X10_287 : lmV RX10 287 yX10_readExpression 1 := ⟨⟨⟨ne_WineSpoonModel.1, ne_WineSpoonModel.2, pd__Z_V_4⟩, tbm (wl_in0 _ (List.mem_of_getElem? (i := 11) rfl)) rfl, Or.inl (tbm (wl_in27 _ (List.mem_of_getElem? (i := 17) rfl)) rfl)⟩, tbm (wl_in27 _ (List.mem_of_getElem? (i := 19) rfl)) rfl, tbm (List.mem_of_getElem? (i := 70) rfl) rfl⟩
theorem fi_53 : ∀ c : Nat, (fun c => c = 97 ∨ (108 ≤ c ∧ c ≤ 111)) c → (fun c => c = 97 ∨ (107 ≤ c ∧ c ≤ 111)) c := by
  intro c z
  first | omega | (dsimp only at z ⊢; omega)
theorem k_X10_294 : Cond.constantLong RX10 294 (Int64.ofInt 21279923) ∈ tb := tbm (wl_in28 _ (List.mem_of_getElem? (i := 36) rfl)) rfl
theorem k_X10_292 : Cond.constantLong RX10 292 (Int64.ofInt 655) ∈ tb := tbm (wl_in28 _ (List.mem_of_getElem? (i := 35) rfl)) rfl
theorem k_X10_290 : Cond.constantLong RX10 290 (Int64.ofInt 215533) ∈ tb := tbm (wl_in28 _ (List.mem_of_getElem? (i := 34) rfl)) rfl
theorem f_X10_284 : fl RX10 284 10 19 := ⟨_, rfl, by decide, Or.inl (tbm (wl_in21 _ (List.mem_of_getElem? (i := 23) rfl)) rfl)⟩
theorem p_X10_284 : pl RX10 284 10 19 .int := ⟨_, rfl, by decide, Or.inl (tbm (wl_in21 _ (List.mem_of_getElem? (i := 23) rfl)) rfl), rfl, by decide +kernel⟩
theorem k_X10_278 : Cond.constantLong RX10 278 (Int64.ofInt 20463086) ∈ tb := tbm (wl_in27 _ (List.mem_of_getElem? (i := 2) rfl)) rfl
theorem k_X10_280 : Cond.constantLong RX10 280 (Int64.ofInt 402539) ∈ tb := tbm (wl_in27 _ (List.mem_of_getElem? (i := 7) rfl)) rfl
theorem k_X10_282 : Cond.constantLong RX10 282 (Int64.ofInt 206220) ∈ tb := tbm (wl_in27 _ (List.mem_of_getElem? (i := 8) rfl)) rfl
theorem m_X10_328 : lmV RX10 328 yX10_move 1 := ⟨⟨⟨ne_WineSpoonModel.1, ne_WineSpoonModel.2, pd__I_I_4⟩, tbm (wl_in0 _ (List.mem_of_getElem? (i := 11) rfl)) rfl, Or.inl (tbm (wl_in28 _ (List.mem_of_getElem? (i := 38) rfl)) rfl)⟩, tbm (wl_in28 _ (List.mem_of_getElem? (i := 40) rfl)) rfl, tbm (List.mem_of_getElem? (i := 83) rfl) rfl⟩
theorem fi_54 : ∀ c : Nat, (fun c => c = 97 ∨ c = 101 ∨ c = 104 ∨ c = 105 ∨ c = 112) c → (fun c => c = 97 ∨ c = 98 ∨ c = 101 ∨ c = 104 ∨ c = 105 ∨ c = 107 ∨ c = 108 ∨ c = 109 ∨ c = 110 ∨ c = 111 ∨ c = 112) c := by
  intro c z
  first | omega | (dsimp only at z ⊢; omega)
theorem p_X10_61 : pl RX10 61 10 33 .int := ⟨_, rfl, by decide, Or.inl (tbm (wl_in21 _ (List.mem_of_getElem? (i := 37) rfl)) rfl), rfl, by decide +kernel⟩
theorem fi_55 : ∀ c : Nat, (fun c => c = 97 ∨ c = 98) c → (fun c => c = 97 ∨ c = 98 ∨ c = 101 ∨ c = 104 ∨ c = 105 ∨ c = 107 ∨ c = 108 ∨ c = 109 ∨ c = 110 ∨ c = 111 ∨ c = 112) c := by
  intro c z
  first | omega | (dsimp only at z ⊢; omega)
theorem fi_56 : ∀ c : Nat, (fun c => c = 97) c → (fun c => c = 97 ∨ c = 98 ∨ c = 101 ∨ c = 104 ∨ c = 105 ∨ c = 107 ∨ c = 108 ∨ c = 109 ∨ c = 110 ∨ c = 111 ∨ c = 112) c := by
  intro c z
  first | omega | (dsimp only at z ⊢; omega)
theorem m_X10_325 : lmV RX10 325 yX10_readClause 0 := ⟨⟨⟨ne_WineSpoonModel.1, ne_WineSpoonModel.2, pd___V_3⟩, tbm (wl_in0 _ (List.mem_of_getElem? (i := 11) rfl)) rfl, Or.inl (tbm (wl_in26 _ (List.mem_of_getElem? (i := 48) rfl)) rfl)⟩, tbm (wl_in27 _ (List.mem_of_getElem? (i := 0) rfl)) rfl, tbm (List.mem_of_getElem? (i := 66) rfl) rfl⟩
theorem fi_57 : ∀ c : Nat, (fun c => c = 97 ∨ (107 ≤ c ∧ c ≤ 111)) c → (fun c => c = 97 ∨ c = 98 ∨ c = 101 ∨ c = 104 ∨ c = 105 ∨ c = 107 ∨ c = 108 ∨ c = 109 ∨ c = 110 ∨ c = 111 ∨ c = 112) c := by
  intro c z
  first | omega | (dsimp only at z ⊢; omega)
theorem m_X10_322 : lmV RX10 322 yX10_begin 0 := ⟨⟨⟨ne_WineSpoonModel.1, ne_WineSpoonModel.2, pd___V_3⟩, tbm (wl_in0 _ (List.mem_of_getElem? (i := 11) rfl)) rfl, Or.inl (tbm (wl_in26 _ (List.mem_of_getElem? (i := 29) rfl)) rfl)⟩, tbm (wl_in26 _ (List.mem_of_getElem? (i := 31) rfl)) rfl, tbm (List.mem_of_getElem? (i := 64) rfl) rfl⟩
theorem w_X10_readExpression : Cond.code yX10_readExpression cX10_readExpression 3 none ∈ tb := tbm (wl_in27 _ (List.mem_of_getElem? (i := 20) rfl)) rfl
theorem w_X10_move : Cond.code yX10_move cX10_move 6 (some .int) ∈ tb := tbm (wl_in28 _ (List.mem_of_getElem? (i := 41) rfl)) rfl
theorem w_X10_readClause : Cond.code yX10_readClause cX10_readClause 4 none ∈ tb := tbm (wl_in27 _ (List.mem_of_getElem? (i := 1) rfl)) rfl
theorem w_X10_begin : Cond.code yX10_begin cX10_begin 1 none ∈ tb := tbm (wl_in26 _ (List.mem_of_getElem? (i := 32) rfl)) rfl
