theorem f_X10_212 : fl RX10 212 10 28 := ⟨_, rfl, by decide, Or.inl (tbm (wl_in21 _ (List.mem_of_getElem? (i := 32) rfl)) rfl)⟩
theorem fi_43 : ∀ c : Nat, (fun c => c = 97) c → (fun c => c = 97 ∨ c = 110 ∨ c = 111) c := by
  intro c z
  first | omega | (dsimp only at z ⊢; omega)
theorem p_X10_212 : pl RX10 212 10 28 .int := ⟨_, rfl, by decide, Or.inl (tbm (wl_in21 _ (List.mem_of_getElem? (i := 32) rfl)) rfl), rfl, by decide +kernel⟩
theorem m_X10_215 : lmV RX10 215 yX10_push 2 := ⟨⟨⟨ne_WineSpoonModel.1, ne_WineSpoonModel.2, pd__II_V_5⟩, tbm (wl_in0 _ (List.mem_of_getElem? (i := 11) rfl)) rfl, Or.inl (tbm (wl_in27 _ (List.mem_of_getElem? (i := 26) rfl)) rfl)⟩, tbm (wl_in27 _ (List.mem_of_getElem? (i := 28) rfl)) rfl, tbm (List.mem_of_getElem? (i := 72) rfl) rfl⟩
theorem fi_44 : ∀ c : Nat, (fun c => c = 97) c → (fun c => c = 97 ∨ c = 108 ∨ c = 109) c := by
  intro c z
  first | omega | (dsimp only at z ⊢; omega)
theorem f_X10_218 : fl RX10 218 10 24 := ⟨_, rfl, by decide, Or.inl (tbm (wl_in21 _ (List.mem_of_getElem? (i := 28) rfl)) rfl)⟩
theorem p_X10_218 : pl RX10 218 10 24 .int := ⟨_, rfl, by decide, Or.inl (tbm (wl_in21 _ (List.mem_of_getElem? (i := 28) rfl)) rfl), rfl, by decide +kernel⟩
theorem m_X10_245 : lmV RX10 245 yX10_readNumber 1 := ⟨⟨⟨ne_WineSpoonModel.1, ne_WineSpoonModel.2, pd__I_I_4⟩, tbm (wl_in0 _ (List.mem_of_getElem? (i := 11) rfl)) rfl, Or.inl (tbm (wl_in27 _ (List.mem_of_getElem? (i := 13) rfl)) rfl)⟩, tbm (wl_in27 _ (List.mem_of_getElem? (i := 15) rfl)) rfl, tbm (List.mem_of_getElem? (i := 69) rfl) rfl⟩
theorem fi_45 : ∀ c : Nat, (fun c => c = 97) c → (fun c => c = 97 ∨ (108 ≤ c ∧ c ≤ 111)) c := by
  intro c z
  first | omega | (dsimp only at z ⊢; omega)
theorem pd__ZII_V_6 : (parseMethodDescriptor "(ZII)V").map (fun d => d.parameters.length) = some 3 := by decide +kernel
theorem m_X10_241 : lmV RX10 241 yX10_leaf 3 := ⟨⟨⟨ne_WineSpoonModel.1, ne_WineSpoonModel.2, pd__ZII_V_6⟩, tbm (wl_in0 _ (List.mem_of_getElem? (i := 11) rfl)) rfl, Or.inl (tbm (wl_in27 _ (List.mem_of_getElem? (i := 47) rfl)) rfl)⟩, tbm (wl_in27 _ (List.mem_of_getElem? (i := 49) rfl)) rfl, tbm (List.mem_of_getElem? (i := 76) rfl) rfl⟩
theorem fi_46 : ∀ c : Nat, (fun c => c = 97 ∨ c = 108 ∨ c = 109) c → (fun c => c = 97 ∨ (108 ≤ c ∧ c ≤ 111)) c := by
  intro c z
  first | omega | (dsimp only at z ⊢; omega)
theorem k_X10_239 : Cond.constantLong RX10 239 (Int64.ofInt 1000) ∈ tb := tbm (wl_in27 _ (List.mem_of_getElem? (i := 46) rfl)) rfl
theorem m_X10_221 : lmV RX10 221 yX10_isSign 1 := ⟨⟨⟨ne_WineSpoonModel.1, ne_WineSpoonModel.2, pd__I_Z_4⟩, tbm (wl_in0 _ (List.mem_of_getElem? (i := 11) rfl)) rfl, Or.inl (tbm (wl_in27 _ (List.mem_of_getElem? (i := 30) rfl)) rfl)⟩, tbm (wl_in27 _ (List.mem_of_getElem? (i := 32) rfl)) rfl, tbm (List.mem_of_getElem? (i := 73) rfl) rfl⟩
theorem k_X10_227 : Cond.constantLong RX10 227 (Int64.ofInt 218508) ∈ tb := tbm (wl_in27 _ (List.mem_of_getElem? (i := 42) rfl)) rfl
theorem m_X10_229 : lmV RX10 229 yX10_isWord 1 := ⟨⟨⟨ne_WineSpoonModel.1, ne_WineSpoonModel.2, pd__J_Z_4⟩, tbm (wl_in0 _ (List.mem_of_getElem? (i := 11) rfl)) rfl, Or.inl (tbm (wl_in27 _ (List.mem_of_getElem? (i := 3) rfl)) rfl)⟩, tbm (wl_in27 _ (List.mem_of_getElem? (i := 5) rfl)) rfl, tbm (List.mem_of_getElem? (i := 67) rfl) rfl⟩
theorem k_X10_233 : Cond.constantLong RX10 233 (Int64.ofInt 632645) ∈ tb := tbm (wl_in27 _ (List.mem_of_getElem? (i := 43) rfl)) rfl
theorem k_X10_235 : Cond.constantLong RX10 235 (Int64.ofInt 21024389) ∈ tb := tbm (wl_in27 _ (List.mem_of_getElem? (i := 44) rfl)) rfl
theorem k_X10_237 : Cond.constantLong RX10 237 (Int64.ofInt 146885) ∈ tb := tbm (wl_in27 _ (List.mem_of_getElem? (i := 45) rfl)) rfl
theorem m_X10_224 : lmV RX10 224 yX10_openBracket 1 := ⟨⟨⟨ne_WineSpoonModel.1, ne_WineSpoonModel.2, pd__I_V_4⟩, tbm (wl_in0 _ (List.mem_of_getElem? (i := 11) rfl)) rfl, Or.inl (tbm (wl_in27 _ (List.mem_of_getElem? (i := 34) rfl)) rfl)⟩, tbm (wl_in27 _ (List.mem_of_getElem? (i := 36) rfl)) rfl, tbm (List.mem_of_getElem? (i := 74) rfl) rfl⟩
theorem fi_47 : ∀ c : Nat, (fun c => c = 97 ∨ c = 110 ∨ c = 111) c → (fun c => c = 97 ∨ (108 ≤ c ∧ c ≤ 111)) c := by
  intro c z
  first | omega | (dsimp only at z ⊢; omega)
theorem k_X10_248 : Cond.constantLong RX10 248 (Int64.ofInt 14836) ∈ tb := tbm (wl_in27 _ (List.mem_of_getElem? (i := 25) rfl)) rfl
theorem m_X10_250 : lmV RX10 250 yX10_readPart 0 := ⟨⟨⟨ne_WineSpoonModel.1, ne_WineSpoonModel.2, pd___I_3⟩, tbm (wl_in0 _ (List.mem_of_getElem? (i := 11) rfl)) rfl, Or.inl (tbm (wl_in27 _ (List.mem_of_getElem? (i := 38) rfl)) rfl)⟩, tbm (wl_in27 _ (List.mem_of_getElem? (i := 40) rfl)) rfl, tbm (List.mem_of_getElem? (i := 75) rfl) rfl⟩
theorem m_X10_254 : lmV RX10 254 yX10_settle 1 := ⟨⟨⟨ne_WineSpoonModel.1, ne_WineSpoonModel.2, pd__I_V_4⟩, tbm (wl_in0 _ (List.mem_of_getElem? (i := 11) rfl)) rfl, Or.inl (tbm (wl_in28 _ (List.mem_of_getElem? (i := 12) rfl)) rfl)⟩, tbm (wl_in28 _ (List.mem_of_getElem? (i := 14) rfl)) rfl, tbm (List.mem_of_getElem? (i := 79) rfl) rfl⟩
theorem m_X10_257 : lmV RX10 257 yX10_inner 0 := ⟨⟨⟨ne_WineSpoonModel.1, ne_WineSpoonModel.2, pd___I_3⟩, tbm (wl_in0 _ (List.mem_of_getElem? (i := 11) rfl)) rfl, Or.inl (tbm (wl_in28 _ (List.mem_of_getElem? (i := 16) rfl)) rfl)⟩, tbm (wl_in28 _ (List.mem_of_getElem? (i := 18) rfl)) rfl, tbm (List.mem_of_getElem? (i := 80) rfl) rfl⟩
theorem m_X10_260 : lmV RX10 260 yX10_isCompared 0 := ⟨⟨⟨ne_WineSpoonModel.1, ne_WineSpoonModel.2, pd___Z_3⟩, tbm (wl_in0 _ (List.mem_of_getElem? (i := 11) rfl)) rfl, Or.inl (tbm (wl_in28 _ (List.mem_of_getElem? (i := 20) rfl)) rfl)⟩, tbm (wl_in28 _ (List.mem_of_getElem? (i := 22) rfl)) rfl, tbm (List.mem_of_getElem? (i := 81) rfl) rfl⟩
theorem k_X10_264 : Cond.constantLong RX10 264 (Int64.ofInt 1476) ∈ tb := tbm (wl_in28 _ (List.mem_of_getElem? (i := 32) rfl)) rfl
theorem k_X10_266 : Cond.constantLong RX10 266 (Int64.ofInt 498) ∈ tb := tbm (wl_in28 _ (List.mem_of_getElem? (i := 33) rfl)) rfl
theorem m_X10_275 : lmV RX10 275 yX10_behindTest 0 := ⟨⟨⟨ne_WineSpoonModel.1, ne_WineSpoonModel.2, pd___I_3⟩, tbm (wl_in0 _ (List.mem_of_getElem? (i := 11) rfl)) rfl, Or.inl (tbm (wl_in28 _ (List.mem_of_getElem? (i := 28) rfl)) rfl)⟩, tbm (wl_in28 _ (List.mem_of_getElem? (i := 30) rfl)) rfl, tbm (List.mem_of_getElem? (i := 82) rfl) rfl⟩
theorem pd__Z_I_4 : (parseMethodDescriptor "(Z)I").map (fun d => d.parameters.length) = some 1 := by decide +kernel
theorem m_X10_271 : lmV RX10 271 yX10_behindSum 1 := ⟨⟨⟨ne_WineSpoonModel.1, ne_WineSpoonModel.2, pd__Z_I_4⟩, tbm (wl_in0 _ (List.mem_of_getElem? (i := 11) rfl)) rfl, Or.inl (tbm (wl_in28 _ (List.mem_of_getElem? (i := 5) rfl)) rfl)⟩, tbm (wl_in28 _ (List.mem_of_getElem? (i := 7) rfl)) rfl, tbm (List.mem_of_getElem? (i := 78) rfl) rfl⟩
theorem m_X10_268 : lmV RX10 268 yX10_readPlain 0 := ⟨⟨⟨ne_WineSpoonModel.1, ne_WineSpoonModel.2, pd___I_3⟩, tbm (wl_in0 _ (List.mem_of_getElem? (i := 11) rfl)) rfl, Or.inl (tbm (wl_in27 _ (List.mem_of_getElem? (i := 21) rfl)) rfl)⟩, tbm (wl_in27 _ (List.mem_of_getElem? (i := 23) rfl)) rfl, tbm (List.mem_of_getElem? (i := 71) rfl) rfl⟩
theorem w_X10_push : Cond.code yX10_push cX10_push 3 none ∈ tb := tbm (wl_in27 _ (List.mem_of_getElem? (i := 29) rfl)) rfl
theorem w_X10_readNumber : Cond.code yX10_readNumber cX10_readNumber 4 (some .int) ∈ tb := tbm (wl_in27 _ (List.mem_of_getElem? (i := 16) rfl)) rfl
theorem w_X10_leaf : Cond.code yX10_leaf cX10_leaf 4 none ∈ tb := tbm (wl_in28 _ (List.mem_of_getElem? (i := 0) rfl)) rfl
theorem w_X10_isSign : Cond.code yX10_isSign cX10_isSign 2 (some .boolean) ∈ tb := tbm (wl_in27 _ (List.mem_of_getElem? (i := 33) rfl)) rfl
theorem w_X10_isWord : Cond.code yX10_isWord cX10_isWord 3 (some .boolean) ∈ tb := tbm (wl_in27 _ (List.mem_of_getElem? (i := 6) rfl)) rfl
theorem w_X10_openBracket : Cond.code yX10_openBracket cX10_openBracket 2 none ∈ tb := tbm (wl_in27 _ (List.mem_of_getElem? (i := 37) rfl)) rfl
theorem w_X10_readPart : Cond.code yX10_readPart cX10_readPart 6 (some .int) ∈ tb := tbm (wl_in27 _ (List.mem_of_getElem? (i := 41) rfl)) rfl
theorem w_X10_settle : Cond.code yX10_settle cX10_settle 2 none ∈ tb := tbm (wl_in28 _ (List.mem_of_getElem? (i := 15) rfl)) rfl
theorem w_X10_inner : Cond.code yX10_inner cX10_inner 3 (some .int) ∈ tb := tbm (wl_in28 _ (List.mem_of_getElem? (i := 19) rfl)) rfl
theorem w_X10_isCompared : Cond.code yX10_isCompared cX10_isCompared 2 (some .boolean) ∈ tb := tbm (wl_in28 _ (List.mem_of_getElem? (i := 23) rfl)) rfl
theorem w_X10_behindTest : Cond.code yX10_behindTest cX10_behindTest 2 (some .int) ∈ tb := tbm (wl_in28 _ (List.mem_of_getElem? (i := 31) rfl)) rfl
theorem w_X10_behindSum : Cond.code yX10_behindSum cX10_behindSum 4 (some .int) ∈ tb := tbm (wl_in28 _ (List.mem_of_getElem? (i := 8) rfl)) rfl
theorem w_X10_readPlain : Cond.code yX10_readPlain cX10_readPlain 1 (some .int) ∈ tb := tbm (wl_in27 _ (List.mem_of_getElem? (i := 24) rfl)) rfl
