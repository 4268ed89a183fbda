theorem f_X10_26 : fl RX10 26 10 7 := ⟨_, rfl, by decide, Or.inl (tbm (wl_in21 _ (List.mem_of_getElem? (i := 11) rfl)) rfl)⟩
theorem fi_38 : ∀ c : Nat, (fun c => c = 97 ∨ c = 98) c → (fun c => c = 97 ∨ c = 98 ∨ c = 100 ∨ c = 102 ∨ c = 103) c := by
  intro c z
  first | omega | (dsimp only at z ⊢; omega)
theorem f_X10_23 : fl RX10 23 10 6 := ⟨_, rfl, by decide, Or.inl (tbm (wl_in21 _ (List.mem_of_getElem? (i := 10) rfl)) rfl)⟩
theorem f_X10_16 : fl RX10 16 10 4 := ⟨_, rfl, by decide, Or.inl (tbm (wl_in21 _ (List.mem_of_getElem? (i := 8) rfl)) rfl)⟩
theorem fi_39 : ∀ c : Nat, (fun c => c = 97 ∨ c = 98) c → (fun c => c = 97 ∨ c = 98 ∨ c = 99 ∨ c = 101) c := by
  intro c z
  first | omega | (dsimp only at z ⊢; omega)
