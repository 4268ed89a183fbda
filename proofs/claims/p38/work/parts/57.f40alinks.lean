theorem fi_70 : ∀ c : Nat, (fun c => c = 40) c → (fun c => c = 30 ∨ c = 31 ∨ c = 37 ∨ c = 39 ∨ c = 40) c := by
  intro c z
  first | omega | (dsimp only at z ⊢; omega)
