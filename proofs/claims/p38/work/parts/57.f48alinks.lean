theorem fi_71 : ∀ c : Nat, (fun c => c = 53) c → (fun c => c = 53 ∨ c = 59) c := by
  intro c z
  first | omega | (dsimp only at z ⊢; omega)
