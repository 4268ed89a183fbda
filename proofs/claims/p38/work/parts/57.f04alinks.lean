theorem fi_58 : ∀ c : Nat, (fun c => c = 35 ∨ c = 36) c → (fun c => c = 31 ∨ (33 ≤ c ∧ c ≤ 36)) c := by
  intro c z
  first | omega | (dsimp only at z ⊢; omega)
