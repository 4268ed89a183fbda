theorem fi_64 : ∀ c : Nat, (fun c => c = 30 ∨ c = 31 ∨ (33 ≤ c ∧ c ≤ 52)) c → (fun c => (2 ≤ c ∧ c ≤ 6) ∨ (30 ≤ c ∧ c ≤ 59) ∨ c = 0 ∨ c = 96) c := by
  intro c z
  first | omega | (dsimp only at z ⊢; omega)
