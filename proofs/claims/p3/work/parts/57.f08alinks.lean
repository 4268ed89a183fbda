theorem fi_59 : ∀ c : Nat, (fun c => c = 31) c → (fun c => c = 30 ∨ c = 31 ∨ (37 ≤ c ∧ c ≤ 52)) c := by
  intro c z
  first | omega | (dsimp only at z ⊢; omega)
theorem fi_60 : ∀ c : Nat, (fun c => 37 ≤ c ∧ c ≤ 40) c → (fun c => c = 30 ∨ c = 31 ∨ (37 ≤ c ∧ c ≤ 52)) c := by
  intro c z
  first | omega | (dsimp only at z ⊢; omega)
