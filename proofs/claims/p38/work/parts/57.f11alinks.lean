theorem fi_62 : ∀ c : Nat, (fun c => c = 31) c → (fun c => c = 30 ∨ c = 31 ∨ (33 ≤ c ∧ c ≤ 52)) c := by
  intro c z
  first | omega | (dsimp only at z ⊢; omega)
theorem fi_63 : ∀ c : Nat, (fun c => c = 31 ∨ (33 ≤ c ∧ c ≤ 36)) c → (fun c => c = 30 ∨ c = 31 ∨ (33 ≤ c ∧ c ≤ 52)) c := by
  intro c z
  first | omega | (dsimp only at z ⊢; omega)
