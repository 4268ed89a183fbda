theorem fi_72 : ∀ c : Nat, (fun c => 10 ≤ c ∧ c ≤ 18) c → (fun c => (10 ≤ c ∧ c ≤ 27) ∨ c = 29) c := by
  intro c z
  first | omega | (dsimp only at z ⊢; omega)
theorem fi_73 : ∀ c : Nat, (fun c => 19 ≤ c ∧ c ≤ 27) c → (fun c => (10 ≤ c ∧ c ≤ 27) ∨ c = 29) c := by
  intro c z
  first | omega | (dsimp only at z ⊢; omega)
theorem fi_74 : ∀ c : Nat, (fun c => 1 ≤ c ∧ c ≤ 9) c → (fun c => 1 ≤ c ∧ c ≤ 9 ∨ c = 0 ∨ c = 96) c := by
  intro c z
  first | omega | (dsimp only at z ⊢; omega)
theorem fi_75 : ∀ c : Nat, (fun c => c = 0 ∨ c = 96) c → (fun c => 1 ≤ c ∧ c ≤ 9 ∨ c = 0 ∨ c = 96) c := by
  intro c z
  first | omega | (dsimp only at z ⊢; omega)
