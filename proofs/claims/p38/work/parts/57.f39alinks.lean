theorem fi_65 : ∀ c : Nat, (fun c => c = 31) c → (fun c => c = 31 ∨ c = 37 ∨ c = 39 ∨ c = 40) c := by
  intro c z
  first | omega | (dsimp only at z ⊢; omega)
theorem fi_66 : ∀ c : Nat, (fun c => c = 37 ∨ c = 39 ∨ c = 40) c → (fun c => c = 31 ∨ c = 37 ∨ c = 39 ∨ c = 40) c := by
  intro c z
  first | omega | (dsimp only at z ⊢; omega)
theorem fi_67 : ∀ c : Nat, (fun c => c = 31) c → (fun c => c = 30 ∨ c = 31 ∨ c = 37 ∨ c = 39 ∨ c = 40) c := by
  intro c z
  first | omega | (dsimp only at z ⊢; omega)
theorem fi_68 : ∀ c : Nat, (fun c => c = 31 ∨ c = 37 ∨ c = 39 ∨ c = 40) c → (fun c => c = 30 ∨ c = 31 ∨ c = 37 ∨ c = 39 ∨ c = 40) c := by
  intro c z
  first | omega | (dsimp only at z ⊢; omega)
theorem fi_69 : ∀ c : Nat, (fun c => c = 37 ∨ c = 39 ∨ c = 40) c → (fun c => c = 30 ∨ c = 31 ∨ c = 37 ∨ c = 39 ∨ c = 40) c := by
  intro c z
  first | omega | (dsimp only at z ⊢; omega)
