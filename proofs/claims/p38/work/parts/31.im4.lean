theorem IM.image {M M5 : Mm} {k : Nat} (h : IM M) (hk : k < 2) (e99 : M5 99 = M 99) (e101 : M5 101 = M 101) (e12 : M5 97 12 = M 97 12) (e44 : M5 97 44 = M 97 44) (cR : ∀ j : Nat, j < 49 → M5 100 (49 * k + j) = M 99 j) (us : ∀ q : Nat, (q < 49 * k ∨ 49 * k + 49 ≤ q) → M5 100 q = M 100 q) (cP : ∀ j : Nat, j < 25 → M5 102 (25 * k + j) = M 101 j) (us2 : ∀ q : Nat, (q < 25 * k ∨ 25 * k + 25 ≤ q) → M5 102 q = M 102 q) (e103 : ∀ q : Nat, q ≠ k → M5 103 q = M 103 q) : IM M5 := by
  obtain ⟨h1, h2, h3, h4, h5⟩ := h
  refine ⟨by rw [e99]; exact h1, by rw [e101]; exact h2, fun q hq hz => ?_, by rw [e12]; exact h4, by rw [e44]; exact h5⟩
  by_cases hqk : q = k
  · subst hqk
    exact ⟨h1.cg (fun i hi => cR i hi), PIw.cg h2 (fun i hi => cP i hi)⟩
  · rw [e103 q hqk] at hz
    obtain ⟨a, b⟩ := h3 q hq hz
    exact ⟨a.cg (fun i hi => us _ (by omega)), PIw.cg b (fun i hi => us2 _ (by omega))⟩
theorem IM.back {M M5 : Mm} {k : Nat} (h : IM M) (hk : k < 2) (hz : M 103 k ≠ 0) (e100 : M5 100 = M 100) (e102 : M5 102 = M 102) (e103 : M5 103 = M 103) (e12 : M5 97 12 = M 97 12) (e44 : M5 97 44 = M 97 44) (cR : ∀ j : Nat, j < 49 → M5 99 j = M 100 (49 * k + j)) (cP : ∀ j : Nat, j < 25 → M5 101 j = M 102 (25 * k + j)) : IM M5 := by
  obtain ⟨h1, h2, h3, h4, h5⟩ := h
  obtain ⟨a, b⟩ := h3 k hk hz
  exact ⟨a.cg cR, PIw.cg b cP, by rw [e100, e102, e103]; exact h3, by rw [e12]; exact h4, by rw [e44]; exact h5⟩
