theorem CARR.r {can : Prop} {n L L1 g k w r : Int} {P F P1 F1 : Nat → Int} (h : CARR can n P L F g k w r P1 L1 F1) : r = 0 ∨ r = -3 ∨ r = -5 := by
  by_cases c : can
  · rcases h.2 c with x | x
    · exact Or.inl x.1
    · exact Or.inr (Or.inr x.1)
  · exact Or.inr (Or.inl (h.1 c).1)
theorem POU.r {n L g s w r : Int} {P F Z P1 F1 : Nat → Int} (h : POU n P L F Z g s w r P1 F1) : r = 0 ∨ r = -3 := by
  by_cases c : (1 ≤ w ∧ w ≤ 60) ∧ (0 ≤ s ∧ s ≤ 3) ∧ (0 ≤ g ∧ g < n) ∧ w ≤ Z g.toNat - F g.toNat
  · exact Or.inl (h.2 c).1
  · exact Or.inr (h.1 c).1
theorem LOW.ct {n L L1 : Int} {P F Z P1 : Nat → Int} (ct : CT n P L F Z) (d : DVD P P1 (gF P L (4 * n).toNat) n) (l : L = L1 * gF P L (4 * n).toNat) : CT n P1 L1 F Z := by
  obtain ⟨h1, h2, h3, h4⟩ := ct
  have gp := gF_pos (p := P) h2.1 (4 * n).toNat
  generalize gF P L (4 * n).toNat = D at *
  have l1 : 1 ≤ L1 := by
    by_cases q : L1 ≤ 0
    · have := Int.mul_nonpos_of_nonpos_of_nonneg q (show 0 ≤ D by omega)
      omega
    · omega
  have l2 : L1 ≤ L := by
    have : L1 * 1 ≤ L1 * D := Int.mul_le_mul_of_nonneg_left gp (by omega)
    omega
  refine ⟨h1, by omega, fun k hk => (d k hk).2, fun g hg => ?_⟩
  obtain ⟨a1, a2, a3⟩ := h4 g hg
  refine ⟨a1, a2, ?_⟩
  refine Int.eq_of_mul_eq_mul_right (a := D) (by omega) ?_
  rw [Int.mul_assoc, ← l, ← a3]
  unfold sm4
  rw [Int.add_mul, Int.add_mul, Int.add_mul, ← (d (4 * g) (by omega)).1, ← (d (4 * g + 1) (by omega)).1, ← (d (4 * g + 2) (by omega)).1, ← (d (4 * g + 3) (by omega)).1]
theorem POU.ct {n L g s w r : Int} {P F Z P1 F1 m z : Nat → Int} (h : PAP n P L F Z m z) (c : POU n P L F Z g s w r P1 F1) : CT n P1 L F1 Z := by
  by_cases can : (1 ≤ w ∧ w ≤ 60) ∧ (0 ≤ s ∧ s ≤ 3) ∧ (0 ≤ g ∧ g < n) ∧ w ≤ Z g.toNat - F g.toNat
  · obtain ⟨-, x2, x3⟩ := c.2 can
    obtain ⟨hw, hs, hg, hr⟩ := can
    obtain ⟨h1, h2, h3, h4⟩ := h.ct
    have wL := Int.mul_nonneg (show 0 ≤ w by omega) (show 0 ≤ L by omega)
    rw [x2, x3]
    refine ⟨h1, h2, fun k hk => ?_, fun i hi => ?_⟩
    · have q := h3 k hk
      by_cases e : k = (g * 4 + s).toNat
      · subst e; rw [ms_at]; omega
      · rw [ms_ne _ _ e]; exact q
    · obtain ⟨a1, a2, a3⟩ := h4 i hi
      rw [sm4_ms]
      by_cases e : i = g.toNat
      · subst e
        rw [ms_at, if_pos (by omega), a3, Int.add_mul]
        exact ⟨by omega, a2, rfl⟩
      · rw [ms_ne _ _ e, if_neg (by omega), Int.add_zero]
        exact ⟨a1, a2, a3⟩
  · obtain ⟨-, x2, x3⟩ := c.1 can
    rw [x2, x3]
    exact h.ct
theorem PB.far {M M1 : Mm} {t : Nat} {n : Int} {m z : Nat → Int} {Q : Nat → Prop} (h : PB M t n m z) (f : Fr Q M M1) (hq : ∀ c, Q c → ¬ inT t c) : PB M1 t n m z := by
  obtain ⟨a, b, P, L, F, Z, tv, p⟩ := h
  exact ⟨a, b, P, L, F, Z, tv.far f hq, p⟩
theorem PUB.add {n L w : Int} {P F Z P1 F1 m z z1 : Nat → Int} (pub : PUB n P L F Z m z) (hn : n < 6) (c : CLR P P1 F F1 n) (hw : 1 ≤ w ∧ w ≤ 60) (h1 : z1 n.toNat = w) (h2 : ∀ j : Nat, (j : Int) < n → z1 j = z j) : PUB (n + 1) P1 L F1 (ms Z n.toNat w) m z1 := by
  obtain ⟨⟨a1, a2, a3, a4, a5⟩, a6⟩ := pub
  obtain ⟨x, y⟩ := AD ⟨a1.1, hn⟩ a2 a3 c
  refine ⟨⟨by omega, x, y, a4, fun g hg => ?_⟩, a6⟩
  by_cases q : g = n.toNat
  · subst q
    rw [ms_at, h1]
    exact ⟨rfl, by omega, by omega⟩
  · rw [ms_ne _ _ q, h2 g (by omega)]
    exact a5 g (by omega)
