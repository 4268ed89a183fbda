/-! the reference's public calls -/
def ALM (m : Nat → Int) (a b c : Int) : Prop := (if flm m a.toNat = 0 then 0 else m (4 * a + c).toNat) * (if flm m b.toNat = 0 then 1 else flm m b.toNat) = (if flm m b.toNat = 0 then 0 else m (4 * b + c).toNat) * (if flm m a.toNat = 0 then 1 else flm m a.toNat)
theorem ALM.ast {n L a b c : Int} {P F Z m z : Nat → Int} (pub : PUB n P L F Z m z) (ha : 0 ≤ a ∧ a < n) (hb : 0 ≤ b ∧ b < n) (hc : 0 ≤ c ∧ c ≤ 3) : AST P F a b c ↔ ALM m a b c := by
  have ea := pub.1.full (i := a.toNat) (by omega)
  have eb := pub.1.full (i := b.toNat) (by omega)
  have pa := pub.1.2.1.eq pub.1.2.2.2.1 pub.2 (k := (a * 4 + c).toNat) (by omega)
  have pb := pub.1.2.1.eq pub.1.2.2.2.1 pub.2 (k := (b * 4 + c).toNat) (by omega)
  have za := pub.1.ct.p0 ha hc
  have zb := pub.1.ct.p0 hb hc
  unfold AST ALM
  rw [ea, eb, show (4 * a + c).toNat = (a * 4 + c).toNat by omega, show (4 * b + c).toNat = (b * 4 + c).toNat by omega, ← pa, ← pb]
  by_cases x : F a.toNat = 0
  · rw [x, Int.zero_mul] at za
    rw [if_pos x, if_pos x, show P (a * 4 + c).toNat = 0 by omega]
    by_cases y : F b.toNat = 0
    · rw [y, Int.zero_mul] at zb
      rw [if_pos y, if_pos y, show P (b * 4 + c).toNat = 0 by omega]
    · rw [if_neg y, if_neg y]
  · rw [if_neg x, if_neg x]
    by_cases y : F b.toNat = 0
    · rw [y, Int.zero_mul] at zb
      rw [if_pos y, if_pos y, show P (b * 4 + c).toNat = 0 by omega]
    · rw [if_neg y, if_neg y]
theorem z4 {m m0 : Nat → Int} {a : Int} (ha : 0 ≤ a ∧ a ≤ 5) (h0 : m0 (4 * a.toNat + 0) = 0) (h1 : m0 (4 * a.toNat + 1) = 0) (h2 : m0 (4 * a.toNat + 2) = 0) (h3 : m0 (4 * a.toNat + 3) = 0) (u : ∀ k : Nat, ¬ (4 * a.toNat ≤ k ∧ k < 4 * a.toNat + 4) → m0 k = m k) : ∀ j : Nat, j < 25 → m0 j = if (j : Int) / 4 = a then 0 else m j := by
  intro j hj
  by_cases c : (j : Int) / 4 = a
  · rw [if_pos c]
    rcases (show j = 4 * a.toNat + 0 ∨ j = 4 * a.toNat + 1 ∨ j = 4 * a.toNat + 2 ∨ j = 4 * a.toNat + 3 by omega) with z | z | z | z <;> rw [z] <;> assumption
  · rw [if_neg c]; exact u j (by omega)
theorem SPO.r {m z m1 : Nat → Int} {g k w r : Int} (h : SPO m z g k w r m1) : r = 0 ∨ r = -3 ∨ r = -5 := by
  by_cases c : g ≠ k ∧ w ≤ flm m g.toNat ∧ (k = -1 ∨ w ≤ z k.toNat - flm m k.toNat)
  · rcases h.2 c with x | x
    · exact Or.inl x.1
    · exact Or.inr (Or.inr x.1)
  · exact Or.inr (Or.inl (h.1 c).1)
theorem FIL.r {m z m1 : Nat → Int} {g s w r : Int} (h : FIL m z g s w r m1) : r = 0 ∨ r = -3 := by
  by_cases c : w ≤ z g.toNat - flm m g.toNat
  · exact Or.inl (h.1 c).1
  · exact Or.inr (h.2 c).1
