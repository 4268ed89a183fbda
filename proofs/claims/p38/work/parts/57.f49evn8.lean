/-! whole evenings, run -/
def EVR (T : Nat → Int) (len n : Int) (z m : Nat → Int) (M1 : Mm) (r : Int) : Prop := ∃ (K W S E : Nat → Int) (mm : Nat), TZ T len K W S E mm ∧ EVQ S (tXf K W 12 0 0) (M1 0 12) ∧ ((tXf K W 12 0 0).1 = 0 → r = -6 ∧ M1 0 13 = -1 ∧ PB M1 2 n m z) ∧ ((tXf K W 12 0 0).1 = 1 → ∃ N : Nat, CNT K W N ∧ EVO n z K W m N r (M1 0 13) ∧ (r < 0 → PB M1 2 n m z) ∧ (0 ≤ r → PB M1 2 n (evC n z K W m N).2.1 z))
def EVM (K W S : Nat → Int) (n : Int) (z m : Nat → Int) (M1 : Mm) (r : Int) : Prop := EVQ S (tXf K W 12 0 0) (M1 97 17) ∧ ((tXf K W 12 0 0).1 = 0 → r = -6 ∧ M1 97 33 = -1 ∧ E25 m (M1 101)) ∧ ((tXf K W 12 0 0).1 = 1 → ∃ N : Nat, CNT K W N ∧ EVO n z K W m N r (M1 97 33) ∧ (r < 0 → E25 m (M1 101)) ∧ (0 ≤ r → E25 (evC n z K W m N).2.1 (M1 101)))
theorem PB.cg {M : Mm} {t : Nat} {n : Int} {m m1 z : Nat → Int} (h : PB M t n m z) (e : E25 m m1) : PB M t n m1 z := by
  obtain ⟨a, b, P, L, F, Z, tv, p⟩ := h
  exact ⟨a, b, P, L, F, Z, tv, p.cg e⟩
/-- the law's step: both evenings end alike -/
theorem EVX {K W S : Nat → Int} {n : Int} {z m : Nat → Int} {M1 M2 : Mm} {r r2 : Int} (q12 : EVQ S (tXf K W 12 0 0) (M1 0 12)) (q0 : (tXf K W 12 0 0).1 = 0 → r = -6 ∧ M1 0 13 = -1 ∧ PB M1 2 n m z) (q1 : (tXf K W 12 0 0).1 = 1 → ∃ N : Nat, CNT K W N ∧ EVO n z K W m N r (M1 0 13) ∧ (r < 0 → PB M1 2 n m z) ∧ (0 ≤ r → PB M1 2 n (evC n z K W m N).2.1 z)) (h : EVM K W S n z m M2 r2) : r = r2 ∧ M1 0 12 = M2 97 17 ∧ M1 0 13 = M2 97 33 ∧ PB M1 2 n (M2 101) z := by
  obtain ⟨h12, h0, h1⟩ := h
  have e12 := q12.det h12
  rcases tXf01 K W 12 0 0 with c | c
  · obtain ⟨a, b, d⟩ := q0 c
    obtain ⟨a', b', d'⟩ := h0 c
    exact ⟨by omega, e12, by omega, d.cg d'⟩
  · obtain ⟨N, c1, o1, x1, y1⟩ := q1 c
    obtain ⟨N', c2, o2, x2, y2⟩ := h1 c
    have eN := c1.det c2
    subst eN
    obtain ⟨e1, e2⟩ := o1.det o2
    refine ⟨e1, e12, e2, ?_⟩
    by_cases s : r < 0
    · exact (x1 s).cg (x2 (by omega))
    · exact (y1 (by omega)).cg (y2 (by omega))
