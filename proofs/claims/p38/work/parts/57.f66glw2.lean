/-! rows, evenings, images -/
section GR2s
variable {M M1 M2 : Mm} {Q : Nat → Prop} {n r r1 r2 a : Int} {m m1 z : Nat → Int}
theorem GR.row (h : RWQ (M 99 0) (fun j => M 99 (4 + j)) (M 32) (M 101) (M 31 1) (M 0 11) r1 (M1 0 11) m1) (pb : PB M1 2 (M 99 0) m1 (fun j => M 99 (4 + j))) (q : RWQ (M1 99 0) (fun j => M1 99 (4 + j)) (M1 106) (M1 101) (M1 97 12) (M1 97 10) r2 (M2 97 10) (M2 101)) (e99 : M1 99 = M 99) (e101 : M1 101 = M 101) (e106 : M1 106 = M 106) (e12 : M1 97 12 = M 31 1) (e10 : M1 97 10 = M 0 11) (tr : TR M) (f2 : Fr Q M1 M2) (hq : ∀ c, Q c → ¬ inT 2 c) (f99 : M2 99 = M1 99) : r1 = r2 ∧ M1 0 11 = M2 97 10 ∧ G1 M2 := by
  rw [e99, e101, e106, e12, e10] at q
  obtain ⟨x, y, w⟩ := h.det q (fun k hk => (tr.1 k hk).1)
  exact ⟨x, y, G1.st pb f2 hq (by rw [f99, e99]) (fun j _ => by rw [w]) (fun j _ => by rw [f99, e99])⟩
theorem PB.eq {t : Nat} (h : PB M t n m z) (e : ∀ c, t ≤ c → c ≤ t + 4 → M1 c = M c) : PB M1 t n m z := PB.far (Q := fun c => ¬ (t ≤ c ∧ c ≤ t + 4)) h (fun c hc => by
  by_cases y : t ≤ c ∧ c ≤ t + 4
  · exact e c y.1 y.2
  · exact absurd y hc) (fun c q y => q y)
theorem GI.cg {t c s k : Nat} (h : GI M t c s k) (et : ∀ q, t ≤ q → q ≤ t + 4 → M1 q = M q) (e29 : M1 29 k = M 29 k) (es : M1 s = M s) (ec : M1 c 2 = M c 2) (hc : M c 2 ≤ 3) (e100 : ∀ j : Nat, j < 49 → M1 100 (49 * k + j) = M 100 (49 * k + j)) (e102 : ∀ j : Nat, j < 25 → M1 102 (25 * k + j) = M 102 (25 * k + j)) : GI M1 t c s k := by
  intro q
  obtain ⟨x, y⟩ := h (by rw [← e29]; exact q)
  have e0 := e100 0 (by omega)
  rw [Nat.add_zero] at e0
  refine ⟨?_, fun j hj => ?_⟩
  · rw [e0]
    exact ((x.eq et).cg (fun j hj => e102 j hj)).zc (fun j hj => e100 (4 + j) (by omega))
  · rw [es, e100 (10 + j) (by omega)]
    exact y j (by omega)
/-- an image that was just made -/
theorem GI.mk_ {t c s k : Nat} (pb : PB M1 t (M 99 0) (M 101) (fun j => M 99 (4 + j))) (et : ∀ q, t ≤ q → q ≤ t + 4 → M2 q = M1 q) (g2 : G2 M) (hs : ∀ k : Nat, k < 3 → M1 s k = M 7 k) (es : M2 s = M1 s) (ec : M2 c 2 = M 1 2) (hc : M 1 2 ≤ 3) (e99 : M1 99 = M 99) (e101 : M1 101 = M 101) (e100 : ∀ j : Nat, j < 49 → M2 100 (49 * k + j) = M1 99 j) (e102 : ∀ j : Nat, j < 25 → M2 102 (25 * k + j) = M1 101 j) : GI M2 t c s k := by
  intro q
  have e0 := e100 0 (by omega)
  rw [Nat.add_zero, e99] at e0
  refine ⟨?_, fun j hj => ?_⟩
  · rw [e0]
    exact ((pb.eq et).cg (fun j hj => by rw [e102 j hj, e101])).zc (fun j hj => by rw [e100 (4 + j) (by omega), e99])
  · rw [es, hs j (by omega), e100 (10 + j) (by omega), e99]
    exact g2 j (by omega)
theorem GR.image (g : GR M) (hc : M 1 2 ≤ 3) (h10 : M 10 2 ≤ 3) (h19 : M 19 2 ≤ 3) (k1 : ∀ c, 97 ≤ c → M1 c = M c) (k2 : ∀ c, c ≤ 96 → M2 c = M1 c)
    (x1 : (a = 0 → PB M1 11 (M 99 0) (M 101) (fun j => M 99 (4 + j)) ∧ (∀ k : Nat, k < 3 → M1 16 k = M 7 k) ∧ (∀ c : Nat, 19 ≤ c → c ≤ 27 → M1 c = M c)) ∧ (a = 1 → PB M1 20 (M 99 0) (M 101) (fun j => M 99 (4 + j)) ∧ (∀ k : Nat, k < 3 → M1 25 k = M 7 k) ∧ (∀ c : Nat, 10 ≤ c → c ≤ 18 → M1 c = M c)) ∧ (¬ (a = 0 ∨ a = 1) → ∀ c : Nat, 10 ≤ c → c ≤ 27 → M1 c = M c))
    (x2 : ((0 ≤ a ∧ a ≤ 1) → (∀ j : Nat, j < 49 → M2 100 (49 * a.toNat + j) = M1 99 j) ∧ (∀ q : Nat, (q < 49 * a.toNat ∨ 49 * a.toNat + 49 ≤ q) → M2 100 q = M1 100 q) ∧ (∀ j : Nat, j < 25 → M2 102 (25 * a.toNat + j) = M1 101 j) ∧ (∀ q : Nat, (q < 25 * a.toNat ∨ 25 * a.toNat + 25 ≤ q) → M2 102 q = M1 102 q)) ∧ (¬ (0 ≤ a ∧ a ≤ 1) → M2 100 = M1 100 ∧ M2 102 = M1 102))
    (c0 : a = 0 → M2 10 2 = M 1 2) (c1 : a ≠ 0 → M2 10 2 = M 10 2 ∧ M2 29 0 = M 29 0) (d0 : a = 1 → M2 19 2 = M 1 2) (d1 : a ≠ 1 → M2 19 2 = M 19 2 ∧ M2 29 1 = M 29 1) : GI M2 11 10 16 0 ∧ GI M2 20 19 25 1 := by
  obtain ⟨g1, g2, g3, g4, -⟩ := g
  have e99 := k1 99 (by omega)
  have e100 := k1 100 (by omega)
  have e101 := k1 101 (by omega)
  have e102 := k1 102 (by omega)
  by_cases h0 : a = 0
  · obtain ⟨p1, p2, p3⟩ := x1.1 h0
    obtain ⟨q1, q2, q3, q4⟩ := x2.1 (by omega)
    rw [show a.toNat = 0 by omega] at q1 q2 q3 q4
    obtain ⟨d2, d3⟩ := d1 (by omega)
    refine ⟨GI.mk_ (c := 10) p1 (fun q _ _ => k2 q (by omega)) g2 p2 (k2 16 (by omega)) (c0 h0) hc e99 e101 q1 q3, GI.cg g4 (fun q _ _ => (k2 q (by omega)).trans (p3 q (by omega) (by omega))) d3 ((k2 25 (by omega)).trans (p3 25 (by omega) (by omega))) d2 h19 (fun j _ => by rw [q2 _ (by omega), e100]) (fun j _ => by rw [q4 _ (by omega), e102])⟩
  · obtain ⟨c2, c3⟩ := c1 h0
    by_cases h1 : a = 1
    · obtain ⟨p1, p2, p3⟩ := x1.2.1 h1
      obtain ⟨q1, q2, q3, q4⟩ := x2.1 (by omega)
      rw [show a.toNat = 1 by omega] at q1 q2 q3 q4
      refine ⟨GI.cg g3 (fun q _ _ => (k2 q (by omega)).trans (p3 q (by omega) (by omega))) c3 ((k2 16 (by omega)).trans (p3 16 (by omega) (by omega))) c2 h10 (fun j _ => by rw [q2 _ (by omega), e100]) (fun j _ => by rw [q4 _ (by omega), e102]), GI.mk_ (c := 19) p1 (fun q _ _ => k2 q (by omega)) g2 p2 (k2 25 (by omega)) (d0 h1) hc e99 e101 q1 q3⟩
    · have p := x1.2.2 (by omega)
      obtain ⟨q1, q2⟩ := x2.2 (by omega)
      obtain ⟨d2, d3⟩ := d1 h1
      exact ⟨GI.cg g3 (fun q _ _ => (k2 q (by omega)).trans (p q (by omega) (by omega))) c3 ((k2 16 (by omega)).trans (p 16 (by omega) (by omega))) c2 h10 (fun j _ => by rw [q1, e100]) (fun j _ => by rw [q2, e102]), GI.cg g4 (fun q _ _ => (k2 q (by omega)).trans (p q (by omega) (by omega))) d3 ((k2 25 (by omega)).trans (p 25 (by omega) (by omega))) d2 h19 (fun j _ => by rw [q1, e100]) (fun j _ => by rw [q2, e102])⟩
theorem GR.back (g : GR M) (hz : M 29 0 = M 103 0 ∧ M 29 1 = M 103 1) (h10 : M 10 2 ≤ 3) (h19 : M 19 2 ≤ 3) (h12 : M 1 2 ≤ 3) (k1 : ∀ c, 97 ≤ c → M1 c = M c) (k2 : ∀ c, c ≤ 96 → M2 c = M1 c)
    (x1 : ((a = 0 ∧ M 29 0 ≠ 0) → PB M1 2 (M 100 (49 * 0)) (fun j => M 102 (25 * 0 + j)) (fun j => M 100 (49 * 0 + (4 + j))) ∧ ∀ k : Nat, k < 3 → M1 7 k = M 16 k) ∧ ((a = 1 ∧ M 29 1 ≠ 0) → PB M1 2 (M 100 (49 * 1)) (fun j => M 102 (25 * 1 + j)) (fun j => M 100 (49 * 1 + (4 + j))) ∧ ∀ k : Nat, k < 3 → M1 7 k = M 25 k) ∧ (¬ ((a = 0 ∧ M 29 0 ≠ 0) ∨ (a = 1 ∧ M 29 1 ≠ 0)) → ∀ c : Nat, 1 ≤ c → c ≤ 9 → M1 c = M c))
    (x2 : (((0 ≤ a ∧ a ≤ 1) ∧ M1 103 a.toNat ≠ 0) → (∀ j : Nat, j < 49 → M2 99 j = M1 100 (49 * a.toNat + j)) ∧ (∀ j : Nat, j < 25 → M2 101 j = M1 102 (25 * a.toNat + j))) ∧ (¬ ((0 ≤ a ∧ a ≤ 1) ∧ M1 103 a.toNat ≠ 0) → M2 99 = M1 99 ∧ M2 101 = M1 101))
    (c0 : a = 0 → M 29 0 ≠ 0 → M2 1 2 = M 10 2) (c1 : a = 1 → M 29 1 ≠ 0 → M2 1 2 = M 19 2) (c2 : ¬ ((a = 0 ∧ M 29 0 ≠ 0) ∨ (a = 1 ∧ M 29 1 ≠ 0)) → M2 1 2 = M 1 2) : G1 M2 ∧ G2 M2 := by
  obtain ⟨g1, g2, g3, g4, -⟩ := g
  have e99 := k1 99 (by omega)
  have e100 := k1 100 (by omega)
  have e101 := k1 101 (by omega)
  have e102 := k1 102 (by omega)
  have e103 := k1 103 (by omega)
  rw [e103] at x2
  have st : ∀ (k : Nat) (R : Nat → Int) (c : Nat), PB M1 2 (M 100 (49 * k)) (fun j => M 102 (25 * k + j)) (fun j => M 100 (49 * k + (4 + j))) → (∀ j : Nat, j < 3 → M1 7 j = R j) → (∀ j : Nat, (j : Int) < M2 1 2 → R j = M 100 (49 * k + (10 + j))) → M2 1 2 ≤ 3 → (∀ j : Nat, j < 49 → M2 99 j = M1 100 (49 * k + j)) → (∀ j : Nat, j < 25 → M2 101 j = M1 102 (25 * k + j)) → G1 M2 ∧ G2 M2 := by
    intro k R c pb hr hs h3 q1 q2
    have e0 := q1 0 (by omega)
    rw [Nat.add_zero, e100] at e0
    refine ⟨?_, fun j hj => ?_⟩
    · unfold G1
      rw [e0]
      exact ((pb.eq (fun q _ _ => k2 q (by omega))).cg (fun j hj => by rw [q2 j hj, e102])).zc (fun j hj => by rw [q1 (4 + j) (by omega), e100])
    · rw [k2 7 (by omega), hr j (by omega), hs j hj, q1 (10 + j) (by omega), e100]
  by_cases h0 : a = 0 ∧ M 29 0 ≠ 0
  · obtain ⟨p1, p2⟩ := x1.1 h0
    obtain ⟨q1, q2⟩ := x2.1 ⟨by omega, by rw [show a.toNat = 0 by omega]; omega⟩
    rw [show a.toNat = 0 by omega] at q1 q2
    have e := c0 h0.1 h0.2
    exact st 0 (M 16) 10 p1 p2 (fun j hj => (g3 h0.2).2 j (by omega)) (by omega) q1 q2
  · by_cases h1 : a = 1 ∧ M 29 1 ≠ 0
    · obtain ⟨p1, p2⟩ := x1.2.1 h1
      obtain ⟨q1, q2⟩ := x2.1 ⟨by omega, by rw [show a.toNat = 1 by omega]; omega⟩
      rw [show a.toNat = 1 by omega] at q1 q2
      have e := c1 h1.1 h1.2
      exact st 1 (M 25) 19 p1 p2 (fun j hj => (g4 h1.2).2 j (by omega)) (by omega) q1 q2
    · have p := x1.2.2 (by omega)
      obtain ⟨q1, q2⟩ := x2.2 (by
        intro q
        rcases (show a = 0 ∨ a = 1 by omega) with y | y
        · have y2 := q.2
          rw [show a.toNat = 0 by omega] at y2
          omega
        · have y2 := q.2
          rw [show a.toNat = 1 by omega] at y2
          omega)
      have e := c2 (by omega)
      refine ⟨?_, fun j hj => ?_⟩
      · unfold G1
        rw [q1, e99, q2, e101]
        exact PB.eq (M := M) g1 (fun q _ _ => (k2 q (by omega)).trans (p q (by omega) (by omega)))
      · rw [k2 7 (by omega), p 7 (by omega) (by omega), q1, e99]
        exact g2 j (by omega)
end GR2s
