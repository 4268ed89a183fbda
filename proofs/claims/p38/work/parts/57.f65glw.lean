/-! the relation of both sides' glasses -/
def G1 (M : Mm) : Prop := PB M 2 (M 99 0) (M 101) (fun j => M 99 (4 + j))
def G2 (M : Mm) : Prop := ∀ j : Nat, (j : Int) < M 1 2 → M 7 j = M 99 (10 + j)
def GI (M : Mm) (t c s k : Nat) : Prop := M 29 k ≠ 0 → PB M t (M 100 (49 * k)) (fun j => M 102 (25 * k + j)) (fun j => M 100 (49 * k + (4 + j))) ∧ ∀ j : Nat, (j : Int) < M c 2 → M s j = M 100 (49 * k + (10 + j))
def G7 (M : Mm) : Prop := ∃ m z : Nat → Int, PQ_ M 91 (M 97 44) m z ∧ ∀ j : Nat, (j : Int) < 4 * M 97 44 → M 116 j = tsM m ((j : Int) / 4) ((j : Int) % 4)
def GR (M : Mm) : Prop := G1 M ∧ G2 M ∧ GI M 11 10 16 0 ∧ GI M 20 19 25 1 ∧ RFR M ∧ (M 0 11 = M 97 10 ∧ M 0 13 = M 97 33) ∧ G7 M
section GRs
variable {M M1 M2 : Mm} {Q Q2 : Nat → Prop} {n r r1 r2 a b c L : Int} {m z z1 P F Z : Nat → Int}
theorem PB.zc {t : Nat} (h : PB M t n m z) (e : ∀ j : Nat, j < 6 → z1 j = z j) : PB M t n m z1 := by
  obtain ⟨a, b, P, L, F, Z, tv, ⟨h1, h2, h3, h4, h5⟩, l⟩ := h
  exact ⟨a, b, P, L, F, Z, tv, ⟨h1, h2, h3, h4, fun g hg => by rw [e g (by omega)]; exact h5 g hg⟩, l⟩
theorem PB.nn {t : Nat} (h : PB M t n m z) : M t 5 = n := by
  obtain ⟨a, b, P, L, F, Z, tv, p⟩ := h
  exact tv.2.2.1
theorem G1.nn (h : G1 M) : M 2 5 = M 99 0 := PB.nn h
theorem G1.fr (h : G1 M) (f : Fr Q M M1) (hq : ∀ c, Q c → ¬ inT 2 c) (e0 : M1 99 0 = M 99 0) (e9 : ∀ k : Nat, 4 ≤ k → k < 10 → M1 99 k = M 99 k) (e1 : E25 (M 101) (M1 101)) : G1 M1 := by
  unfold G1
  rw [e0]
  exact ((PB.far h f hq).cg e1).zc (fun j hj => e9 (4 + j) (by omega) (by omega))
theorem G1.st (h : PB M1 2 n m z) (f : Fr Q M1 M2) (hq : ∀ c, Q c → ¬ inT 2 c) (en : n = M2 99 0) (em : E25 m (M2 101)) (ez : ∀ j : Nat, j < 6 → M2 99 (4 + j) = z j) : G1 M2 := by
  unfold G1
  rw [← en]
  exact ((h.far f hq).cg em).zc ez
theorem G2.fr (h : G2 M) (e7 : M1 7 = M 7) (e12 : M1 1 2 = M 1 2) (hn : M 1 2 ≤ 3) (e9 : ∀ k : Nat, 4 ≤ k → k < 13 → M1 99 k = M 99 k) : G2 M1 := fun j hj => by
  rw [e7, e9 (10 + j) (by omega) (by omega)]
  exact h j (by omega)
theorem G2.zero (h : M1 1 2 = 0) : G2 M1 := fun j hj => by omega
theorem GI.fr {t c s k : Nat} (h : GI M t c s k) (f : Fr Q M M1) (hq : ∀ q, Q q → ¬ inT t q) (e29 : M1 29 k = M 29 k) (es : M1 s = M s) (ec : M1 c 2 = M c 2) (e100 : M1 100 = M 100) (e102 : M1 102 = M 102) : GI M1 t c s k := by
  intro q
  obtain ⟨x, y⟩ := h (by rw [← e29]; exact q)
  rw [e100, e102]
  exact ⟨x.far f hq, fun j hj => by rw [es]; exact y j (by omega)⟩
theorem RFR.fr (h : RFR M) (e0 : M1 0 10 = M 0 10) (e1 : M1 97 1 = M 97 1) (e96 : M1 96 = M 96) (e98 : M1 98 = M 98) : RFR M1 := by
  unfold RFR
  rw [e0, e1, e96, e98]
  exact h
theorem RFR.s2 (h : RFR M) (ha : -6 ≤ r2) (e : r1 = r2) (e0 : M2 0 10 = M1 0 10) (n0 : M1 0 10 = ngv r1) (n1 : M2 97 1 = ngv r2) (e96 : M2 96 = M1 96) (a0 : M1 96 = ansF (M 96) r1) (e98 : M1 98 = M 98) (a1 : M2 98 = telF (M1 98) r2) : RFR M2 := by
  subst e
  exact h.st ha (e0.trans n0) n1 (e96.trans a0) (by rw [a1, e98])
theorem G7.fr (h : G7 M) (f : Fr Q M M1) (hq : ∀ c, Q c → ¬ inT 91 c) (e44 : M1 97 44 = M 97 44) (e116 : M1 116 = M 116) : G7 M1 := by
  obtain ⟨m, z, p, q⟩ := h
  refine ⟨m, z, ?_, fun j hj => ?_⟩
  · rw [e44]; exact p.far f hq
  · rw [e116]; rw [e44] at hj; exact q j hj
/-- what stays as it was -/
theorem GR.k (h : GR M) (f : Fr Q M M2) (hq : ∀ c, Q c → ¬ (10 ≤ c ∧ c ≤ 29) ∧ ¬ inT 91 c ∧ c ≠ 100 ∧ c ≠ 102 ∧ c ≠ 116) (g1 : G1 M2) (g2 : G2 M2) (rf : RFR M2) (e6 : M2 0 11 = M2 97 10 ∧ M2 0 13 = M2 97 33) (e44 : M2 97 44 = M 97 44) : GR M2 := by
  obtain ⟨-, -, h3, h4, -, -, h7⟩ := h
  have e : ∀ c, (10 ≤ c ∧ c ≤ 29) ∨ c = 100 ∨ c = 102 ∨ c = 116 → M2 c = M c := fun c hc => f c (fun z => by have := hq c z; omega)
  refine ⟨g1, g2, h3.fr f (fun c z y => (hq c z).1 ?_) ?_ ?_ ?_ ?_ ?_, h4.fr f (fun c z y => (hq c z).1 ?_) ?_ ?_ ?_ ?_ ?_, rf, e6, h7.fr f (fun c z => (hq c z).2.1) e44 (e 116 (by omega))⟩
  · unfold inT at y; omega
  · rw [e 29 (by omega)]
  · exact e 16 (by omega)
  · rw [e 10 (by omega)]
  · exact e 100 (by omega)
  · exact e 102 (by omega)
  · unfold inT at y; omega
  · rw [e 29 (by omega)]
  · exact e 25 (by omega)
  · rw [e 19 (by omega)]
  · exact e 100 (by omega)
  · exact e 102 (by omega)
theorem IM.sz6 (h : IM M) : ∀ j : Nat, j < 6 → (fun j => M 99 (4 + j)) j ≤ 60 := fun j hj => (h.1.2.2.2.2.1 j hj).2
theorem G2.w (h : G2 M) (im : IM M) (hc : M 1 2 = M 99 1) : ∀ j : Nat, (j : Int) < M 1 2 → 1 ≤ M 7 j ∧ M 7 j ≤ 60 := fun j hj => by
  rw [h j hj]
  have q := im.1.sp (i := 10 + j) (by omega) (by omega)
  rw [show ((10 : Int) + j).toNat = 10 + j by omega] at q
  exact q
/-! reads -/
theorem GR.alike (pub : PUB n P L F Z m z) (p : (((0 ≤ a ∧ a < n) ∧ (0 ≤ b ∧ b < n) ∧ (0 ≤ c ∧ c ≤ 3)) → (r1 = 1 ∧ AST P F a b c) ∨ (r1 = 0 ∧ ¬ AST P F a b c)) ∧ (¬ ((0 ≤ a ∧ a < n) ∧ (0 ≤ b ∧ b < n) ∧ (0 ≤ c ∧ c ≤ 3)) → r1 = -1)) (q : (((0 ≤ a ∧ a < n) ∧ (0 ≤ b ∧ b < n) ∧ (0 ≤ c ∧ c ≤ 3)) → (r2 = 1 ∧ ALM m a b c) ∨ (r2 = 0 ∧ ¬ ALM m a b c)) ∧ (¬ ((0 ≤ a ∧ a < n) ∧ (0 ≤ b ∧ b < n) ∧ (0 ≤ c ∧ c ≤ 3)) → r2 = -1)) : r1 = r2 := by
  by_cases h : (0 ≤ a ∧ a < n) ∧ (0 ≤ b ∧ b < n) ∧ (0 ≤ c ∧ c ≤ 3)
  · have e := ALM.ast pub h.1 h.2.1 h.2.2
    rcases p.1 h with ⟨x1, x2⟩ | ⟨x1, x2⟩ <;> rcases q.1 h with ⟨y1, y2⟩ | ⟨y1, y2⟩
    · omega
    · exact absurd (e.mp x2) y2
    · exact absurd (e.mpr y2) x2
    · omega
  · rw [p.2 h, q.2 h]
theorem GR.count (rf : RFR M) (g2 : G2 M) (cc : M 2 5 = M 99 0 ∧ M 1 2 = M 99 1 ∧ M 1 4 = M 99 2 ∧ M 1 6 = M 99 3 ∧ M 31 1 = M 97 12) (h0 : 0 ≤ M 1 2) (p : (a = 0 → r1 = M 2 5) ∧ (a = 1 → r1 = M 1 2) ∧ (a = 2 → r1 = M 1 4) ∧ (a = 3 → r1 = M 1 6) ∧ (a = 4 → r1 = M 31 1) ∧ ((5 ≤ a ∧ a ≤ 9) → r1 = M 96 (a - 5).toNat) ∧ ((10 ≤ a ∧ a < 10 + M 1 2) → r1 = M 7 (a - 10).toNat) ∧ (¬ (0 ≤ a ∧ a < 10 + M 1 2) → r1 = -1)) (q : (a = 0 → r2 = M 99 0) ∧ (a = 1 → r2 = M 99 1) ∧ (a = 2 → r2 = M 99 2) ∧ (a = 3 → r2 = M 99 3) ∧ (a = 4 → r2 = M 97 12) ∧ (a = 5 → r2 = M 98 1) ∧ (a = 6 → r2 = M 98 2) ∧ (a = 7 → r2 = M 98 3) ∧ (a = 8 → r2 = M 98 5) ∧ (a = 9 → r2 = M 98 6) ∧ ((10 ≤ a ∧ a < 10 + M 99 1) → r2 = M 99 (a - 10 + 10).toNat) ∧ (¬ (0 ≤ a ∧ a < 10 + M 99 1) → r2 = -1)) : r1 = r2 := by
  obtain ⟨p0, p1, p2, p3, p4, p5, p6, p7⟩ := p
  obtain ⟨q0, q1, q2, q3, q4, q5, q6, q7, q8, q9, q10, q11⟩ := q
  obtain ⟨f0, f1, f2, f3, f4, f5⟩ := rf
  obtain ⟨c1, c2, c3, c4, c5⟩ := cc
  by_cases h : 0 ≤ a ∧ a < 10 + M 1 2
  · by_cases h10 : 10 ≤ a
    · rw [p6 (by omega), q10 (by omega), g2 _ (by omega), show (a - 10 + 10).toNat = 10 + (a - 10).toNat by omega]
    · by_cases h5 : 5 ≤ a
      · have e := p5 (by omega)
        rcases (show a = 5 ∨ a = 6 ∨ a = 7 ∨ a = 8 ∨ a = 9 by omega) with y | y | y | y | y
        · rw [show (a - 5).toNat = 0 by omega] at e; rw [e, q5 y, f1]
        · rw [show (a - 5).toNat = 1 by omega] at e; rw [e, q6 y, f2]
        · rw [show (a - 5).toNat = 2 by omega] at e; rw [e, q7 y, f3]
        · rw [show (a - 5).toNat = 3 by omega] at e; rw [e, q8 y, f4]
        · rw [show (a - 5).toNat = 4 by omega] at e; rw [e, q9 y, f5]
      · rcases (show a = 0 ∨ a = 1 ∨ a = 2 ∨ a = 3 ∨ a = 4 by omega) with y | y | y | y | y
        · rw [p0 y, q0 y, c1]
        · rw [p1 y, q1 y, c2]
        · rw [p2 y, q2 y, c3]
        · rw [p3 y, q3 y, c4]
        · rw [p4 y, q4 y, c5]
  · rw [p7 h, q11 (by omega)]
theorem GR.drawn (e : ∀ j : Nat, (j : Int) < 4 * n → M 116 j = tsM m ((j : Int) / 4) ((j : Int) % 4)) (p : (((0 ≤ a ∧ a < n) ∧ (0 ≤ b ∧ b ≤ 3)) → r1 = tsM m a b) ∧ (¬ ((0 ≤ a ∧ a < n) ∧ (0 ≤ b ∧ b ≤ 3)) → r1 = -1)) (q : (((0 ≤ a ∧ a < n) ∧ (0 ≤ b ∧ b ≤ 3)) → r2 = M 116 (4 * a + b).toNat) ∧ (¬ ((0 ≤ a ∧ a < n) ∧ (0 ≤ b ∧ b ≤ 3)) → r2 = -1)) : r1 = r2 := by
  by_cases h : (0 ≤ a ∧ a < n) ∧ (0 ≤ b ∧ b ≤ 3)
  · rw [p.1 h, q.1 h, e _ (by omega), show ((4 * a + b).toNat : Int) / 4 = a by omega, show ((4 * a + b).toNat : Int) % 4 = b by omega]
  · rw [p.2 h, q.2 h]
/-! what changes the glasses -/
theorem GR.glass (f : Fr Q M1 M2) (hq : ∀ c, Q c → ¬ inT 2 c) (e99 : M1 99 = M 99) (e101 : M2 101 = M 101) (hn : 0 ≤ M 99 0 ∧ M 99 0 ≤ 6) (p : ((a < 1 ∨ 60 < a) → r1 = -1 ∧ PB M1 2 (M 99 0) (M 101) (fun j => M 99 (4 + j))) ∧ (1 ≤ a → a ≤ 60 → M 99 0 = 6 → r1 = -5 ∧ PB M1 2 (M 99 0) (M 101) (fun j => M 99 (4 + j))) ∧ (1 ≤ a → a ≤ 60 → M 99 0 < 6 → r1 = M 99 0 ∧ ∀ z1 : Nat → Int, z1 (M 99 0).toNat = a → (∀ j : Nat, (j : Int) < M 99 0 → z1 j = (fun j => M 99 (4 + j)) j) → PB M1 2 (M 99 0 + 1) (M 101) z1)) (q : ((a < 1 ∨ 60 < a) → r2 = -1 ∧ M2 99 0 = M1 99 0) ∧ (1 ≤ a → a ≤ 60 → M1 99 0 = 6 → r2 = -5 ∧ M2 99 0 = M1 99 0) ∧ (1 ≤ a → a ≤ 60 → M1 99 0 < 6 → r2 = M1 99 0 ∧ M2 99 0 = M1 99 0 + 1)) (x0 : ¬ ((1 ≤ a ∧ a ≤ 60) ∧ M1 99 0 < 6) → M2 99 = M1 99) (x1 : ((1 ≤ a ∧ a ≤ 60) ∧ M1 99 0 < 6) → M2 99 = ms (ms (M1 99) (4 + M1 99 0).toNat a) 0 (M1 99 0 + 1)) : r1 = r2 ∧ G1 M2 ∧ ∀ k : Nat, 10 ≤ k → M2 99 k = M 99 k := by
  obtain ⟨pa, pb, pc⟩ := p
  obtain ⟨qa, qb, qc⟩ := q
  rw [e99] at qa qb qc x0 x1
  by_cases h : (1 ≤ a ∧ a ≤ 60) ∧ M 99 0 < 6
  · obtain ⟨s1, s2⟩ := pc h.1.1 h.1.2 h.2
    obtain ⟨t1, t2⟩ := qc h.1.1 h.1.2 h.2
    have x := x1 h
    have ne : ∀ k : Nat, k ≠ 0 → k ≠ (4 + M 99 0).toNat → M2 99 k = M 99 k := fun k h1 h2 => by rw [x, ms_ne _ _ h1, ms_ne _ _ h2]
    refine ⟨by omega, G1.st (s2 (fun j => M2 99 (4 + j)) ?_ (fun j hj => ne _ (by omega) (by omega))) f hq t2.symm (fun j _ => by rw [e101]) (fun j _ => rfl), fun k hk => ne k (by omega) (by omega)⟩
    show M2 99 (4 + (M 99 0).toNat) = a
    rw [x, ms_ne _ _ (by omega), show 4 + (M 99 0).toNat = (4 + M 99 0).toNat by omega, ms_at]
  · have x := x0 h
    have pq : r1 = r2 ∧ PB M1 2 (M 99 0) (M 101) (fun j => M 99 (4 + j)) := by
      by_cases c : a < 1 ∨ 60 < a
      · obtain ⟨s1, s2⟩ := pa c
        obtain ⟨t1, t2⟩ := qa c
        exact ⟨by omega, s2⟩
      · obtain ⟨s1, s2⟩ := pb (by omega) (by omega) (by omega)
        obtain ⟨t1, t2⟩ := qb (by omega) (by omega) (by omega)
        exact ⟨by omega, s2⟩
    exact ⟨pq.1, G1.st pq.2 f hq (by rw [x]) (fun j _ => by rw [e101]) (fun j _ => by rw [x]), fun k _ => by rw [x]⟩
theorem GR.size (g : G2 M) (hn : 0 ≤ M 1 2 ∧ M 1 2 ≤ 3) (hc : M 1 2 = M 99 1) (e99 : M1 99 = M 99) (e7 : M2 7 = M1 7) (e12 : M2 1 2 = M1 1 2) (p : ((a < 1 ∨ 60 < a) → r1 = -1 ∧ M1 1 2 = M 1 2) ∧ (1 ≤ a → a ≤ 60 → 3 ≤ M 1 2 → r1 = -5 ∧ M1 1 2 = M 1 2) ∧ (1 ≤ a → a ≤ 60 → M 1 2 < 3 → r1 = M 1 2 ∧ M1 1 2 = M 1 2 + 1)) (x0 : ¬ ((1 ≤ a ∧ a ≤ 60) ∧ M 1 2 < 3) → M1 7 = M 7) (x1 : ((1 ≤ a ∧ a ≤ 60) ∧ M 1 2 < 3) → M1 7 = ms (M 7) (M 1 2).toNat a) (y0 : ∀ k : Nat, 4 ≤ k → k < 13 → (k : Int) ≠ 10 + M1 99 1 → M2 99 k = M1 99 k) (y1 : ((1 ≤ a ∧ a ≤ 60) ∧ M1 99 1 < 3) → M2 99 (10 + M1 99 1).toNat = a) : G2 M2 := by
  rw [e99, ← hc] at y0 y1
  obtain ⟨pa, pb, pc⟩ := p
  intro j hj
  by_cases h : (1 ≤ a ∧ a ≤ 60) ∧ M 1 2 < 3
  · have e := (pc h.1.1 h.1.2 h.2).2
    rw [e7, x1 h]
    by_cases w : (j : Int) = M 1 2
    · have y := y1 h
      rw [show (10 + M 1 2).toNat = 10 + j by omega] at y
      rw [y, show (M 1 2).toNat = j by omega, ms_at]
    · rw [ms_ne _ _ (by omega), y0 (10 + j) (by omega) (by omega) (by omega)]
      exact g j (by omega)
  · have e : M1 1 2 = M 1 2 := by
      by_cases c : a < 1 ∨ 60 < a
      · exact (pa c).2
      · exact (pb (by omega) (by omega) (by omega)).2
    rw [e7, x0 h, y0 (10 + j) (by omega) (by omega) (by omega)]
    exact g j (by omega)
theorem GR.night (g : GR M) (im : IM M) (hc : M 1 2 = M 99 1 ∧ 0 ≤ M 1 2 ∧ M 1 2 ≤ 3) (e99 : M1 99 = M 99) (e101 : M1 101 = M 101) (f2 : Fr Q M1 M2) (hq : ∀ c, Q c → ¬ inT 91 c) (f : Fr Q2 M M2) (h44 : M1 97 44 = M 97 44) (h116 : M1 116 = M 116)
    (p0 : ¬ ((0 ≤ a ∧ a ≤ 1000000) ∧ (1 ≤ b ∧ b ≤ 20)) → r1 = -1 ∧ (∀ c : Nat, 91 ≤ c → c ≤ 95 → M1 c = M c))
    (p1 : ((0 ≤ a ∧ a ≤ 1000000) ∧ (1 ≤ b ∧ b ≤ 20)) → r1 = ntC (fun j => M 99 (4 + j)) (M 7) (M 101) (M 99 0) (M 1 2) a (ntK (M 99 0) (M 1 2) b) ∧ PQ_ M1 91 (M 99 0) (ntM (fun j => M 99 (4 + j)) (M 7) (M 101) (M 99 0) (M 1 2) a (ntK (M 99 0) (M 1 2) b)) (fun j => M 99 (4 + j)))
    (q0 : ¬ ((0 ≤ a ∧ a ≤ 1000000) ∧ (1 ≤ b ∧ b ≤ 20)) → r2 = -1 ∧ M2 116 = M1 116 ∧ M2 97 44 = M1 97 44)
    (q1 : ((0 ≤ a ∧ a ≤ 1000000) ∧ (1 ≤ b ∧ b ≤ 20)) → r2 = ntC (fun j => M1 99 (4 + j)) (fun j => M1 99 (10 + j)) (M1 101) (M1 99 0) (M1 99 1) a (ntK (M1 99 0) (M1 99 1) b) ∧ M2 97 44 = M1 99 0 ∧ ∀ j : Nat, (j : Int) < 4 * M1 99 0 → M2 116 j = tsM (ntM (fun j => M1 99 (4 + j)) (fun j => M1 99 (10 + j)) (M1 101) (M1 99 0) (M1 99 1) a (ntK (M1 99 0) (M1 99 1) b)) ((j : Int) / 4) ((j : Int) % 4)) : r1 = r2 ∧ G7 M2 := by
  rw [e99, e101, ← hc.1] at q1
  by_cases h : (0 ≤ a ∧ a ≤ 1000000) ∧ (1 ≤ b ∧ b ≤ 20)
  · obtain ⟨s1, s2⟩ := p1 h
    obtain ⟨t1, t2, t3⟩ := q1 h
    have e : ntM (fun j => M 99 (4 + j)) (M 7) (M 101) (M 99 0) (M 1 2) a (ntK (M 99 0) (M 1 2) b) = ntM (fun j => M 99 (4 + j)) (fun j => M 99 (10 + j)) (M 101) (M 99 0) (M 1 2) a (ntK (M 99 0) (M 1 2) b) ∧ ntC (fun j => M 99 (4 + j)) (M 7) (M 101) (M 99 0) (M 1 2) a (ntK (M 99 0) (M 1 2) b) = ntC (fun j => M 99 (4 + j)) (fun j => M 99 (10 + j)) (M 101) (M 99 0) (M 1 2) a (ntK (M 99 0) (M 1 2) b) := by
      by_cases c0 : M 1 2 ≤ 0
      · rw [ntK_0 (Or.inr c0)]; exact ⟨rfl, rfl⟩
      · exact nt_cg (by omega) (fun j hj => g.2.1 j hj) _
    refine ⟨by rw [s1, t1, e.2], _, (fun j => M 99 (4 + j)), ?_, fun j hj => t3 j (by rw [t2] at hj; exact hj)⟩
    rw [t2, ← e.1]
    exact s2.far f2 hq
  · obtain ⟨s1, s2⟩ := p0 h
    obtain ⟨t1, t2, t3⟩ := q0 h
    obtain ⟨m, z, x, y⟩ := g.2.2.2.2.2.2
    obtain ⟨ta, tb, P, L, F, Z, tv, pap⟩ := x
    refine ⟨by omega, m, z, ?_, fun j hj => by rw [t2, h116]; exact y j (by rw [t3, h44] at hj; exact hj)⟩
    rw [t3, h44]
    refine PQ_.far (M := M1) ⟨ta, tb, P, L, F, Z, ?_, pap⟩ f2 hq
    obtain ⟨⟨v1, v2⟩, v3, v4, v5, v6, v7, v8⟩ := tv
    have e91 := s2 91 (by omega) (by omega)
    refine ⟨⟨by rw [e91]; exact v1, by rw [e91]; exact v2⟩, v3, by rw [e91]; exact v4, ?_, by rw [e91]; exact v6, (s2 _ (by omega) (by omega)).trans v7, (s2 _ (by omega) (by omega)).trans v8⟩
    rw [s2 ta (by omega) (by omega)]
    exact v5
end GRs
