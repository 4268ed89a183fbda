/-! wines: what both sides hold -/
def shf (f : Nat → Int) (p q : Int) : Nat → Int := fun k => if p ≤ (k : Int) ∧ (k : Int) < q then f (k + 3) else f k
theorem shf_0 (f : Nat → Int) (p : Int) : shf f p p = f := by
  funext k
  unfold shf
  rw [if_neg (by omega)]
theorem shf_s {f g : Nat → Int} {p q v : Int} {i : Nat} (h : f = shf g p q) (hp : p ≤ q) (h0 : 0 ≤ q) (hi : i = q.toNat) (hv : v = f (q + 3).toNat) : ms f i v = shf g p (q + 1) := by
  funext k
  unfold ms
  by_cases hk : k = i
  · rw [if_pos hk, hv, h]
    unfold shf
    rw [if_neg (by omega), if_pos (by omega), hk, hi, show (q + 3).toNat = q.toNat + 3 by omega]
  · rw [if_neg hk, h]
    unfold shf
    by_cases c : p ≤ (k : Int) ∧ (k : Int) < q
    · rw [if_pos c, if_pos (by omega)]
    · rw [if_neg c, if_neg (by omega)]
def tri (f : Nat → Int) (k a b c : Int) : Nat → Int := ms (ms (ms f (3 * k).toNat a) (3 * k + 1).toNat b) (3 * k + 2).toNat c
def tri3 (f : Nat → Int) (o k a b c : Int) : Nat → Int := ms (ms (ms f (o + 3 * k).toNat a) (o + 3 * k + 1).toNat b) (o + 3 * k + 2).toNat c
theorem tri_at {f g : Nat → Int} {o n a b c : Int} {j : Nat} (ho : 0 ≤ o) (hn : 0 ≤ n) (h : ∀ i : Nat, (i : Int) < 3 * n → f i = g (o.toNat + i)) (hj : (j : Int) < 3 * (n + 1)) : tri f n a b c j = tri3 g o n a b c (o.toNat + j) := by
  unfold tri tri3 ms
  by_cases h2 : j = (3 * n + 2).toNat
  · rw [if_pos h2, if_pos (show o.toNat + j = (o + 3 * n + 2).toNat by omega)]
  · rw [if_neg h2, if_neg (show ¬ o.toNat + j = (o + 3 * n + 2).toNat by omega)]
    by_cases h1 : j = (3 * n + 1).toNat
    · rw [if_pos h1, if_pos (show o.toNat + j = (o + 3 * n + 1).toNat by omega)]
    · rw [if_neg h1, if_neg (show ¬ o.toNat + j = (o + 3 * n + 1).toNat by omega)]
      by_cases h0 : j = (3 * n).toNat
      · rw [if_pos h0, if_pos (show o.toNat + j = (o + 3 * n).toNat by omega)]
      · rw [if_neg h0, if_neg (show ¬ o.toNat + j = (o + 3 * n).toNat by omega)]
        exact h j (by omega)
/-- the wines of the state and of both images -/
def WR (M : Mm) : Prop := (∀ k : Nat, (k : Int) < 3 * M 1 6 → M 9 k = M 99 (31 + k)) ∧ (∀ k : Nat, (k : Int) < 3 * M 10 6 → M 18 k = M 100 (31 + k)) ∧ (∀ k : Nat, (k : Int) < 3 * M 19 6 → M 27 k = M 100 (80 + k))
theorem WR.fr {M M1 : Mm} (h : WR M) (a : M1 9 = M 9) (b : M1 18 = M 18) (c : M1 27 = M 27) (d : ∀ k : Nat, 31 ≤ k → M1 99 k = M 99 k) (e : M1 100 = M 100) (n1 : M1 1 6 = M 1 6) (n2 : M1 10 6 = M 10 6) (n3 : M1 19 6 = M 19 6) : WR M1 := by
  obtain ⟨h1, h2, h3⟩ := h
  refine ⟨fun k hk => ?_, fun k hk => ?_, fun k hk => ?_⟩
  · rw [a, d _ (by omega)]; exact h1 k (by omega)
  · rw [b, e]; exact h2 k (by omega)
  · rw [c, e]; exact h3 k (by omega)
theorem wOK_of {M : Mm} (hr : rowOK (M 99)) (h : WR M) (hn : 0 ≤ M 1 6 ∧ M 1 6 ≤ 6) : wOK (M 9) 0 (M 1 6).toNat := by
  intro j h0 h1
  have k := hr.2.2.2.2.2.2.2 j (by omega)
  rw [h.1 (3 * j) (by omega), h.1 (3 * j + 1) (by omega), h.1 (3 * j + 2) (by omega)]
  rw [show 31 + (3 * j + 1) = 32 + 3 * j by omega, show 31 + (3 * j + 2) = 33 + 3 * j by omega]
  exact k
def wiC (M M1 : Mm) (a b c : Int) : Prop := (M1 1 6 = M 1 6 + 1 → M1 9 = tri (M 9) (M 1 6) a b c) ∧ (M1 1 6 = M 1 6 → M1 9 = M 9)
def wiM (M M1 : Mm) (a b c : Int) : Prop := (M1 99 3 = M 99 3 + 1 → ∀ k : Nat, 31 ≤ k → M1 99 k = tri3 (M 99) 31 (M 99 3) a b c k) ∧ (M1 99 3 = M 99 3 → ∀ k : Nat, 31 ≤ k → M1 99 k = M 99 k)
theorem WR.wine {M M1 M2 : Mm} {a b c : Int} (h : WR M) (hn : M 1 6 = M 99 3) (h0 : 0 ≤ M 1 6) (x : wiC M M1 a b c) (y : wiM M1 M2 a b c) (d9 : M2 9 = M1 9) (d18 : M2 18 = M 18) (d27 : M2 27 = M 27) (e99 : M1 99 = M 99) (e100 : M2 100 = M 100) (n1 : M2 1 6 = M1 1 6) (n2 : M2 10 6 = M 10 6) (n3 : M2 19 6 = M 19 6) (hc : (M1 1 6 = M 1 6 + 1 ∧ M2 99 3 = M1 99 3 + 1) ∨ (M1 1 6 = M 1 6 ∧ M2 99 3 = M1 99 3)) : WR M2 := by
  obtain ⟨h1, h2, h3⟩ := h
  refine ⟨fun k hk => ?_, fun k hk => ?_, fun k hk => ?_⟩
  · rcases hc with ⟨c1, c2⟩ | ⟨c1, c2⟩
    · rw [d9, x.1 c1, y.1 c2 _ (by omega), e99, ← hn]
      exact tri_at (by omega) h0 (fun i hi => h1 i hi) (by omega)
    · rw [d9, x.2 c1, y.2 c2 _ (by omega), e99]
      exact h1 k (by omega)
  · rw [d18, e100]; exact h2 k (by omega)
  · rw [d27, e100]; exact h3 k (by omega)
def drC (M M1 : Mm) (a : Int) : Prop := (M1 1 6 = M 1 6 - 1 → M1 9 = shf (M 9) (3 * a) (3 * (M 1 6 - 1))) ∧ (M1 1 6 = M 1 6 → M1 9 = M 9)
def drM (M M1 : Mm) (a : Int) : Prop := (M1 99 3 = M 99 3 - 1 → ∀ k : Nat, 31 ≤ k → M1 99 k = shf (M 99) (31 + 3 * a) 46 k) ∧ (M1 99 3 = M 99 3 → ∀ k : Nat, 31 ≤ k → M1 99 k = M 99 k)
theorem WR.drink {M M1 M2 : Mm} {a : Int} (h : WR M) (hn : M 1 6 = M 99 3) (h0 : 0 ≤ M 1 6 ∧ M 1 6 ≤ 6) (x : drC M M1 a) (y : drM M1 M2 a) (d9 : M2 9 = M1 9) (d18 : M2 18 = M 18) (d27 : M2 27 = M 27) (e99 : M1 99 = M 99) (e100 : M2 100 = M 100) (n1 : M2 1 6 = M1 1 6) (n2 : M2 10 6 = M 10 6) (n3 : M2 19 6 = M 19 6) (hc : (M1 1 6 = M 1 6 - 1 ∧ M2 99 3 = M1 99 3 - 1 ∧ 0 ≤ a) ∨ (M1 1 6 = M 1 6 ∧ M2 99 3 = M1 99 3)) : WR M2 := by
  obtain ⟨h1, h2, h3⟩ := h
  refine ⟨fun k hk => ?_, fun k hk => ?_, fun k hk => ?_⟩
  · rcases hc with ⟨c1, c2, c3⟩ | ⟨c1, c2⟩
    · rw [d9, x.1 c1, y.1 c2 _ (by omega), e99]
      unfold shf
      by_cases z : 3 * a ≤ (k : Int)
      · rw [if_pos ⟨z, by omega⟩, if_pos ⟨by omega, by omega⟩, h1 (k + 3) (by omega)]
        rw [show 31 + (k + 3) = 31 + k + 3 by omega]
      · rw [if_neg (fun y => z y.1), if_neg (fun y => z (by omega))]
        exact h1 k (by omega)
    · rw [d9, x.2 c1, y.2 c2 _ (by omega), e99]
      exact h1 k (by omega)
  · rw [d18, e100]; exact h2 k (by omega)
  · rw [d27, e100]; exact h3 k (by omega)
def imC (M M1 : Mm) (a : Int) : Prop := (a = 0 → (∀ k : Nat, k < 18 → M1 18 k = M 9 k) ∧ M1 27 = M 27) ∧ (a = 1 → (∀ k : Nat, k < 18 → M1 27 k = M 9 k) ∧ M1 18 = M 18) ∧ (¬ (a = 0 ∨ a = 1) → M1 18 = M 18 ∧ M1 27 = M 27)
def imM (M M1 : Mm) (a : Int) : Prop := ((a = 0 ∨ a = 1) → (∀ j : Nat, j < 49 → M1 100 (49 * a.toNat + j) = M 99 j) ∧ ∀ q : Nat, (q < 49 * a.toNat ∨ 49 * a.toNat + 49 ≤ q) → M1 100 q = M 100 q) ∧ (¬ (a = 0 ∨ a = 1) → M1 100 = M 100)
theorem WR.image {M M1 M2 : Mm} {a : Int} (h : WR M) (h0 : 0 ≤ M 1 6 ∧ M 1 6 ≤ 6) (x : imC M M1 a) (y : imM M1 M2 a) (d9 : M2 9 = M 9) (d18 : M2 18 = M1 18) (d27 : M2 27 = M1 27) (e99 : M1 99 = M 99) (f99 : M2 99 = M 99) (e100 : M1 100 = M 100) (n1 : M2 1 6 = M 1 6) (hb : M 10 6 ≤ 6 ∧ M 19 6 ≤ 6) (n2 : (a = 0 → M2 10 6 = M 1 6) ∧ (a ≠ 0 → M2 10 6 = M 10 6)) (n3 : (a = 1 → M2 19 6 = M 1 6) ∧ (a ≠ 1 → M2 19 6 = M 19 6)) : WR M2 := by
  obtain ⟨h1, h2, h3⟩ := h
  obtain ⟨x0, x1, x2⟩ := x
  refine ⟨fun k hk => ?_, fun k hk => ?_, fun k hk => ?_⟩
  · rw [d9, f99]; exact h1 k (by omega)
  · by_cases c : a = 0
    · have y0 := (y.1 (Or.inl c)).1 (31 + k) (by omega)
      rw [c, show 49 * Int.toNat 0 + (31 + k) = 31 + k from by omega] at y0
      rw [d18, (x0 c).1 k (by omega), y0, e99]
      exact h1 k (by omega)
    · by_cases c1 : a = 1
      · rw [d18, (x1 c1).2, (y.1 (Or.inr c1)).2 (31 + k) (by rw [c1]; omega), e100]
        exact h2 k (by omega)
      · rw [d18, (x2 (by omega)).1, y.2 (by omega), e100]
        exact h2 k (by omega)
  · by_cases c : a = 1
    · have y0 := (y.1 (Or.inr c)).1 (31 + k) (by omega)
      rw [c, show 49 * Int.toNat 1 + (31 + k) = 80 + k from by omega] at y0
      rw [d27, (x1 c).1 k (by omega), y0, e99]
      exact h1 k (by omega)
    · by_cases c1 : a = 0
      · rw [d27, (x0 c1).2, (y.1 (Or.inl c1)).2 (80 + k) (by rw [c1]; omega), e100]
        exact h3 k (by omega)
      · rw [d27, (x2 (by omega)).2, y.2 (by omega), e100]
        exact h3 k (by omega)
def bkC (M M1 : Mm) (a : Int) : Prop := (a = 0 → M 29 0 ≠ 0 → ∀ k : Nat, k < 18 → M1 9 k = M 18 k) ∧ (a = 1 → M 29 1 ≠ 0 → ∀ k : Nat, k < 18 → M1 9 k = M 27 k) ∧ (¬ ((a = 0 ∧ M 29 0 ≠ 0) ∨ (a = 1 ∧ M 29 1 ≠ 0)) → M1 9 = M 9)
def bkM (M M1 : Mm) (a : Int) : Prop := (((a = 0 ∧ M 103 0 ≠ 0) ∨ (a = 1 ∧ M 103 1 ≠ 0)) → ∀ j : Nat, j < 49 → M1 99 j = M 100 (49 * a.toNat + j)) ∧ (¬ ((a = 0 ∧ M 103 0 ≠ 0) ∨ (a = 1 ∧ M 103 1 ≠ 0)) → M1 99 = M 99)
theorem WR.back {M M1 M2 : Mm} {a : Int} (h : WR M) (x : bkC M M1 a) (y : bkM M1 M2 a) (k0 : M 29 0 = M1 103 0) (k1 : M 29 1 = M1 103 1) (d9 : M2 9 = M1 9) (d18 : M2 18 = M 18) (d27 : M2 27 = M 27) (e99 : M1 99 = M 99) (e100 : M1 100 = M 100) (f100 : M2 100 = M 100) (hb : M 10 6 ≤ 6 ∧ M 19 6 ≤ 6) (n1 : (a = 0 → M 29 0 ≠ 0 → M2 1 6 = M 10 6) ∧ (a = 1 → M 29 1 ≠ 0 → M2 1 6 = M 19 6) ∧ (¬ ((a = 0 ∧ M 29 0 ≠ 0) ∨ (a = 1 ∧ M 29 1 ≠ 0)) → M2 1 6 = M 1 6)) (n2 : M2 10 6 = M 10 6) (n3 : M2 19 6 = M 19 6) : WR M2 := by
  obtain ⟨h1, h2, h3⟩ := h
  obtain ⟨x0, x1, x2⟩ := x
  refine ⟨fun k hk => ?_, fun k hk => ?_, fun k hk => ?_⟩
  · by_cases c : a = 0 ∧ M 29 0 ≠ 0
    · have y0 := y.1 (Or.inl ⟨c.1, by omega⟩) (31 + k) (by omega)
      rw [c.1, show 49 * Int.toNat 0 + (31 + k) = 31 + k from by omega] at y0
      rw [d9, x0 c.1 c.2 k (by omega), y0, e100]
      exact h2 k (by omega)
    · by_cases c1 : a = 1 ∧ M 29 1 ≠ 0
      · have y0 := y.1 (Or.inr ⟨c1.1, by omega⟩) (31 + k) (by omega)
        rw [c1.1, show 49 * Int.toNat 1 + (31 + k) = 80 + k from by omega] at y0
        rw [d9, x1 c1.1 c1.2 k (by omega), y0, e100]
        exact h3 k (by omega)
      · rw [d9, x2 (by omega), y.2 (by omega), e99]
        exact h1 k (by omega)
  · rw [d18, f100]; exact h2 k (by omega)
  · rw [d27, f100]; exact h3 k (by omega)
theorem mixE {M M1 : Mm} {a b c r s : Int} (wr : WR M) (hn : M 1 6 = M 99 3) (e : M1 99 = M 99) (h0 : 0 ≤ M 1 6) (p : mixQ (M 9) (M 1 6).toNat a b c r) (q : mixQ (rr (M1 99)) (M1 99 3).toNat a b c s) : r = s := by
  rw [e, ← hn] at q
  exact mixQ.det p q (fun k hk => wr.1 k (by omega))
