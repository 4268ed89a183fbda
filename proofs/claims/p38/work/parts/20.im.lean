/-! the model: what always holds of its cells (97: the object, 99 row, 100 images, 101 parts, 102 partsKept, 103 isKept) -/
def rowOK (m : Nat → Int) : Prop := (0 ≤ m 0 ∧ m 0 ≤ 6) ∧ (0 ≤ m 1 ∧ m 1 ≤ 3) ∧ (0 ≤ m 2 ∧ m 2 ≤ 6) ∧ (0 ≤ m 3 ∧ m 3 ≤ 6) ∧ (∀ i : Nat, i < 6 → 0 ≤ m (4 + i) ∧ m (4 + i) ≤ 60) ∧ (∀ i : Nat, (i : Int) < m 1 → 1 ≤ m (10 + i) ∧ m (10 + i) ≤ 60) ∧ (∀ i : Nat, i < 6 → (0 ≤ m (13 + 3 * i) ∧ m (13 + 3 * i) ≤ 5) ∧ (0 ≤ m (14 + 3 * i) ∧ m (14 + 3 * i) ≤ 3)) ∧ (∀ i : Nat, i < 6 → (0 ≤ m (31 + 3 * i) ∧ m (31 + 3 * i) ≤ 100) ∧ (0 ≤ m (32 + 3 * i) ∧ m (32 + 3 * i) ≤ 99) ∧ (0 ≤ m (33 + 3 * i) ∧ m (33 + 3 * i) ≤ 20))
def PIw (B : Int) (m : Nat → Int) : Prop := (1 ≤ m 24 ∧ m 24 ≤ B) ∧ (∀ k : Nat, k < 24 → 0 ≤ m k) ∧ ∀ g : Nat, g < 6 → ∃ f : Int, (0 ≤ f ∧ f ≤ 60) ∧ m (4 * g) + m (4 * g + 1) + m (4 * g + 2) + m (4 * g + 3) = f * m 24
def PI (m : Nat → Int) : Prop := PIw 100000000000000 m
theorem rowOK.cg {m m' : Nat → Int} (h : rowOK m) (e : ∀ i, i < 49 → m' i = m i) : rowOK m' := by
  obtain ⟨h0, h1, h2, h3, h4, h5, h6, h7⟩ := h
  refine ⟨by rw [e 0 (by omega)]; exact h0, by rw [e 1 (by omega)]; exact h1, by rw [e 2 (by omega)]; exact h2, by rw [e 3 (by omega)]; exact h3, fun i hi => ?_, fun i hi => ?_, fun i hi => ?_, fun i hi => ?_⟩
  · rw [e _ (by omega)]; exact h4 i hi
  · rw [e 1 (by omega)] at hi
    rw [e _ (by omega)]; exact h5 i hi
  · rw [e _ (by omega), e _ (by omega)]; exact h6 i hi
  · rw [e _ (by omega), e _ (by omega), e _ (by omega)]; exact h7 i hi
theorem PIw.cg {B : Int} {m m' : Nat → Int} (h : PIw B m) (e : ∀ i, i < 25 → m' i = m i) : PIw B m' := by
  obtain ⟨h0, h1, h2⟩ := h
  refine ⟨by rw [e 24 (by omega)]; exact h0, fun k hk => by rw [e k (by omega)]; exact h1 k hk, fun g hg => ?_⟩
  rw [e _ (by omega), e _ (by omega), e _ (by omega), e _ (by omega), e 24 (by omega)]
  exact h2 g hg
def IM (M : Mm) : Prop := rowOK (M 99) ∧ PI (M 101) ∧ (∀ k : Nat, k < 2 → M 103 k ≠ 0 → rowOK (fun i => M 100 (49 * k + i)) ∧ PI (fun i => M 102 (25 * k + i))) ∧ (0 ≤ M 97 12 ∧ M 97 12 ≤ 400) ∧ (0 ≤ M 97 44 ∧ M 97 44 ≤ 6)
def okv (c i : Nat) (x : Int) : Prop := (c ≠ 99 ∧ c ≠ 100 ∧ c ≠ 101 ∧ c ≠ 102 ∧ c ≠ 103) ∧ (c = 97 → (i = 12 → 0 ≤ x ∧ x ≤ 400) ∧ (i = 44 → 0 ≤ x ∧ x ≤ 6))
theorem IM.wr {M M' : Mm} {c i : Nat} {x : Int} (h : IM M) (e : M' = mu M c i x) (hw : okv c i x) : IM M' := by
  subst e
  obtain ⟨h1, h2, h3, h4, h5⟩ := h
  obtain ⟨⟨w1, w2, w3, w4, w5⟩, w6⟩ := hw
  refine ⟨?_, ?_, ?_, ?_, ?_⟩
  · rw [mu_cell _ _ (Ne.symm w1)]; exact h1
  · rw [mu_cell _ _ (Ne.symm w3)]; exact h2
  · rw [mu_cell _ _ (Ne.symm w2), mu_cell _ _ (Ne.symm w4), mu_cell _ _ (Ne.symm w5)]; exact h3
  · rcases mu_cases M c i 97 12 x with ⟨a1, a2, a3⟩ | ⟨a1, a3⟩ <;> rw [a3]
    · exact (w6 (by omega)).1 (by omega)
    · exact h4
  · rcases mu_cases M c i 97 44 x with ⟨a1, a2, a3⟩ | ⟨a1, a3⟩ <;> rw [a3]
    · exact (w6 (by omega)).2 (by omega)
    · exact h5
/-- row is written -/
theorem IM.row {M M' : Mm} (h : IM M) (f : Fr (fun c => c = 99) M M') (hr : rowOK (M' 99)) : IM M' := by
  obtain ⟨h1, h2, h3, h4, h5⟩ := h
  refine ⟨hr, ?_, ?_, ?_, ?_⟩
  · rw [f 101 (by decide)]; exact h2
  · rw [f 100 (by decide), f 102 (by decide), f 103 (by decide)]; exact h3
  · rw [f 97 (by decide)]; exact h4
  · rw [f 97 (by decide)]; exact h5
/-- parts and what lies beside -/
theorem IM.parts {P : Nat → Prop} {M M' : Mm} (h : IM M) (f : Fr P M M') (hp : ∀ c, P c → c ≠ 97 ∧ c ≠ 99 ∧ c ≠ 100 ∧ c ≠ 102 ∧ c ≠ 103) (hr : PI (M' 101)) : IM M' := by
  obtain ⟨h1, h2, h3, h4, h5⟩ := h
  have e : ∀ c, (c = 97 ∨ c = 99 ∨ c = 100 ∨ c = 102 ∨ c = 103) → M' c = M c := fun c hc => f c (fun z => by have := hp c z; omega)
  refine ⟨?_, hr, ?_, ?_, ?_⟩
  · rw [e 99 (by omega)]; exact h1
  · rw [e 100 (by omega), e 102 (by omega), e 103 (by omega)]; exact h3
  · rw [e 97 (by omega)]; exact h4
  · rw [e 97 (by omega)]; exact h5
theorem IM.fr {P : Nat → Prop} {M M' : Mm} (h : IM M) (f : Fr P M M') (hp : ∀ c, P c → c ≠ 97 ∧ c ≠ 99 ∧ c ≠ 100 ∧ c ≠ 101 ∧ c ≠ 102 ∧ c ≠ 103) : IM M' :=
  h.parts f (fun c hc => by have := hp c hc; omega) (by rw [f 101 (fun z => by have := hp 101 z; omega)]; exact h.2.1)
theorem PIw.sum {B : Int} {m : Nat → Int} (h : PIw B m) {g : Nat} (hg : g < 6) : ∃ f : Int, (0 ≤ f ∧ f ≤ 60) ∧ m (4 * g) + m (4 * g + 1) + m (4 * g + 2) + m (4 * g + 3) = f * m 24 := h.2.2 g hg
theorem mul60 {f L B : Int} (h0 : 0 ≤ f) (h6 : f ≤ 60) (hL : 1 ≤ L) (hB : L ≤ B) : 0 ≤ f * L ∧ f * L ≤ 60 * B := by
  refine ⟨Int.mul_nonneg h0 (by omega), ?_⟩
  have h1 : f * L ≤ 60 * L := Int.mul_le_mul_of_nonneg_right h6 (by omega)
  omega
theorem PIw.le {B : Int} {m : Nat → Int} (h : PIw B m) {k : Nat} (hk : k < 24) : 0 ≤ m k ∧ m k ≤ 60 * B := by
  refine ⟨h.2.1 k hk, ?_⟩
  obtain ⟨f, ⟨f0, f6⟩, hs⟩ := h.2.2 (k / 4) (by omega)
  have hm := mul60 f0 f6 h.1.1 h.1.2
  have a0 := h.2.1 (4 * (k / 4)) (by omega)
  have a1 := h.2.1 (4 * (k / 4) + 1) (by omega)
  have a2 := h.2.1 (4 * (k / 4) + 2) (by omega)
  have a3 := h.2.1 (4 * (k / 4) + 3) (by omega)
  have hc : k = 4 * (k / 4) ∨ k = 4 * (k / 4) + 1 ∨ k = 4 * (k / 4) + 2 ∨ k = 4 * (k / 4) + 3 := by omega
  generalize k / 4 = q at *
  rcases hc with rfl | rfl | rfl | rfl <;> omega
/-- all over a common divisor -/
theorem PIw.div {B : Int} {m m' : Nat → Int} {d : Int} (h : PIw B m) (hd : 1 ≤ d) (hdv : ∀ i, i < 25 → d ∣ m i) (e : ∀ i, i < 25 → m' i = m i / d) : PIw B m' := by
  have ex : ∀ i, i < 25 → ∃ q, m i = d * q ∧ m' i = q := fun i hi => by
    obtain ⟨q, hq⟩ := hdv i hi
    refine ⟨q, hq, ?_⟩
    rw [e i hi, hq, Int.mul_ediv_cancel_left _ (by omega)]
  obtain ⟨q24, a1, a2⟩ := ex 24 (by omega)
  have q1 : 1 ≤ q24 := by
    rcases Int.lt_or_le q24 1 with z | z
    · have : d * q24 ≤ 0 := Int.mul_nonpos_of_nonneg_of_nonpos (by omega) (by omega)
      have := h.1.1
      omega
    · exact z
  refine ⟨⟨by rw [a2]; exact q1, ?_⟩, fun k hk => ?_, fun g hg => ?_⟩
  · rw [a2]
    have h1 : 1 * q24 ≤ d * q24 := Int.mul_le_mul_of_nonneg_right hd (by omega)
    have := h.1.2
    omega
  · obtain ⟨q, b1, b2⟩ := ex k (by omega)
    rw [b2]
    rcases Int.lt_or_le q 0 with z | z
    · have : d * q < 0 := Int.mul_neg_of_pos_of_neg (by omega) z
      have := h.2.1 k hk
      omega
    · exact z
  · obtain ⟨f, hf, hs⟩ := h.2.2 g hg
    obtain ⟨u0, b0, c0⟩ := ex (4 * g) (by omega)
    obtain ⟨u1, b1, c1⟩ := ex (4 * g + 1) (by omega)
    obtain ⟨u2, b2, c2⟩ := ex (4 * g + 2) (by omega)
    obtain ⟨u3, b3, c3⟩ := ex (4 * g + 3) (by omega)
    refine ⟨f, hf, ?_⟩
    rw [c0, c1, c2, c3, a2]
    rw [b0, b1, b2, b3, a1] at hs
    have h1 : d * (u0 + u1 + u2 + u3) = d * (f * q24) := by
      rw [Int.mul_add, Int.mul_add, Int.mul_add, hs]
      rw [← Int.mul_assoc, ← Int.mul_assoc, Int.mul_comm f d]
    exact Int.eq_of_mul_eq_mul_left (by omega) h1
theorem PIw.up {B B' : Int} {m : Nat → Int} (h : PIw B m) (hb : m 24 ≤ B') : PIw B' m := ⟨⟨h.1.1, hb⟩, h.2.1, h.2.2⟩
