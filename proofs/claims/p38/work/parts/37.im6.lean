/-! the cheapest mixtures: what the table of them holds -/
def ix (w a s : Int) : Nat := (42021 * w + 2001 * a + s).toNat
def ISL (f r : Nat → Int) (w a s x : Int) : Prop := 0 ≤ s - x * r (31 + 3 * w).toNat ∧ s - x * r (31 + 3 * w).toNat ≤ 100 * (a - x) ∧ f (ix (w + 1) (a - x) (s - x * r (31 + 3 * w).toNat)) + x * r (31 + 3 * w + 1).toNat = f (ix w a s)
def BX (f r : Nat → Int) (w a s b : Int) : Prop := (0 ≤ b ∧ b ≤ 1000000) ∧ (b < 1000000 → ∃ x : Int, 0 ≤ x ∧ x ≤ a ∧ 0 ≤ s - x * r (31 + 3 * w).toNat ∧ s - x * r (31 + 3 * w).toNat ≤ 100 * (a - x) ∧ f (ix (w + 1) (a - x) (s - x * r (31 + 3 * w).toNat)) + x * r (31 + 3 * w + 1).toNat = b)
def LV (f r : Nat → Int) (A n w0 : Int) : Prop := ∀ w a s : Int, w0 ≤ w → w ≤ n → 0 ≤ a → a ≤ A → 0 ≤ s → s ≤ 100 * a → (0 ≤ f (ix w a s) ∧ f (ix w a s) ≤ 1000000) ∧ (w < n → BX f r w a s (f (ix w a s)))
def LPt (f r : Nat → Int) (A n w a s : Int) : Prop := LV f r A n (w + 1) ∧ ∀ a' s' : Int, 0 ≤ a' → a' ≤ A → 0 ≤ s' → s' ≤ 100 * a' → (a' < a ∨ (a' = a ∧ s' < s)) → BX f r w a' s' (f (ix w a' s'))
def LN (f : Nat → Int) (A n a s : Int) : Prop := ∀ a' s' : Int, 0 ≤ a' → a' ≤ A → 0 ≤ s' → s' ≤ 100 * A → (a' < a ∨ (a' = a ∧ s' < s)) → 0 ≤ f (ix n a' s') ∧ f (ix n a' s') ≤ 1000000
theorem LN.zero (f : Nat → Int) (A n : Int) : LN f A n 0 0 := fun a' s' h1 h2 h3 h4 h5 => by omega
theorem LN.step {f f' : Nat → Int} {A n a s v : Int} {i : Nat} (h : LN f A n a s) (e : f' = ms f i v) (hi : i = ix n a s) (hA : A ≤ 20) (hn : 0 ≤ n) (ha : 0 ≤ a) (hs : 0 ≤ s ∧ s ≤ 100 * A) (hv : 0 ≤ v ∧ v ≤ 1000000) : LN f' A n a (s + 1) := by
  intro a' s' h1 h2 h3 h4 h5
  rw [e]
  rcases ms_cases f i (ix n a' s') v with ⟨z, b⟩ | ⟨z, b⟩ <;> rw [b]
  · exact hv
  · refine h a' s' h1 h2 h3 h4 ?_
    rw [hi] at z; unfold ix at z
    by_cases hz : a' = a ∧ s' = s
    · exact absurd (by rw [hz.1, hz.2]) z
    · omega
theorem LN.row {f : Nat → Int} {A n a s : Int} (h : LN f A n a s) (hs : 100 * A < s) : LN f A n (a + 1) 0 := fun a' s' h1 h2 h3 h4 h5 => h a' s' h1 h2 h3 h4 (by omega)
theorem LN.done {f r : Nat → Int} {A n a s : Int} (h : LN f A n a s) (ha : A < a) : LV f r A n n := fun w a' s' h1 h2 h3 h4 h5 h6 => by
  rw [show w = n by omega]
  exact ⟨h a' s' h3 h4 h5 (by omega) (by omega), fun z => by omega⟩
theorem LN.done2 {f r : Nat → Int} {A n a s w : Int} (h : LN f A n a s) (ha : A < a) (hw : w = n) : LV f r A n w := by rw [hw]; exact h.done ha
theorem BX.far (f r : Nat → Int) (w a s : Int) : BX f r w a s 1000000 := ⟨by omega, fun z => by omega⟩
theorem BX.new {f r : Nat → Int} {w a s x b p q L l : Int} (hx : 0 ≤ x ∧ x ≤ a) (hp : p = x * r (31 + 3 * w).toNat) (hq : q = x * r (31 + 3 * w + 1).toNat) (hL : L = s - p) (h0 : 0 ≤ L) (h1 : L ≤ 100 * (a - x)) (hl : l = f (ix (w + 1) (a - x) L)) (hb : b = l + q) (b0 : 0 ≤ b ∧ b ≤ 1000000) : BX f r w a s b := by
  subst hp hq hL hl hb
  exact ⟨b0, fun _ => ⟨x, hx.1, hx.2, h0, h1, rfl⟩⟩
theorem BX.cg {f f' r : Nat → Int} {w a s b : Int} (h : BX f r w a s b) (ha : a ≤ 20) (e : ∀ a' s' : Int, 0 ≤ a' → a' ≤ 20 → 0 ≤ s' → s' ≤ 2000 → f' (ix (w + 1) a' s') = f (ix (w + 1) a' s')) : BX f' r w a s b := by
  refine ⟨h.1, fun z => ?_⟩
  obtain ⟨x, x0, x1, x2, x3, x4⟩ := h.2 z
  exact ⟨x, x0, x1, x2, x3, by rw [e _ _ (by omega) (by omega) x2 (by omega)]; exact x4⟩
theorem LPt.start {f r : Nat → Int} {A n w : Int} (h : LV f r A n (w + 1)) : LPt f r A n w 0 0 := ⟨h, fun a' s' h1 h2 h3 h4 h5 => by omega⟩
theorem LPt.step {f f' r : Nat → Int} {A n w a s b : Int} {i : Nat} (h : LPt f r A n w a s) (hb : BX f r w a s b) (e : f' = ms f i b) (hi : i = ix w a s) (hA : A ≤ 20) (hw : 0 ≤ w) (ha : 0 ≤ a ∧ a ≤ A) (hs : 0 ≤ s ∧ s ≤ 100 * a) : LPt f' r A n w a (s + 1) := by
  have lev : ∀ w' a' s' : Int, w < w' → 0 ≤ a' → a' ≤ 20 → 0 ≤ s' → s' ≤ 2000 → f' (ix w' a' s') = f (ix w' a' s') := by
    intro w' a' s' h0 h1 h2 h3 h4
    rw [e]
    rcases ms_cases f i (ix w' a' s') b with ⟨z, b⟩ | ⟨z, b⟩
    · rw [hi] at z; unfold ix at z; omega
    · exact b
  refine ⟨fun w' a' s' h1 h2 h3 h4 h5 h6 => ?_, fun a' s' h1 h2 h3 h4 h5 => ?_⟩
  · have := h.1 w' a' s' h1 h2 h3 h4 h5 h6
    rw [lev w' a' s' (by omega) h3 (by omega) h5 (by omega)]
    exact ⟨this.1, fun z => (this.2 z).cg (by omega) (fun a2 s2 k1 k2 k3 k4 => lev _ _ _ (by omega) k1 k2 k3 k4)⟩
  · by_cases hz : a' = a ∧ s' = s
    · obtain ⟨z1, z2⟩ := hz
      subst z1 z2
      have : f' (ix w a' s') = b := by
        rw [e, hi]
        rcases ms_cases f (ix w a' s') (ix w a' s') b with ⟨z, b⟩ | ⟨z, b⟩
        · exact b
        · exact absurd rfl z
      rw [this]
      exact hb.cg (by omega) (fun a2 s2 k1 k2 k3 k4 => lev _ _ _ (by omega) k1 k2 k3 k4)
    · have hne : f' (ix w a' s') = f (ix w a' s') := by
        rw [e]
        rcases ms_cases f i (ix w a' s') b with ⟨z, b⟩ | ⟨z, b⟩
        · rw [hi] at z; unfold ix at z; omega
        · exact b
      rw [hne]
      exact (h.2 a' s' h1 h2 h3 h4 (by omega)).cg (by omega) (fun a2 s2 k1 k2 k3 k4 => lev _ _ _ (by omega) k1 k2 k3 k4)
theorem LPt.row {f r : Nat → Int} {A n w a s : Int} (h : LPt f r A n w a s) (hs : 100 * a < s) : LPt f r A n w (a + 1) 0 := ⟨h.1, fun a' s' h1 h2 h3 h4 h5 => h.2 a' s' h1 h2 h3 h4 (by omega)⟩
theorem LPt.done {f r : Nat → Int} {A n w a s w' : Int} (h : LPt f r A n w a s) (ha : A < a) (hw' : w' = w) : LV f r A n w' := fun v a' s' h1 h2 h3 h4 h5 h6 => by
  by_cases hz : v = w
  · subst hz
    have := h.2 a' s' h3 h4 h5 h6 (by omega)
    exact ⟨this.1, fun _ => this⟩
  · exact h.1 v a' s' (by omega) h2 h3 h4 h5 h6
theorem LV.b {f r : Nat → Int} {A n w0 : Int} (h : LV f r A n w0) {w a s v : Int} (e : v = f (ix w a s)) (h0 : w0 ≤ w) (h1 : w ≤ n) (h2 : 0 ≤ a) (h3 : a ≤ A) (h4 : 0 ≤ s) (h5 : s ≤ 100 * a) : 0 ≤ v ∧ v ≤ 1000000 := by rw [e]; exact (h w a s h0 h1 h2 h3 h4 h5).1
theorem mulC {x v B C : Int} (h0 : 0 ≤ x) (h1 : x ≤ B) (h2 : 0 ≤ v) (h3 : v ≤ C) : 0 ≤ x * v ∧ x * v ≤ B * C :=
  ⟨Int.mul_nonneg h0 h2, Int.mul_le_mul h1 h3 h2 (by omega)⟩
theorem mulD {x v C : Int} (h0 : 0 ≤ x) (h2 : 0 ≤ v) (h3 : v ≤ C) : 0 ≤ x * v ∧ x * v ≤ x * C :=
  ⟨Int.mul_nonneg h0 h2, Int.mul_le_mul_of_nonneg_left h3 h0⟩
theorem ISL.n1 {f r : Nat → Int} {w a s x p L : Int} (hp : p = x * r (31 + 3 * w).toNat) (hL : L = s - p) (h : L < 0) : ¬ ISL f r w a s x := fun z => by
  have := z.1
  rw [← hp] at this; omega
theorem ISL.n2 {f r : Nat → Int} {w a s x p L : Int} (hp : p = x * r (31 + 3 * w).toNat) (hL : L = s - p) (h : 100 * (a - x) < L) : ¬ ISL f r w a s x := fun z => by
  have := z.2.1
  rw [← hp] at this; omega
theorem ISL.y {f r : Nat → Int} {w a s x p q L l t : Int} (hp : p = x * r (31 + 3 * w).toNat) (hq : q = x * r (31 + 3 * w + 1).toNat) (hL : L = s - p) (hl : l = f (ix (w + 1) (a - x) L)) (ht : t = f (ix w a s)) : ISL f r w a s x ↔ (0 ≤ L ∧ L ≤ 100 * (a - x) ∧ l + q = t) := by
  subst hp hq hL hl ht; exact Iff.rfl
theorem ISL.go {f r : Nat → Int} {w a s x p L : Int} (h : ISL f r w a s x) (hp : p = x * r (31 + 3 * w).toNat) (hL : L = s - p) (hr : 0 ≤ r (31 + 3 * w + 1).toNat) (hx : 0 ≤ x) (hf : f (ix w a s) < 1000000) : 0 ≤ L ∧ L ≤ 100 * (a - x) ∧ f (ix (w + 1) (a - x) L) < 1000000 := by
  subst hp hL
  have := Int.mul_nonneg hx hr
  exact ⟨h.1, h.2.1, by have := h.2.2; omega⟩
