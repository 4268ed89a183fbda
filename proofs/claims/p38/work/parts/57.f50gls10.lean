/-! nights -/
def ndr (s : Int) : Int := (s * 1103 + 12345) % 1000003
theorem ndr_b (s : Int) : 0 ≤ ndr s ∧ ndr s < 1000003 := by
  unfold ndr
  omega
def ntD (s : Int) : Nat → Int
  | 0 => s
  | i + 1 => ndr (ntD s i)
def ntM (z W m : Nat → Int) (n c s : Int) : Nat → (Nat → Int)
  | 0 => m
  | i + 1 => spM (ntM z W m n c s i) z (ntD s (3 * i + 1) % n) (ntD s (3 * i + 2) % n) (W (ntD s (3 * i + 3) % c).toNat)
def ntC (z W m : Nat → Int) (n c s : Int) : Nat → Int
  | 0 => 0
  | i + 1 => if spR (ntM z W m n c s i) z (ntD s (3 * i + 1) % n) (ntD s (3 * i + 2) % n) (W (ntD s (3 * i + 3) % c).toNat) = 0 then ntC z W m n c s i + 1 else ntC z W m n c s i
def ntK (n c b : Int) : Nat := if n ≤ 0 ∨ c ≤ 0 then 0 else b.toNat
theorem ntK_0 {n c b : Int} (h : n ≤ 0 ∨ c ≤ 0) : ntK n c b = 0 := if_pos h
theorem ntK_b {n c b : Int} (h : ¬ (n ≤ 0 ∨ c ≤ 0)) : ntK n c b = b.toNat := if_neg h
section NTs
variable {z W V m : Nat → Int} {n c s : Int}
theorem nt_cg (hc : 1 ≤ c) (h : ∀ j : Nat, (j : Int) < c → W j = V j) : ∀ i : Nat, ntM z W m n c s i = ntM z V m n c s i ∧ ntC z W m n c s i = ntC z V m n c s i
  | 0 => ⟨rfl, rfl⟩
  | i + 1 => by
    obtain ⟨a, b⟩ := nt_cg hc h i
    have e : W (ntD s (3 * i + 3) % c).toNat = V (ntD s (3 * i + 3) % c).toNat := h _ (by
      have := Int.emod_nonneg (ntD s (3 * i + 3)) (show c ≠ 0 by omega)
      have := Int.emod_lt_of_pos (ntD s (3 * i + 3)) (show 0 < c by omega)
      omega)
    unfold ntM ntC
    rw [a, b, e]
    exact ⟨rfl, rfl⟩
theorem ntM_s (i : Nat) : ntM z W m n c s (i + 1) = spM (ntM z W m n c s i) z (ntD s (3 * i + 1) % n) (ntD s (3 * i + 2) % n) (W (ntD s (3 * i + 3) % c).toNat) := rfl
theorem ntC_s (i : Nat) : ntC z W m n c s (i + 1) = if spR (ntM z W m n c s i) z (ntD s (3 * i + 1) % n) (ntD s (3 * i + 2) % n) (W (ntD s (3 * i + 3) % c).toNat) = 0 then ntC z W m n c s i + 1 else ntC z W m n c s i := rfl
theorem ntC_b : ∀ i : Nat, 0 ≤ ntC z W m n c s i ∧ ntC z W m n c s i ≤ i
  | 0 => ⟨Int.le_refl 0, Int.le_refl 0⟩
  | i + 1 => by
    have := ntC_b i
    unfold ntC
    split <;> omega
theorem NT.st {L L1 r g k w : Int} {P F Z P1 F1 : Nat → Int} {i : Nat} (h : PAP n P L F Z (ntM z W m n c s i) z) (hz : ∀ j : Nat, j < 6 → z j ≤ 60) (hg : g = ntD s (3 * i + 1) % n) (hk : k = ntD s (3 * i + 2) % n) (hw : w = W (ntD s (3 * i + 3) % c).toNat) (hb : 1 ≤ w ∧ w ≤ 60) (g0 : 0 ≤ g ∧ g < n) (k0 : 0 ≤ k ∧ k < n) (cr : CARR (CANk n F Z g k w ∧ 0 ≤ k) n P L F g k w r P1 L1 F1) : PAP n P1 L1 F1 Z (ntM z W m n c s (i + 1)) z ∧ ((r = 0 ∧ ntC z W m n c s (i + 1) = ntC z W m n c s i + 1) ∨ (r ≠ 0 ∧ ntC z W m n c s (i + 1) = ntC z W m n c s i)) := by
  have cr' := cr.can (c2 := CANk n F Z g k w) ⟨fun x => x.1, fun x => ⟨x, k0.1⟩⟩
  obtain ⟨a, b⟩ := h.sp hz g0 (Or.inr k0) hb cr'
  rw [ntM_s, ntC_s, ← hg, ← hk, ← hw]
  refine ⟨b, ?_⟩
  by_cases q : spR (ntM z W m n c s i) z g k w = 0
  · rw [if_pos q]; exact Or.inl ⟨by omega, rfl⟩
  · rw [if_neg q]; exact Or.inr ⟨by omega, rfl⟩
theorem NT.rf {r g k w : Int} {A B : Nat → Int} {i : Nat} (e : E25 (ntM z W m n c s i) A) (pa : PI A) (sp : SPO A z g k w r B) (hg : g = ntD s (3 * i + 1) % n) (hk : k = ntD s (3 * i + 2) % n) (hw : w = W (ntD s (3 * i + 3) % c).toNat) (hb : 1 ≤ w ∧ w ≤ 60) (g0 : 0 ≤ g ∧ g ≤ 5) (k0 : 0 ≤ k ∧ k ≤ 5) : E25 (ntM z W m n c s (i + 1)) B ∧ ((r = 0 ∧ ntC z W m n c s (i + 1) = ntC z W m n c s i + 1) ∨ (r ≠ 0 ∧ ntC z W m n c s (i + 1) = ntC z W m n c s i)) := by
  have pm : PI (ntM z W m n c s i) := PIw.cg pa e.sy
  obtain ⟨a, b⟩ := sp.F e.sy pm g0 (by omega) hb.1
  rw [ntM_s, ntC_s, ← hg, ← hk, ← hw]
  refine ⟨b, ?_⟩
  by_cases q : spR (ntM z W m n c s i) z g k w = 0
  · rw [if_pos q]; exact Or.inl ⟨by omega, rfl⟩
  · rw [if_neg q]; exact Or.inr ⟨by omega, rfl⟩
end NTs
theorem tsM_cg {m m' : Nat → Int} (e : E25 m m') {g s : Int} (hg : 0 ≤ g ∧ g ≤ 5) (hs : 0 ≤ s ∧ s ≤ 3) : tsM m' g s = tsM m g s := by
  unfold tsM
  rw [flm_cg e (g := g.toNat) (by omega), e 24 (by omega), e (4 * g + s).toNat (by omega)]
/-- a table that is copied -/
theorem PAP.cp {n L : Int} {P F Z P1 F1 Z1 m z : Nat → Int} (h : PAP n P L F Z m z) (e1 : ∀ j : Nat, j < 24 → P1 j = P j) (e2 : ∀ j : Nat, j < 6 → F1 j = F j) (e3 : ∀ j : Nat, j < 6 → Z1 j = Z j) : PAP n P1 L F1 Z1 m z := by
  obtain ⟨a1, a2, a3, a4, a5⟩ := h
  refine ⟨a1, ⟨a2.1, fun k hk => ?_, fun g hg => ?_⟩, a3, a4, fun g hg => ?_⟩
  · rw [e1 k (by omega)]; exact a2.2.1 k hk
  · rw [e2 g (by omega)]; exact a2.2.2 g hg
  · rw [e3 g (by omega)]; exact a5 g hg
theorem PUB.cp {n L : Int} {P F Z P1 F1 Z1 m z : Nat → Int} (h : PUB n P L F Z m z) (e1 : ∀ j : Nat, j < 24 → P1 j = P j) (e2 : ∀ j : Nat, j < 6 → F1 j = F j) (e3 : ∀ j : Nat, j < 6 → Z1 j = Z j) : PUB n P1 L F1 Z1 m z := ⟨h.1.cp e1 e2 e3, h.2⟩
theorem PQ_.far {M M1 : Mm} {t : Nat} {n : Int} {m z : Nat → Int} {Q : Nat → Prop} (h : PQ_ M t n m z) (f : Fr Q M M1) (hq : ∀ c, Q c → ¬ inT t c) : PQ_ M1 t n m z := by
  obtain ⟨a, b, P, L, F, Z, tv, p⟩ := h
  exact ⟨a, b, P, L, F, Z, tv.far f hq, p⟩
