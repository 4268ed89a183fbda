/-! a row of amounts -/
def rwM (z T : Nat → Int) (g : Int) (m : Nat → Int) : Nat → (Nat → Int)
  | 0 => m
  | i + 1 => if i < 4 ∧ (1 ≤ T (i + 1) ∧ T (i + 1) ≤ 60) ∧ T (i + 1) ≤ z g.toNat - flm (rwM z T g m i) g.toNat then ms (rwM z T g m i) (4 * g + (i : Int)).toNat (rwM z T g m i (4 * g + (i : Int)).toNat + T (i + 1) * rwM z T g m i 24) else rwM z T g m i
def rwC (z T : Nat → Int) (g : Int) (m : Nat → Int) : Nat → Int
  | 0 => 0
  | i + 1 => if i < 4 ∧ (1 ≤ T (i + 1) ∧ T (i + 1) ≤ 60) ∧ T (i + 1) ≤ z g.toNat - flm (rwM z T g m i) g.toNat then rwC z T g m i + 1 else rwC z T g m i
section RWs
variable {z T U m : Nat → Int} {g : Int}
theorem rw_y {i : Nat} (h : i < 4 ∧ (1 ≤ T (i + 1) ∧ T (i + 1) ≤ 60) ∧ T (i + 1) ≤ z g.toNat - flm (rwM z T g m i) g.toNat) : rwM z T g m (i + 1) = ms (rwM z T g m i) (4 * g + (i : Int)).toNat (rwM z T g m i (4 * g + (i : Int)).toNat + T (i + 1) * rwM z T g m i 24) ∧ rwC z T g m (i + 1) = rwC z T g m i + 1 := ⟨if_pos h, if_pos h⟩
theorem rw_n {i : Nat} (h : ¬ (i < 4 ∧ (1 ≤ T (i + 1) ∧ T (i + 1) ≤ 60) ∧ T (i + 1) ≤ z g.toNat - flm (rwM z T g m i) g.toNat)) : rwM z T g m (i + 1) = rwM z T g m i ∧ rwC z T g m (i + 1) = rwC z T g m i := ⟨if_neg h, if_neg h⟩
theorem rw_cg : ∀ i : Nat, (∀ k, 1 ≤ k → k ≤ i → T k = U k) → rwM z T g m i = rwM z U g m i ∧ rwC z T g m i = rwC z U g m i
  | 0, _ => ⟨rfl, rfl⟩
  | i + 1, h => by
    obtain ⟨a, b⟩ := rw_cg i (fun k h1 h2 => h k h1 (by omega))
    unfold rwM rwC
    rw [a, b, h (i + 1) (by omega) (by omega)]
    exact ⟨rfl, rfl⟩
theorem rwC_b : ∀ i : Nat, 0 ≤ rwC z T g m i ∧ rwC z T g m i ≤ i
  | 0 => ⟨Int.le_refl 0, Int.le_refl 0⟩
  | i + 1 => by
    have := rwC_b i
    unfold rwC
    split <;> omega
theorem RW.st {n L s w r : Int} {P F Z P1 F1 : Nat → Int} {k : Nat} (pub : PUB n P L F Z (rwM z T g m k) z) (po : POU n P L F Z g s w r P1 F1) (hs : s = (k : Int)) (hw : w = T (k + 1)) (hg : 0 ≤ g ∧ g < n) : PUB n P1 L F1 Z (rwM z T g m (k + 1)) z ∧ ((r = 0 ∧ rwC z T g m (k + 1) = rwC z T g m k + 1) ∨ (r ≠ 0 ∧ rwC z T g m (k + 1) = rwC z T g m k)) := by
  have hn := pub.1.1
  have fl := pub.1.full (i := g.toNat) (by omega)
  obtain ⟨ez, z0, z6⟩ := pub.1.2.2.2.2 g.toNat (by omega)
  by_cases c : k < 4 ∧ (1 ≤ T (k + 1) ∧ T (k + 1) ≤ 60) ∧ T (k + 1) ≤ z g.toNat - flm (rwM z T g m k) g.toNat
  · obtain ⟨y1, y2⟩ := rw_y c
    have hs3 : 0 ≤ s ∧ s ≤ 3 := by omega
    have pi := pub.1.2.2.2.1
    obtain ⟨f, hf, hsm⟩ := pi.2.2 g.toNat (by omega)
    have ef := flm_at (f := f) pi.1.1 (by unfold sm4; exact hsm.symm)
    have e4 : (4 * g + (k : Int)).toNat = 4 * g.toNat + s.toNat := by omega
    have pi1 : PI (rwM z T g m (k + 1)) := by
      refine PIw.fill (m := rwM z T g m k) (g := g.toNat) (s := s.toNat) (a := w) pi (by omega) (by omega) (by omega) f (by omega) hsm ?_ (fun j hj => ?_)
      · rw [y1, e4, ms_at, hw]
      · rw [y1, ms_ne _ _ (by omega)]
    have fi : FIL (rwM z T g m k) z g s w 0 (rwM z T g m (k + 1)) := ⟨fun _ => ⟨rfl, by rw [y1, hw, hs]⟩, fun q => absurd (by omega) q⟩
    obtain ⟨a, b⟩ := pub.1.pour pi1 hg hs3 (by omega) po fi
    exact ⟨POU.lower pub b (fi.e24 (by omega) hs3), Or.inl ⟨a, y2⟩⟩
  · obtain ⟨y1, y2⟩ := rw_n c
    obtain ⟨x1, x2, x3⟩ := po.1 (fun q => c (by omega))
    rw [x2, x3, y1]
    exact ⟨pub, Or.inr ⟨by omega, y2⟩⟩
theorem rw_f {r w s : Int} {m1 : Nat → Int} {k : Nat} (fi : FIL (rwM z T g m k) z g s w r m1) (hk : k < 4) (hw : w = T (k + 1) ∧ 1 ≤ w ∧ w ≤ 60) (hs : s = (k : Int)) : m1 = rwM z T g m (k + 1) ∧ ((r = 0 ∧ rwC z T g m (k + 1) = rwC z T g m k + 1) ∨ (r ≠ 0 ∧ rwC z T g m (k + 1) = rwC z T g m k)) := by
  by_cases c : w ≤ z g.toNat - flm (rwM z T g m k) g.toNat
  · obtain ⟨y1, y2⟩ := rw_y (z := z) (T := T) (g := g) (m := m) (i := k) ⟨hk, by omega, by omega⟩
    obtain ⟨x1, x2⟩ := fi.1 c
    refine ⟨?_, Or.inl ⟨x1, y2⟩⟩
    rw [x2, y1, hw.1, hs]
  · obtain ⟨y1, y2⟩ := rw_n (z := z) (T := T) (g := g) (m := m) (i := k) (by omega)
    obtain ⟨x1, x2⟩ := fi.2 c
    exact ⟨x2.trans y1.symm, Or.inr ⟨by omega, y2⟩⟩
end RWs
def RWQ (n : Int) (z T m : Nat → Int) (len sp r sp1 : Int) (m1 : Nat → Int) : Prop := ((len ≤ 0 ∨ ¬ (0 ≤ T 0 ∧ T 0 < n)) → r = -6 ∧ sp1 = sp ∧ m1 = m) ∧ (¬ (len ≤ 0 ∨ ¬ (0 ≤ T 0 ∧ T 0 < n)) → r = rwC z T (T 0) m (len - 1).toNat ∧ sp1 = len - 1 - r ∧ m1 = rwM z T (T 0) m (len - 1).toNat)
theorem RWQ.det {n len sp r sp1 r2 sp2 : Int} {z T U m m1 m2 : Nat → Int} (h : RWQ n z T m len sp r sp1 m1) (h2 : RWQ n z U m len sp r2 sp2 m2) (e : ∀ k : Nat, (k : Int) < len → T k = U k) : r = r2 ∧ sp1 = sp2 ∧ m1 = m2 := by
  by_cases c0 : len ≤ 0
  · obtain ⟨a1, a2, a3⟩ := h.1 (Or.inl c0)
    obtain ⟨b1, b2, b3⟩ := h2.1 (Or.inl c0)
    exact ⟨by omega, by omega, a3.trans b3.symm⟩
  · have e0 := e 0 (by omega)
    have ec := rw_cg (z := z) (T := T) (U := U) (g := T 0) (m := m) (len - 1).toNat (fun k h1 h2 => e k (by omega))
    by_cases c : 0 ≤ T 0 ∧ T 0 < n
    · obtain ⟨a1, a2, a3⟩ := h.2 (by omega)
      obtain ⟨b1, b2, b3⟩ := h2.2 (by omega)
      rw [← e0, ← ec.1] at b3
      rw [← e0, ← ec.2] at b1
      exact ⟨by omega, by omega, a3.trans b3.symm⟩
    · obtain ⟨a1, a2, a3⟩ := h.1 (Or.inr c)
      obtain ⟨b1, b2, b3⟩ := h2.1 (Or.inr (by omega))
      exact ⟨by omega, by omega, a3.trans b3.symm⟩
