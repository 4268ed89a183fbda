/-! what is known of a Table (its cells are t, t + 1 .. t + 4) -/
def isT (t : Nat) : Prop := t = 2 ∨ t = 11 ∨ t = 20 ∨ t = 54 ∨ t = 62 ∨ t = 67 ∨ t = 72 ∨ t = 77 ∨ t = 91
theorem isT.o {t : Nat} (h : isT t) : shp[t]? = some (0, 7, [t + 4, t + 5, 2, 2, 1, 0]) := by
  rcases h with rfl | rfl | rfl | rfl | rfl | rfl | rfl | rfl | rfl <;> rfl
theorem isT.s {t : Nat} (h : isT t) : shp[t + 1]? = some (1, 6, []) := by
  rcases h with rfl | rfl | rfl | rfl | rfl | rfl | rfl | rfl | rfl <;> rfl
theorem isT.f {t : Nat} (h : isT t) : shp[t + 2]? = some (1, 6, []) := by
  rcases h with rfl | rfl | rfl | rfl | rfl | rfl | rfl | rfl | rfl <;> rfl
theorem isT.a {t : Nat} (h : isT t) : shp[t + 3]? = some (2, 24, []) := by
  rcases h with rfl | rfl | rfl | rfl | rfl | rfl | rfl | rfl | rfl <;> rfl
theorem isT.b {t : Nat} (h : isT t) : shp[t + 4]? = some (2, 24, []) := by
  rcases h with rfl | rfl | rfl | rfl | rfl | rfl | rfl | rfl | rfl <;> rfl
def okT (M : Mm) (t : Nat) : Prop := 0 ≤ M t 5 ∧ M t 5 ≤ 6 ∧ ((M t 2 = (t : Int) + 3 ∧ M t 3 = (t : Int) + 4) ∨ (M t 2 = (t : Int) + 4 ∧ M t 3 = (t : Int) + 3))
theorem okT.p {M : Mm} {t : Nat} (h : okT M t) (ht : isT t) : shp[(M t 2).toNat]? = some (2, 24, []) := by
  rcases h.2.2 with ⟨h1, -⟩ | ⟨h1, -⟩
  · rw [h1, show ((t : Int) + 3).toNat = t + 3 by omega]; exact ht.a
  · rw [h1, show ((t : Int) + 4).toNat = t + 4 by omega]; exact ht.b
theorem okT.q {M : Mm} {t : Nat} (h : okT M t) (ht : isT t) : shp[(M t 3).toNat]? = some (2, 24, []) := by
  rcases h.2.2 with ⟨-, h1⟩ | ⟨-, h1⟩
  · rw [h1, show ((t : Int) + 4).toNat = t + 4 by omega]; exact ht.b
  · rw [h1, show ((t : Int) + 3).toNat = t + 3 by omega]; exact ht.a
