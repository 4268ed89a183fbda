theorem TS.m4 {M : Mm} {K W : Nat → Int} {m : Nat} (h : TS M K W m) : m ≤ 400 := by
  obtain ⟨rfl, rfl, ⟨n, hn, h1, ⟨-, h2⟩, ⟨h3, -⟩, h4⟩, -⟩ := h
  have q : ∀ i : Nat, i ≤ m → (i : Int) ≤ M 34 i := by
    intro i
    induction i with
    | zero => intro _; exact h3
    | succ i ih =>
      intro hi
      have a := ih (by omega)
      have b := (h1 i (by omega)).2.1
      have c := (h4 i (by omega)).1
      omega
  have := q m (Nat.le_refl _)
  omega
theorem RS.y1 {K W : Nat → Int} {b : Int} {i : Nat} {lv l r : Int} {i' : Nat} {lv' : Int} (hr : r = 1) (h : NS K W l i' ∧ RSm K W l b i lv i' lv') : RS K W l b i lv r i' lv' := by
  rw [hr]
  exact RS.y h
theorem RS.n1 {K W : Nat → Int} {b : Int} {i : Nat} {lv l r : Int} {i' : Nat} {lv' : Int} (hr : r = 0) (h : RSb K W l b i lv i') : RS K W l b i lv r i' lv' := by
  rw [hr]
  exact RS.n h
theorem RT.y1 {K W : Nat → Int} {b : Int} {i : Nat} {lv l r : Int} {i' : Nat} {lv' : Int} (hr : r = 1) (h : NT K W l i' ∧ RTm K W l b i lv i' lv') : RT K W l b i lv r i' lv' := by
  rw [hr]
  exact RT.y h
theorem RT.n1 {K W : Nat → Int} {b : Int} {i : Nat} {lv l r : Int} {i' : Nat} {lv' : Int} (hr : r = 0) (h : RTb K W l b i lv i') : RT K W l b i lv r i' lv' := by
  rw [hr]
  exact RT.n h
