/-! what is kept of the parts while rows of moves are gone through -/
def KPk (f : Nat → Int) (k : Int) : Prop := ∀ j : Nat, ((j : Int) ≤ k ∨ j = 0) → PI (fun i => f (50 + 25 * j + i))
theorem KPk.cg {f f' : Nat → Int} {k k' : Int} (h : KPk f k) (e : ∀ q : Nat, 25 ≤ q → f' q = f q) (hk : k' ≤ k) : KPk f' k' := fun j hj => PIw.cg (h j (by omega)) (fun i _ => e _ (by omega))
theorem KPk.push {f f' p : Nat → Int} {k k' : Int} {A : Nat} (h : KPk f k) (e : ∀ j : Nat, j < 25 → f' (A + j) = p j) (u : ∀ q : Nat, (q < A ∨ A + 25 ≤ q) → f' q = f q) (hA : (A : Int) = 50 + 25 * k') (hk : k' = k + 1) (h0 : 0 ≤ k) (hp : PI p) : KPk f' k' := fun j hj => by
  by_cases hz : (j : Int) = k'
  · refine PIw.cg hp (fun i hi => ?_)
    have := e i hi
    rw [show 50 + 25 * j + i = A + i by omega]; exact this
  · exact PIw.cg (h j (by omega)) (fun i hi => u _ (by omega))
theorem KPk.one {f p : Nat → Int} (e : ∀ j : Nat, j < 25 → f (50 + j) = p j) (hp : PI p) : KPk f 0 := fun j hj => by
  rw [show j = 0 by omega]
  exact PIw.cg hp (fun i hi => e i hi)
theorem KPk.get {f p : Nat → Int} {k : Int} {A j : Nat} (h : KPk f k) (hj : (j : Int) ≤ k ∨ j = 0) (hA : A = 50 + 25 * j) (e : ∀ i : Nat, i < 25 → p i = f (A + i)) : PI p := PIw.cg (h j hj) (fun i hi => by rw [e i hi, hA])
