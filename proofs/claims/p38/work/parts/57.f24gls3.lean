/-! what a Table's own methods do -/
def STLQ (M M1 : Mm) (t a b : Nat) (n : Int) (P : Nat → Int) (L : Int) (F Z : Nat → Int) (x r : Int) : Prop := (r = 0 ∧ TV M1 t a b n P L F Z ∧ 100000000000000 * gF (M b) x (4 * n).toNat < x) ∨ (r = 1 ∧ ∃ (P1 : Nat → Int) (L1 d : Int), TV M1 t b a n P1 L1 F Z ∧ 1 ≤ d ∧ DVD (M b) P1 d n ∧ x = L1 * d ∧ (1 ≤ L1 ∧ L1 ≤ 100000000000000))
theorem STLQ.no {M M1 : Mm} {t a b : Nat} {n L : Int} {P F Z : Nat → Int} {x u : Int} (tv : TV M1 t a b n P L F Z) (hu : 1 ≤ u) (ug : x ≤ 100000000000000 ∨ u = gF (M b) x (4 * n).toNat) (hx : 1 ≤ x) (hd : u ∣ x) (h : 100000000000000 < x.tdiv u) : STLQ M M1 t a b n P L F Z x 0 := by
  have dq := dvq hu (by omega) hd
  refine Or.inl ⟨rfl, tv, ?_⟩
  rcases ug with z | z
  · omega
  · rw [← z]
    have q : (100000000000000 + 1) * u ≤ x.tdiv u * u := Int.mul_le_mul_of_nonneg_right (by omega) (by omega)
    omega
theorem STLQ.yes {M M1 : Mm} {t a b : Nat} {n L : Int} {P F Z P1 : Nat → Int} {x u : Int} (tv : TV M1 t b a n P1 (x.tdiv u) F Z) (hu : 1 ≤ u) (hx : 1 ≤ x) (hd : u ∣ x) (h : x.tdiv u ≤ 100000000000000) (hD : DVD (M b) P1 u n) : STLQ M M1 t a b n P L F Z x 1 := by
  have dq := dvq hu (by omega) hd
  refine Or.inr ⟨rfl, P1, x.tdiv u, u, tv, hu, hD, dq.1, ?_, h⟩
  by_cases z : x.tdiv u = 0
  · rw [z, Int.zero_mul] at dq; omega
  · omega
theorem dv_all {p : Nat → Int} {x u : Int} {n : Int} (h : u = gF p x (4 * n).toNat) : u ∣ x ∧ ∀ j : Nat, (j : Int) < 4 * n → u ∣ p j := by
  subst h
  have := gF_dvd (p := p) (d := x) (4 * n).toNat
  exact ⟨this.1, fun j hj => this.2 j (by omega)⟩
theorem tdv1 {x u : Int} (hu : 1 ≤ u) (hx : 1 ≤ x) (hd : u ∣ x) : 1 ≤ x.tdiv u ∧ x.tdiv u ≤ x := by
  have dq := dvq hu (by omega) hd
  by_cases z : x.tdiv u = 0
  · rw [z, Int.zero_mul] at dq; omega
  · omega
theorem shF_2 {F : Nat → Int} {g k w u v : Int} (hg : 0 ≤ g) (hk : 0 ≤ k) (hgk : g ≠ k) (hu : u = F g.toNat - w) (hv : v = F k.toNat + w) : ms (ms F g.toNat u) k.toNat v = shF F g k w := by
  funext j
  unfold shF
  by_cases c : j = k.toNat
  · subst c
    rw [ms_at, if_neg (by omega), if_pos (by omega)]
    exact hv
  · rw [ms_ne _ _ c]
    by_cases d : j = g.toNat
    · subst d
      rw [ms_at, if_pos (by omega)]
      exact hu
    · rw [ms_ne _ _ d, if_neg (by omega), if_neg (by omega)]
theorem shF_1 {F : Nat → Int} {g k w u : Int} (hg : 0 ≤ g) (hk : k = -1) (hu : u = F g.toNat - w) : ms F g.toNat u = shF F g k w := by
  funext j
  unfold shF
  by_cases d : j = g.toNat
  · subst d
    rw [ms_at, if_pos (by omega)]
    exact hu
  · rw [ms_ne _ _ d, if_neg (by omega), if_neg (by omega)]
theorem CARR.no {can : Prop} {n L : Int} {P F : Nat → Int} {g k w : Int} (h : ¬ can) : CARR can n P L F g k w (-3) P L F := ⟨fun _ => ⟨rfl, rfl, rfl, rfl⟩, fun z => absurd z h⟩
theorem CARR.room {can : Prop} {n L x : Int} {P F N : Nat → Int} {g k w : Int} (h : can) (hN : ∀ j : Nat, (j : Int) < 4 * n → N j = shr P (F g.toNat) g k w j) (hx : x = L * F g.toNat) (hr : 100000000000000 * gF N x (4 * n).toNat < x) : CARR can n P L F g k w (-5) P L F := by
  refine ⟨fun z => absurd h z, fun _ => Or.inr ⟨rfl, rfl, rfl, rfl, ?_⟩⟩
  rw [gF_cg (q := shr P (F g.toNat) g k w) (4 * n).toNat (fun j hj => hN j (by omega)), hx] at hr
  exact hr
theorem CARR.yes {can : Prop} {n L x L1 d : Int} {P F N P1 F1 : Nat → Int} {g k w : Int} (h : can) (hN : ∀ j : Nat, (j : Int) < 4 * n → N j = shr P (F g.toNat) g k w j) (hx : x = L * F g.toNat) (hd : 1 ≤ d) (hD : DVD N P1 d n) (hL : x = L1 * d) (h1 : 1 ≤ L1 ∧ L1 ≤ 100000000000000) (hF : F1 = shF F g k w) : CARR can n P L F g k w 0 P1 L1 F1 := by
  refine ⟨fun z => absurd h z, fun _ => Or.inl ⟨rfl, ⟨d, hd, fun j hj => ?_, by rw [← hx]; exact hL⟩, h1, hF⟩⟩
  rw [← hN j hj]
  exact (hD j hj).1
def POU (n : Int) (P : Nat → Int) (L : Int) (F Z : Nat → Int) (g s w r : Int) (P1 F1 : Nat → Int) : Prop :=
  (¬ ((1 ≤ w ∧ w ≤ 60) ∧ (0 ≤ s ∧ s ≤ 3) ∧ (0 ≤ g ∧ g < n) ∧ w ≤ Z g.toNat - F g.toNat) → r = -3 ∧ P1 = P ∧ F1 = F) ∧
  (((1 ≤ w ∧ w ≤ 60) ∧ (0 ≤ s ∧ s ≤ 3) ∧ (0 ≤ g ∧ g < n) ∧ w ≤ Z g.toNat - F g.toNat) → r = 0 ∧ P1 = ms P (g * 4 + s).toNat (P (g * 4 + s).toNat + w * L) ∧ F1 = ms F g.toNat (F g.toNat + w))
def CLR (P P1 F F1 : Nat → Int) (g : Int) : Prop := (∀ j : Nat, (j : Int) / 4 ≠ g → P1 j = P j) ∧ (∀ j : Nat, (j : Int) / 4 = g → P1 j = 0) ∧ F1 = ms F g.toNat 0
def CLp (P P1 : Nat → Int) (g s : Int) : Prop := (∀ j : Nat, ¬ ((j : Int) / 4 = g ∧ (j : Int) % 4 < s) → P1 j = P j) ∧ ∀ j : Nat, (j : Int) / 4 = g → (j : Int) % 4 < s → P1 j = 0
theorem CLp.z (P : Nat → Int) (g : Int) : CLp P P g 0 := ⟨fun _ _ => rfl, fun j _ h => by omega⟩
theorem CLp.s {P P1 P2 : Nat → Int} {g s : Int} {x : Nat} (h : CLp P P1 g s) (hs : 0 ≤ s ∧ s < 4) (hx : (x : Int) = g * 4 + s) (e : P2 = ms P1 x 0) : CLp P P2 g (s + 1) := by
  subst e
  refine ⟨fun j hj => ?_, fun j h1 h2 => ?_⟩
  · rw [ms_ne _ _ (by omega)]; exact h.1 j (by omega)
  · by_cases c : j = x
    · rw [c]; exact ms_at _ _ _
    · rw [ms_ne _ _ c]; exact h.2 j h1 (by omega)
theorem CLp.e {P P1 F F1 : Nat → Int} {g s : Int} (h : CLp P P1 g s) (hs : s = 4) (hF : F1 = ms F g.toNat 0) : CLR P P1 F F1 g := ⟨fun j hj => h.1 j (by omega), fun j hj => h.2 j hj (by omega), hF⟩
theorem mcp_in (M : Mm) {c0 c n : Nat} {j : Nat} (h : j < n) : mcp M c0 0 c 0 n c j = M c0 j := by
  simp [mcp, h]
theorem isT.far {t u : Nat} (ht : isT t) (hu : isT u) (h : u ≠ t) : u + 5 ≤ t ∨ t + 5 ≤ u := by
  unfold isT at ht hu
  omega
theorem STLQ.r {M M1 : Mm} {t a b : Nat} {n L : Int} {P F Z : Nat → Int} {x r : Int} (h : STLQ M M1 t a b n P L F Z x r) : r = 0 ∨ r = 1 := by
  rcases h with h | h
  · exact Or.inl h.1
  · exact Or.inr h.1
