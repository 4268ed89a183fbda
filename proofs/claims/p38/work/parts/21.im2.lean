theorem cstep {M1 M2 : Mm} {c A k : Nat} {i v : Int} {F : Nat → Int} (h : ∀ j : Nat, (j : Int) < i → M1 c (A + j) = F j) (e : M2 = mu M1 c k v) (hk : k = A + i.toNat) (h0 : 0 ≤ i) (hv : v = F i.toNat) : ∀ j : Nat, (j : Int) < i + 1 → M2 c (A + j) = F j := by
  intro j hj
  subst e; subst hk
  by_cases hij : j = i.toNat
  · subst hij; rw [mu_at]; exact hv
  · rw [mu_ne _ _ (fun _ => by omega)]; exact h j (by omega)
theorem rstep {M1 M2 : Mm} {c A k : Nat} {i v : Int} {F : Nat → Int} (h : ∀ j : Nat, i ≤ (j : Int) → M1 c (A + j) = F j) (e : M2 = mu M1 c k v) (hk : k = A + i.toNat) (h0 : 0 ≤ i) : ∀ j : Nat, i + 1 ≤ (j : Int) → M2 c (A + j) = F j := by
  intro j hj
  subst e; subst hk
  rw [mu_ne _ _ (fun _ => by omega)]; exact h j (by omega)
theorem ustep {M0 M1 M2 : Mm} {c A B k : Nat} {v : Int} (h : ∀ q : Nat, (q < A ∨ B ≤ q) → M1 c q = M0 c q) (e : M2 = mu M1 c k v) (hk : A ≤ k ∧ k < B) : ∀ q : Nat, (q < A ∨ B ≤ q) → M2 c q = M0 c q := by
  intro q hq
  subst e
  rw [mu_ne _ _ (fun _ => by omega)]; exact h q hq
theorem fl_eq {m : Nat → Int} {L f s : Int} (hs : s = f * L) (hL : 1 ≤ L) : s.tdiv L = f := by rw [hs]; exact Int.mul_tdiv_cancel _ (by omega)
theorem PIw.fill {B a : Int} {m m' : Nat → Int} {g s : Nat} (h : PIw B m) (hg : g < 6) (hs : s < 4) (ha : 0 ≤ a) (f : Int) (hf : 0 ≤ f ∧ f + a ≤ 60) (hsum : m (4 * g) + m (4 * g + 1) + m (4 * g + 2) + m (4 * g + 3) = f * m 24) (e1 : m' (4 * g + s) = m (4 * g + s) + a * m 24) (e2 : ∀ k, k ≠ 4 * g + s → m' k = m k) : PIw B m' := by
  have hL := h.1
  have hna : 0 ≤ a * m 24 := Int.mul_nonneg ha (by omega)
  refine ⟨by rw [e2 24 (by omega)]; exact hL, fun k hk => ?_, fun g' hg' => ?_⟩
  · by_cases hks : k = 4 * g + s
    · subst hks; rw [e1]; have := h.2.1 _ hk; omega
    · rw [e2 k hks]; exact h.2.1 k hk
  · by_cases hgg : g' = g
    · subst hgg
      refine ⟨f + a, by omega, ?_⟩
      rw [e2 24 (by omega), Int.add_mul]
      have hc : s = 0 ∨ s = 1 ∨ s = 2 ∨ s = 3 := by omega
      rcases hc with rfl | rfl | rfl | rfl
      · rw [show m' (4 * g') = m (4 * g') + a * m 24 from e1, e2 _ (by omega), e2 _ (by omega), e2 _ (by omega)]; omega
      · rw [e1, e2 _ (by omega), e2 _ (by omega), e2 _ (by omega)]; omega
      · rw [e1, e2 _ (by omega), e2 _ (by omega), e2 _ (by omega)]; omega
      · rw [e1, e2 _ (by omega), e2 _ (by omega), e2 _ (by omega)]; omega
    · obtain ⟨f', hf', hs'⟩ := h.2.2 g' hg'
      exact ⟨f', hf', by rw [e2 _ (by omega), e2 _ (by omega), e2 _ (by omega), e2 _ (by omega), e2 24 (by omega)]; exact hs'⟩
/-- behind a spooning, before all is lessened -/
theorem PIw.spoon {a had : Int} {m m' : Nat → Int} {g : Nat} {t : Int} (h : PI m) (hg : g < 6) (ht : -1 ≤ t ∧ t ≤ 5) (hne : t ≠ (g : Int)) (hh : 1 ≤ had ∧ had ≤ 60) (ha : 1 ≤ a ∧ a ≤ had) (hsum : m (4 * g) + m (4 * g + 1) + m (4 * g + 2) + m (4 * g + 3) = had * m 24)
    (htf : 0 ≤ t → ∃ f, (0 ≤ f ∧ f + a ≤ 60) ∧ m (4 * t.toNat) + m (4 * t.toNat + 1) + m (4 * t.toNat + 2) + m (4 * t.toNat + 3) = f * m 24)
    (e0 : m' 24 = m 24 * had) (e1 : ∀ s, s < 4 → m' (4 * g + s) = m (4 * g + s) * had - m (4 * g + s) * a) (e2 : 0 ≤ t → ∀ s, s < 4 → m' (4 * t.toNat + s) = m (4 * t.toNat + s) * had + m (4 * g + s) * a) (e3 : ∀ k, k < 24 → ¬ (4 * g ≤ k ∧ k < 4 * g + 4) → (0 ≤ t → ¬ (4 * t.toNat ≤ k ∧ k < 4 * t.toNat + 4)) → m' k = m k * had) : PIw 6000000000000000 m' := by
  have hL := h.1
  have n0 := h.2.1
  have key : ∀ g' : Nat, g' < 6 → (∀ s, s < 4 → 0 ≤ m' (4 * g' + s)) ∧ ∃ f : Int, (0 ≤ f ∧ f ≤ 60) ∧ m' (4 * g') + m' (4 * g' + 1) + m' (4 * g' + 2) + m' (4 * g' + 3) = f * m' 24 := by
    intro g' hg'
    by_cases hgg : g' = g
    · subst hgg
      refine ⟨fun s hs => ?_, had - a, by omega, ?_⟩
      · rw [e1 s hs, ← Int.mul_sub]
        exact Int.mul_nonneg (n0 _ (by omega)) (by omega)
      · have x0 := e1 0 (by omega)
        have x1 := e1 1 (by omega)
        have x2 := e1 2 (by omega)
        have x3 := e1 3 (by omega)
        rw [Nat.add_zero] at x0
        rw [x0, x1, x2, x3, e0]
        rw [← Int.mul_sub, ← Int.mul_sub, ← Int.mul_sub, ← Int.mul_sub, ← Int.add_mul, ← Int.add_mul, ← Int.add_mul, hsum, Int.mul_comm (had - a) (m 24 * had), Int.mul_comm had (m 24)]
    · by_cases htt : 0 ≤ t ∧ t.toNat = g'
      · obtain ⟨t0, htg⟩ := htt
        subst htg
        obtain ⟨f, hf, hs2⟩ := htf t0
        refine ⟨fun s hs => ?_, f + a, by omega, ?_⟩
        · rw [e2 t0 s hs]
          have := Int.mul_nonneg (n0 (4 * t.toNat + s) (by omega)) (show 0 ≤ had by omega)
          have := Int.mul_nonneg (n0 (4 * g + s) (by omega)) (show 0 ≤ a by omega)
          omega
        · have x0 := e2 t0 0 (by omega)
          have x1 := e2 t0 1 (by omega)
          have x2 := e2 t0 2 (by omega)
          have x3 := e2 t0 3 (by omega)
          rw [Nat.add_zero, Nat.add_zero] at x0
          rw [x0, x1, x2, x3, e0]
          have y1 : (m (4 * t.toNat) + m (4 * t.toNat + 1) + m (4 * t.toNat + 2) + m (4 * t.toNat + 3)) * had = f * m 24 * had := by rw [hs2]
          have y2 : (m (4 * g) + m (4 * g + 1) + m (4 * g + 2) + m (4 * g + 3)) * a = had * m 24 * a := by rw [hsum]
          rw [Int.add_mul, Int.add_mul, Int.add_mul] at y1 y2
          rw [Int.add_mul, ← Int.mul_assoc, ← Int.mul_assoc, show a * m 24 * had = had * m 24 * a by rw [Int.mul_comm a, Int.mul_assoc, Int.mul_comm a had, ← Int.mul_assoc, Int.mul_comm (m 24) had]]
          omega
      · have hc : ∀ s, s < 4 → m' (4 * g' + s) = m (4 * g' + s) * had := fun s hs => e3 _ (by omega) (by omega) (fun z => by omega)
        obtain ⟨f, hf, hs2⟩ := h.2.2 g' hg'
        refine ⟨fun s hs => ?_, f, hf, ?_⟩
        · rw [hc s hs]; exact Int.mul_nonneg (n0 _ (by omega)) (by omega)
        · have x0 := hc 0 (by omega)
          rw [Nat.add_zero] at x0
          rw [x0, hc 1 (by omega), hc 2 (by omega), hc 3 (by omega), e0, ← Int.add_mul, ← Int.add_mul, ← Int.add_mul, hs2, Int.mul_assoc]
  refine ⟨?_, fun k hk => ?_, fun g' hg' => (key g' hg').2⟩
  · rw [e0]
    have h1 : 1 * had ≤ m 24 * had := Int.mul_le_mul_of_nonneg_right hL.1 (by omega)
    have h2 : m 24 * had ≤ 100000000000000 * had := Int.mul_le_mul_of_nonneg_right hL.2 (by omega)
    omega
  · have := (key (k / 4) (by omega)).1 (k % 4) (by omega)
    rwa [show 4 * (k / 4) + k % 4 = k by omega] at this
/-- a glass is emptied -/
theorem PIw.empty {B : Int} {m m' : Nat → Int} {g : Nat} (h : PIw B m) (hg : g < 6) (e1 : ∀ s, s < 4 → m' (4 * g + s) = 0) (e2 : ∀ k, ¬ (4 * g ≤ k ∧ k < 4 * g + 4) → m' k = m k) : PIw B m' := by
  refine ⟨by rw [e2 24 (by omega)]; exact h.1, fun k hk => ?_, fun g' hg' => ?_⟩
  · by_cases hk4 : 4 * g ≤ k ∧ k < 4 * g + 4
    · have := e1 (k - 4 * g) (by omega)
      rw [show 4 * g + (k - 4 * g) = k by omega] at this
      omega
    · rw [e2 k hk4]; exact h.2.1 k hk
  · by_cases hgg : g' = g
    · subst hgg
      have x0 := e1 0 (by omega)
      rw [Nat.add_zero] at x0
      exact ⟨0, by omega, by rw [x0, e1 1 (by omega), e1 2 (by omega), e1 3 (by omega)]; omega⟩
    · obtain ⟨f, hf, hs⟩ := h.2.2 g' hg'
      exact ⟨f, hf, by rw [e2 _ (by omega), e2 _ (by omega), e2 _ (by omega), e2 _ (by omega), e2 24 (by omega)]; exact hs⟩
theorem rowOK.sz {m : Nat → Int} (h : rowOK m) {i : Int} (h0 : 4 ≤ i) (h1 : i ≤ 9) : 0 ≤ m i.toNat ∧ m i.toNat ≤ 60 := by
  have := h.2.2.2.2.1 (i.toNat - 4) (by omega)
  rwa [show 4 + (i.toNat - 4) = i.toNat by omega] at this
theorem rowOK.sp {m : Nat → Int} (h : rowOK m) {i : Int} (h0 : 10 ≤ i) (h1 : i < 10 + m 1) : 1 ≤ m i.toNat ∧ m i.toNat ≤ 60 := by
  have := h.2.2.2.2.2.1 (i.toNat - 10) (by omega)
  rwa [show 10 + (i.toNat - 10) = i.toNat by omega] at this
theorem tmod_dvd {q x y : Int} (h1 : q ∣ y) (h2 : q ∣ x.tmod y) : q ∣ x := by
  have h := Int.tmod_add_mul_tdiv x y
  rw [← h]
  exact Int.dvd_add h2 (Int.dvd_trans h1 (Int.dvd_mul_right y _))
theorem dstep {F : Nat → Int} {k d r v : Int} (h : ∀ j : Nat, (j : Int) < k → d ∣ F j) (h1 : r ∣ d) (h2 : r ∣ v) (hv : v = F k.toNat) (h0 : 0 ≤ k) : ∀ j : Nat, (j : Int) < k + 1 → r ∣ F j := by
  intro j hj
  by_cases hjk : j = k.toNat
  · subst hjk; rw [← hv]; exact h2
  · exact Int.dvd_trans h1 (h j (by omega))
theorem ediv_rng {v d : Int} (h0 : 0 ≤ v) (hd : 1 ≤ d) : v.tdiv d = v / d ∧ 0 ≤ v / d ∧ v / d ≤ v := ⟨Int.tdiv_eq_ediv_of_nonneg h0, Int.ediv_nonneg h0 (by omega), Int.ediv_le_self _ h0⟩
theorem mulB {v h B : Int} (h0 : 0 ≤ v) (h1 : v ≤ B) (h2 : 0 ≤ h) (h3 : h ≤ 60) : 0 ≤ v * h ∧ v * h ≤ B * 60 := by
  refine ⟨Int.mul_nonneg h0 h2, ?_⟩
  have a1 : v * h ≤ B * h := Int.mul_le_mul_of_nonneg_right h1 h2
  have a2 : B * h ≤ B * 60 := Int.mul_le_mul_of_nonneg_left h3 (by omega)
  omega
theorem PIw.le25 {B : Int} {m : Nat → Int} (h : PIw B m) {k : Nat} (hk : k < 25) : 0 ≤ m k ∧ m k ≤ 60 * B := by
  have := h.1
  rcases Nat.lt_or_ge k 24 with z | z
  · exact h.le z
  · rw [show k = 24 by omega]; omega
theorem dv25 {F : Nat → Int} {d k : Int} (h : ∀ j : Nat, (j : Int) < k → d ∣ F j) (hk : 24 ≤ k) (h24 : d ∣ F 24) : ∀ j : Nat, j < 25 → d ∣ F j := by
  intro j hj
  by_cases hz : j = 24
  · rw [hz]; exact h24
  · exact h j (by omega)
def SpT (M : Mm) (t a : Int) : Prop := 0 ≤ t → ∃ f : Int, (0 ≤ f ∧ f + a ≤ 60) ∧ M 101 (4 * t.toNat) + M 101 (4 * t.toNat + 1) + M 101 (4 * t.toNat + 2) + M 101 (4 * t.toNat + 3) = f * M 101 24
