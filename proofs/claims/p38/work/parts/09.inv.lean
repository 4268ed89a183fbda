/-! the whole class: what always holds of its cells -/
def okP (M : Mm) : Prop := (0 ≤ M 31 1 ∧ M 31 1 ≤ 400) ∧ (0 ≤ M 31 7 ∧ M 31 7 ≤ 400) ∧ M 33 400 = 0 ∧ ∀ k : Nat, k ≤ 400 → 0 ≤ M 34 k ∧ M 34 k ≤ 400 ∧ 0 ≤ M 35 k ∧ M 35 k ≤ 400 ∧ (M 33 k ≠ 0 → M 34 k ≤ 399)
def okR (M : Mm) : Prop := (0 ≤ M 37 4 ∧ M 37 4 ≤ 400) ∧ (0 ≤ M 37 1 ∧ M 37 1 ≤ 12) ∧ ∀ c : Nat, 41 ≤ c → c ≤ 52 → 0 ≤ M c 5 ∧ 0 ≤ M c 6
def okS (M : Mm) (s : Nat) : Prop := (0 ≤ M s 2 ∧ M s 2 ≤ 3) ∧ (0 ≤ M s 4 ∧ M s 4 ≤ 6) ∧ (0 ≤ M s 6 ∧ M s 6 ≤ 6)
def IC (M : Mm) : Prop := (∀ t, isT t → okT M t) ∧ (okS M 1 ∧ okS M 10 ∧ okS M 19) ∧ okP M ∧ okR M ∧ (0 ≤ M 53 2 ∧ M 53 2 ≤ 50)
/-- a write that breaks nothing -/
def okw (c i : Nat) (x : Int) : Prop := (isT c → i = 4) ∧ ((c = 1 ∨ c = 10 ∨ c = 19) → (i = 2 → 0 ≤ x ∧ x ≤ 3) ∧ (i = 4 → 0 ≤ x ∧ x ≤ 6) ∧ (i = 6 → 0 ≤ x ∧ x ≤ 6)) ∧ (c = 31 → (i = 1 ∨ i = 7) → 0 ≤ x ∧ x ≤ 400) ∧ (c ≠ 33 ∧ c ≠ 34 ∧ c ≠ 35) ∧ (c = 37 → (i = 4 → 0 ≤ x ∧ x ≤ 400) ∧ (i = 1 → 0 ≤ x ∧ x ≤ 12)) ∧ (41 ≤ c → c ≤ 52 → (i = 5 ∨ i = 6) → 0 ≤ x) ∧ (c = 53 → i = 2 → 0 ≤ x ∧ x ≤ 50)
theorem mu_cases (M : Mm) (c i c' i' : Nat) (x : Int) : (c' = c ∧ i' = i ∧ mu M c i x c' i' = x) ∨ ((c' ≠ c ∨ i' ≠ i) ∧ mu M c i x c' i' = M c' i') := by
  by_cases h : c' = c ∧ i' = i
  · left; refine ⟨h.1, h.2, ?_⟩; rw [h.1, h.2]; exact mu_at _ _ _ _
  · right; refine ⟨by omega, mu_ne _ _ (fun z1 z2 => h ⟨z1, z2⟩)⟩
theorem okS.w {M : Mm} {s c i : Nat} {x : Int} (h : okS M s) (hw : c = s → (i = 2 → 0 ≤ x ∧ x ≤ 3) ∧ (i = 4 → 0 ≤ x ∧ x ≤ 6) ∧ (i = 6 → 0 ≤ x ∧ x ≤ 6)) : okS (mu M c i x) s := by
  unfold okS at h ⊢
  rcases mu_cases M c i s 2 x with ⟨a1, a2, a3⟩ | ⟨a1, a3⟩ <;> rcases mu_cases M c i s 4 x with ⟨b1, b2, b3⟩ | ⟨b1, b3⟩ <;> rcases mu_cases M c i s 6 x with ⟨c1, c2, c3⟩ | ⟨c1, c3⟩ <;> rw [a3, b3, c3] <;> omega
theorem IC.wr {M M' : Mm} {c i : Nat} {x : Int} (h : IC M) (e : M' = mu M c i x) (hw : okw c i x) : IC M' := by
  subst e
  obtain ⟨hT, ⟨s1, s2, s3⟩, hP, hR, hH⟩ := h
  obtain ⟨w1, w2, w3, w4, w5, w6, w7⟩ := hw
  refine ⟨fun t ht => ?_, ⟨s1.w (fun z => w2 (by omega)), s2.w (fun z => w2 (by omega)), s3.w (fun z => w2 (by omega))⟩, ?_, ?_, ?_⟩
  · by_cases hc : c = t
    · subst hc
      have := w1 ht
      subst this
      exact (hT c ht).w4 rfl
    · exact (hT t ht).wr rfl hc
  · unfold okP at hP ⊢
    rw [mu_cell _ _ (Ne.symm w4.1), mu_cell _ _ (Ne.symm w4.2.1), mu_cell _ _ (Ne.symm w4.2.2)]
    refine ⟨?_, ?_, hP.2.2⟩
    · rcases mu_cases M c i 31 1 x with ⟨a1, a2, a3⟩ | ⟨a1, a3⟩ <;> rw [a3]
      · exact w3 (by omega) (by omega)
      · exact hP.1
    · rcases mu_cases M c i 31 7 x with ⟨a1, a2, a3⟩ | ⟨a1, a3⟩ <;> rw [a3]
      · exact w3 (by omega) (by omega)
      · exact hP.2.1
  · unfold okR at hR ⊢
    refine ⟨?_, ?_, fun c' h1 h2 => ⟨?_, ?_⟩⟩
    · rcases mu_cases M c i 37 4 x with ⟨a1, a2, a3⟩ | ⟨a1, a3⟩ <;> rw [a3]
      · exact (w5 (by omega)).1 (by omega)
      · exact hR.1
    · rcases mu_cases M c i 37 1 x with ⟨a1, a2, a3⟩ | ⟨a1, a3⟩ <;> rw [a3]
      · exact (w5 (by omega)).2 (by omega)
      · exact hR.2.1
    · rcases mu_cases M c i c' 5 x with ⟨a1, a2, a3⟩ | ⟨a1, a3⟩ <;> rw [a3]
      · exact w6 (by omega) (by omega) (by omega)
      · exact (hR.2.2 c' h1 h2).1
    · rcases mu_cases M c i c' 6 x with ⟨a1, a2, a3⟩ | ⟨a1, a3⟩ <;> rw [a3]
      · exact w6 (by omega) (by omega) (by omega)
      · exact (hR.2.2 c' h1 h2).2
  · rcases mu_cases M c i 53 2 x with ⟨a1, a2, a3⟩ | ⟨a1, a3⟩ <;> rw [a3]
    · exact w7 (by omega) (by omega)
    · exact hH
/-- cells of which nothing is asked -/
def free (c : Nat) : Prop := ¬ isT c ∧ c ≠ 1 ∧ c ≠ 10 ∧ c ≠ 19 ∧ c ≠ 31 ∧ c ≠ 33 ∧ c ≠ 34 ∧ c ≠ 35 ∧ c ≠ 37 ∧ ¬ (41 ≤ c ∧ c ≤ 52) ∧ c ≠ 53
theorem IC.fr {P : Nat → Prop} {M M' : Mm} (h : IC M) (f : Fr P M M') (hp : ∀ c, P c → free c) : IC M' := by
  obtain ⟨hT, ⟨s1, s2, s3⟩, hP, hR, hH⟩ := h
  have k : ∀ c, ¬ free c → M' c = M c := fun c hc => f c (fun z => hc (hp c z))
  have e : ∀ c, (isT c ∨ c = 1 ∨ c = 10 ∨ c = 19 ∨ c = 31 ∨ c = 33 ∨ c = 34 ∨ c = 35 ∨ c = 37 ∨ (41 ≤ c ∧ c ≤ 52) ∨ c = 53) → M' c = M c := fun c hc => k c (by
    unfold free
    rcases hc with h | h | h | h | h | h | h | h | h | h | h <;> simp [h])
  refine ⟨fun t ht => (hT t ht).cg (e t (Or.inl ht)), ⟨?_, ?_, ?_⟩, ?_, ?_, ?_⟩
  · unfold okS; rw [e 1 (by omega)]; exact s1
  · unfold okS; rw [e 10 (by omega)]; exact s2
  · unfold okS; rw [e 19 (by omega)]; exact s3
  · unfold okP; rw [e 31 (by omega), e 33 (by omega), e 34 (by omega), e 35 (by omega)]; exact hP
  · unfold okR; rw [e 37 (by omega)]
    exact ⟨hR.1, hR.2.1, fun c h1 h2 => by rw [e c (by omega)]; exact hR.2.2 c h1 h2⟩
  · rw [e 53 (by omega)]; exact hH
theorem IC.cp {M M' : Mm} {c0 sp c dp n : Nat} (h : IC M) (e : M' = mcp M c0 sp c dp n) (hc : free c) : IC M' := h.fr (P := fun q => q = c) (Fr.cp Fr.rf e rfl) (fun q hq => hq ▸ hc)
theorem isT.apart {t u : Nat} (ht : isT t) (hu : isT u) (h : u ≠ t) : ¬ inT t u := by
  unfold isT at ht hu
  unfold inT
  omega
/-- a Table's own method -/
theorem IC.ofT {M M' : Mm} {t : Nat} (h : IC M) (ht : isT t) (f : Fr (inT t) M M') (ho : okT M' t) : IC M' := by
  obtain ⟨hT, ⟨s1, s2, s3⟩, hP, hR, hH⟩ := h
  have e : ∀ c, (c = 1 ∨ c = 10 ∨ c = 19 ∨ c = 31 ∨ c = 33 ∨ c = 34 ∨ c = 35 ∨ c = 37 ∨ (41 ≤ c ∧ c ≤ 52) ∨ c = 53) → M' c = M c := fun c hc => f c (by
    unfold isT at ht
    unfold inT
    omega)
  refine ⟨fun u hu => ?_, ⟨?_, ?_, ?_⟩, ?_, ?_, ?_⟩
  · by_cases hc : u = t
    · rw [hc]; exact ho
    · exact (hT u hu).cg (f u (isT.apart ht hu hc))
  · unfold okS; rw [e 1 (by omega)]; exact s1
  · unfold okS; rw [e 10 (by omega)]; exact s2
  · unfold okS; rw [e 19 (by omega)]; exact s3
  · unfold okP; rw [e 31 (by omega), e 33 (by omega), e 34 (by omega), e 35 (by omega)]; exact hP
  · unfold okR; rw [e 37 (by omega)]
    exact ⟨hR.1, hR.2.1, fun c h1 h2 => by rw [e c (by omega)]; exact hR.2.2 c h1 h2⟩
  · rw [e 53 (by omega)]; exact hH
theorem IC.begin {M M1 M2 M3 M4 M5 : Mm} {k : Nat} {p kd x : Int} (h : IC M) (hk : k ≤ 400) (hp : 0 ≤ p ∧ p ≤ 400) (hkd : kd ≠ 0 → p ≤ 399 ∧ k ≤ 399) (e1 : M1 = mu M 33 k kd) (e2 : M2 = mu M1 34 k p) (e3 : M3 = mu M2 35 k p) (e4 : M4 = mu M3 36 k 0) (e5 : M5 = mu M4 31 6 x) : IC M5 := by
  obtain ⟨hT, ⟨s1, s2, s3⟩, hP, hR, hH⟩ := h
  have e : ∀ c, c ≠ 31 → c ≠ 33 → c ≠ 34 → c ≠ 35 → c ≠ 36 → M5 c = M c := fun c h1 h2 h3 h4 h5 => by
    rw [e5, mu_cell _ _ h1, e4, mu_cell _ _ h5, e3, mu_cell _ _ h4, e2, mu_cell _ _ h3, e1, mu_cell _ _ h2]
  refine ⟨fun t ht => (hT t ht).cg (by unfold isT at ht; exact e t (by omega) (by omega) (by omega) (by omega) (by omega)), ⟨?_, ?_, ?_⟩, ?_, ?_, ?_⟩
  · unfold okS; rw [e 1 (by omega) (by omega) (by omega) (by omega) (by omega)]; exact s1
  · unfold okS; rw [e 10 (by omega) (by omega) (by omega) (by omega) (by omega)]; exact s2
  · unfold okS; rw [e 19 (by omega) (by omega) (by omega) (by omega) (by omega)]; exact s3
  · have q31 : ∀ i, i ≠ 6 → M5 31 i = M 31 i := fun i hi => by
      rw [e5, mu_ne _ _ (fun _ => hi), e4, mu_cell _ _ (by decide), e3, mu_cell _ _ (by decide), e2, mu_cell _ _ (by decide), e1, mu_cell _ _ (by decide)]
    have q33 : ∀ i, M5 33 i = mu M 33 k kd 33 i := fun i => by
      rw [e5, mu_cell _ _ (by decide), e4, mu_cell _ _ (by decide), e3, mu_cell _ _ (by decide), e2, mu_cell _ _ (by decide), e1]
    have q34 : ∀ i, M5 34 i = mu M 34 k p 34 i := fun i => by
      rw [e5, mu_cell _ _ (by decide), e4, mu_cell _ _ (by decide), e3, mu_cell _ _ (by decide), e2]
      rcases mu_cases M1 34 k 34 i p with ⟨a1, a2, a3⟩ | ⟨a1, a3⟩ <;> rcases mu_cases M 34 k 34 i p with ⟨b1, b2, b3⟩ | ⟨b1, b3⟩ <;> rw [a3, b3]
      · omega
      · omega
      · rw [e1, mu_cell _ _ (by decide)]
    have q35 : ∀ i, M5 35 i = mu M 35 k p 35 i := fun i => by
      rw [e5, mu_cell _ _ (by decide), e4, mu_cell _ _ (by decide), e3]
      rcases mu_cases M2 35 k 35 i p with ⟨a1, a2, a3⟩ | ⟨a1, a3⟩ <;> rcases mu_cases M 35 k 35 i p with ⟨b1, b2, b3⟩ | ⟨b1, b3⟩ <;> rw [a3, b3]
      · omega
      · omega
      · rw [e2, mu_cell _ _ (by decide), e1, mu_cell _ _ (by decide)]
    unfold okP at hP ⊢
    rw [q31 1 (by decide), q31 7 (by decide), q33]
    refine ⟨hP.1, hP.2.1, ?_, fun i hi => ?_⟩
    · rcases mu_cases M 33 k 33 400 kd with ⟨a1, a2, a3⟩ | ⟨a1, a3⟩ <;> rw [a3]
      · rcases Decidable.em (kd = 0) with z | z
        · exact z
        · have := hkd z; omega
      · exact hP.2.2.1
    · rw [q33, q34, q35]
      obtain ⟨b1, b2, b3, b4, b5⟩ := hP.2.2.2 i hi
      by_cases hik : i = k
      · subst hik
        rw [mu_at, mu_at, mu_at]
        exact ⟨hp.1, hp.2, hp.1, hp.2, fun z => (hkd z).1⟩
      · rw [mu_ne _ _ (fun _ => hik), mu_ne _ _ (fun _ => hik), mu_ne _ _ (fun _ => hik)]
        exact ⟨b1, b2, b3, b4, b5⟩
  · unfold okR; rw [e 37 (by omega) (by omega) (by omega) (by omega) (by omega)]
    exact ⟨hR.1, hR.2.1, fun c h1 h2 => by rw [e c (by omega) (by omega) (by omega) (by omega) (by omega)]; exact hR.2.2 c h1 h2⟩
  · rw [e 53 (by omega) (by omega) (by omega) (by omega) (by omega)]; exact hH
/-- an end of a token moves -/
theorem IC.w35 {M M' : Mm} {k : Nat} {x : Int} (h : IC M) (e : M' = mu M 35 k x) (hx : 0 ≤ x ∧ x ≤ 400) : IC M' := by
  obtain ⟨hT, ⟨s1, s2, s3⟩, hP, hR, hH⟩ := h
  have e : ∀ c, c ≠ 35 → M' c = M c := fun c h1 => by rw [e, mu_cell _ _ h1]
  refine ⟨fun t ht => (hT t ht).cg (by unfold isT at ht; exact e t (by omega)), ⟨?_, ?_, ?_⟩, ?_, ?_, ?_⟩
  · unfold okS; rw [e 1 (by omega)]; exact s1
  · unfold okS; rw [e 10 (by omega)]; exact s2
  · unfold okS; rw [e 19 (by omega)]; exact s3
  · unfold okP at hP ⊢
    rw [e 31 (by omega), e 33 (by omega), e 34 (by omega)]
    refine ⟨hP.1, hP.2.1, hP.2.2.1, fun i hi => ?_⟩
    obtain ⟨b1, b2, b3, b4, b5⟩ := hP.2.2.2 i hi
    rename M' = mu M 35 k x => e0
    rcases mu_cases M 35 k 35 i x with ⟨a1, a2, a3⟩ | ⟨a1, a3⟩ <;> rw [e0, a3]
    · exact ⟨b1, b2, hx.1, hx.2, b5⟩
    · exact ⟨b1, b2, b3, b4, b5⟩
  · unfold okR; rw [e 37 (by omega)]
    exact ⟨hR.1, hR.2.1, fun c h1 h2 => by rw [e c (by omega)]; exact hR.2.2 c h1 h2⟩
  · rw [e 53 (by omega)]; exact hH
