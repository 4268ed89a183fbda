/-! what is known of a Table (its cells are t, t + 1 .. t + 4) -/
def isT (t : Nat) : Prop := t = 2 ∨ t = 11 ∨ t = 20 ∨ t = 54 ∨ t = 62 ∨ t = 67 ∨ t = 72 ∨ t = 77 ∨ t = 91
theorem isT.o {t : Nat} (h : isT t) : shp[t]? = some (0, 7, [t + 4, t + 5, 2, 2, 1, 0]) := by
  rcases h with rfl | rfl | rfl | rfl | rfl | rfl | rfl | rfl | rfl <;> rfl
theorem isT.s {t : Nat} (h : isT t) : shp[t + 1]? = some (1, 6, []) := by
  rcases h with rfl | rfl | rfl | rfl | rfl | rfl | rfl | rfl | rfl <;> rfl
theorem isT.f {t : Nat} (h : isT t) : shp[t + 2]? = some (1, 6, []) := by
  rcases h with rfl | rfl | rfl | rfl | rfl | rfl | rfl | rfl | rfl <;> rfl
theorem isT.a {t : Nat} (h : isT t) : shp[t + 3]? = some (2, 24, []) := by
  rcases h with rfl | rfl | rfl | rfl | rfl | rfl | rfl | rfl | rfl <;> rfl
theorem isT.b {t : Nat} (h : isT t) : shp[t + 4]? = some (2, 24, []) := by
  rcases h with rfl | rfl | rfl | rfl | rfl | rfl | rfl | rfl | rfl <;> rfl
def okT (M : Mm) (t : Nat) : Prop := 0 ≤ M t 5 ∧ M t 5 ≤ 6 ∧ ((M t 2 = (t : Int) + 3 ∧ M t 3 = (t : Int) + 4) ∨ (M t 2 = (t : Int) + 4 ∧ M t 3 = (t : Int) + 3))
theorem okT.p {M : Mm} {t : Nat} (h : okT M t) (ht : isT t) : shp[(M t 2).toNat]? = some (2, 24, []) := by
  rcases h.2.2 with ⟨h1, -⟩ | ⟨h1, -⟩
  · rw [h1, show ((t : Int) + 3).toNat = t + 3 by omega]; exact ht.a
  · rw [h1, show ((t : Int) + 4).toNat = t + 4 by omega]; exact ht.b
theorem okT.q {M : Mm} {t : Nat} (h : okT M t) (ht : isT t) : shp[(M t 3).toNat]? = some (2, 24, []) := by
  rcases h.2.2 with ⟨-, h1⟩ | ⟨-, h1⟩
  · rw [h1, show ((t : Int) + 4).toNat = t + 4 by omega]; exact ht.b
  · rw [h1, show ((t : Int) + 3).toNat = t + 3 by omega]; exact ht.a
def inT (t c : Nat) : Prop := t ≤ c ∧ c ≤ t + 4
def Fr (P : Nat → Prop) (M M' : Mm) : Prop := ∀ c, ¬ P c → M' c = M c
theorem Fr.rf {P : Nat → Prop} {M : Mm} : Fr P M M := fun _ _ => rfl
theorem Fr.wr {P : Nat → Prop} {M0 M M' : Mm} {c i : Nat} {x : Int} (h : Fr P M0 M) (e : M' = mu M c i x) (hp : P c) : Fr P M0 M' := fun c' hc => by
  subst e
  have hne : c' ≠ c := fun z => hc (by rw [z]; exact hp)
  rw [mu_cell _ _ hne]
  exact h c' hc
theorem mcp_cell (M : Mm) {c0 sp c dp n c' : Nat} (h : c' ≠ c) : mcp M c0 sp c dp n c' = M c' := by simp [mcp, h]
theorem Fr.cp {P : Nat → Prop} {M0 M M' : Mm} {c0 sp c dp n : Nat} (h : Fr P M0 M) (e : M' = mcp M c0 sp c dp n) (hp : P c) : Fr P M0 M' := fun c' hc => by
  subst e
  have hne : c' ≠ c := fun z => hc (by rw [z]; exact hp)
  rw [mcp_cell _ hne]
  exact h c' hc
theorem Fr.tr {P P' : Nat → Prop} {M0 M M' : Mm} (h : Fr P M0 M) (h' : Fr P' M M') (hs : ∀ c, P' c → P c) : Fr P M0 M' := fun c hc => (h' c (fun z => hc (hs c z))).trans (h c hc)
theorem okT.cg {M M' : Mm} {t : Nat} (h : okT M t) (e : M' t = M t) : okT M' t := by unfold okT at h ⊢; rw [e]; exact h
theorem okT.wr {M M' : Mm} {t c i : Nat} {x : Int} (h : okT M t) (e : M' = mu M c i x) (hc : c ≠ t) : okT M' t := h.cg (by subst e; exact mu_cell _ _ (Ne.symm hc))
theorem okT.cp {M M' : Mm} {t c0 sp c dp n : Nat} (h : okT M t) (e : M' = mcp M c0 sp c dp n) (hc : c ≠ t) : okT M' t := h.cg (by subst e; exact mcp_cell _ (Ne.symm hc))
theorem okT.w4 {M M' : Mm} {t : Nat} {x : Int} (h : okT M t) (e : M' = mu M t 4 x) : okT M' t := by
  subst e
  unfold okT at h ⊢
  rw [mu_ne _ _ (fun _ => by decide), mu_ne _ _ (fun _ => by decide), mu_ne _ _ (fun _ => by decide)]
  exact h
theorem okT.w5 {M M' : Mm} {t : Nat} {x : Int} (h : okT M t) (e : M' = mu M t 5 x) (h0 : 0 ≤ x) (h6 : x ≤ 6) : okT M' t := by
  subst e
  unfold okT at h ⊢
  rw [mu_at, mu_ne _ _ (fun _ => by decide), mu_ne _ _ (fun _ => by decide)]
  exact ⟨h0, h6, h.2.2⟩
theorem okT.pin {M : Mm} {t : Nat} (h : okT M t) : inT t (M t 2).toNat ∧ (M t 2).toNat ≠ t := by
  rcases h.2.2 with ⟨h1, -⟩ | ⟨h1, -⟩ <;> (rw [h1]; unfold inT; omega)
theorem okT.qin {M : Mm} {t : Nat} (h : okT M t) : inT t (M t 3).toNat ∧ (M t 3).toNat ≠ t := by
  rcases h.2.2 with ⟨-, h1⟩ | ⟨-, h1⟩ <;> (rw [h1]; unfold inT; omega)
/-- the two arrays change places -/
theorem okT.sw {M M1 M2 : Mm} {t : Nat} (h : okT M t) (e1 : M1 = mu M t 2 (((M t 3).toNat : Nat) : Int)) (e2 : M2 = mu M1 t 3 (((M t 2).toNat : Nat) : Int)) : okT M2 t := by
  subst e1; subst e2
  unfold okT at h ⊢
  rw [mu_at, mu_ne _ _ (fun _ => by decide), mu_ne _ _ (fun _ => by decide), mu_ne _ _ (fun _ => by decide), mu_at]
  refine ⟨h.1, h.2.1, ?_⟩
  rcases h.2.2 with ⟨h1, h2⟩ | ⟨h1, h2⟩ <;> (rw [h1, h2]; omega)
theorem mu5 (M : Mm) {t c i : Nat} (x : Int) {M' : Mm} (e : M' = mu M c i x) (h : t = c → 5 ≠ i) : M' t 5 = M t 5 := by subst e; exact mu_ne _ _ h
theorem cp5 (M : Mm) {t c0 sp c dp n : Nat} {M' : Mm} (e : M' = mcp M c0 sp c dp n) (h : t ≠ c) : M' t 5 = M t 5 := by subst e; rw [mcp_cell _ h]
theorem isT.ab {t a : Nat} (h : isT t) (ha : a = t + 3 ∨ a = t + 4) : shp[a]? = some (2, 24, []) := by
  rcases ha with rfl | rfl
  · exact h.a
  · exact h.b
theorem okT.qab {M : Mm} {t : Nat} (h : okT M t) : (M t 3).toNat = t + 3 ∨ (M t 3).toNat = t + 4 := by
  rcases h.2.2 with ⟨-, h1⟩ | ⟨-, h1⟩ <;> omega
theorem ab_in {t a : Nat} (ha : a = t + 3 ∨ a = t + 4) : inT t a ∧ a ≠ t := by unfold inT; omega
theorem clS {c : Nat} (h : 41 ≤ c ∧ c ≤ 52) : shp[c]? = some (0, 0, [0, 0, 0, 0, 0, 0, 0, 0]) := by
  have h1 : c = 41 ∨ c = 42 ∨ c = 43 ∨ c = 44 ∨ c = 45 ∨ c = 46 ∨ c = 47 ∨ c = 48 ∨ c = 49 ∨ c = 50 ∨ c = 51 ∨ c = 52 := by omega
  rcases h1 with rfl | rfl | rfl | rfl | rfl | rfl | rfl | rfl | rfl | rfl | rfl | rfl <;> rfl
theorem isT_2 : isT 2 := by unfold isT; omega
theorem isT_11 : isT 11 := by unfold isT; omega
theorem isT_20 : isT 20 := by unfold isT; omega
theorem isT_54 : isT 54 := by unfold isT; omega
theorem isT_62 : isT 62 := by unfold isT; omega
theorem isT_67 : isT 67 := by unfold isT; omega
theorem isT_72 : isT 72 := by unfold isT; omega
theorem isT_77 : isT 77 := by unfold isT; omega
theorem isT_91 : isT 91 := by unfold isT; omega
theorem clD : ∀ k : Nat, k < 12 → 41 ≤ ([41, 42, 43, 44, 45, 46, 47, 48, 49, 50, 51, 52] : List Nat).getD k 0 ∧ ([41, 42, 43, 44, 45, 46, 47, 48, 49, 50, 51, 52] : List Nat).getD k 0 ≤ 52 := by decide
theorem tbD : ∀ k : Nat, k < 4 → isT (([62, 67, 72, 77] : List Nat).getD k 0) ∧ ([62, 67, 72, 77] : List Nat).getD k 0 = 62 + 5 * k := by
  intro k hk
  have h : k = 0 ∨ k = 1 ∨ k = 2 ∨ k = 3 := by omega
  rcases h with rfl | rfl | rfl | rfl
  · exact ⟨isT_62, rfl⟩
  · exact ⟨isT_67, rfl⟩
  · exact ⟨isT_72, rfl⟩
  · exact ⟨isT_77, rfl⟩
theorem tmr {x k : Int} (hx : 0 ≤ x) (hk : 0 < k) : 0 ≤ x.tmod k ∧ x.tmod k < k := by
  rw [Int.tmod_eq_emod_of_nonneg hx]
  exact ⟨Int.emod_nonneg _ (by omega), Int.emod_lt_of_pos _ hk⟩
