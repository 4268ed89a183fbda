/-! running: the class's stack -/
def VBs (st : List Int) : Prop := ∀ v : Int, v ∈ st → -1000000000 ≤ v ∧ v ≤ 1000000000
def STK (M : Mm) (st : List Int) : Prop := PIL (M 59) (M 53 2).toNat st ∧ VBs st
theorem STK.nil {M : Mm} (h : M 53 2 = 0) : STK M [] := ⟨by rw [h]; exact rfl, fun v hv => by cases hv⟩
theorem STK.fr {M M1 : Mm} {st : List Int} (h : STK M st) (e9 : M1 59 = M 59) (e2 : M1 53 2 = M 53 2) : STK M1 st := by
  unfold STK
  rw [e9, e2]
  exact h
theorem STK.len {M : Mm} {st : List Int} (h : STK M st) (h0 : 0 ≤ M 53 2) : (st.length : Int) = M 53 2 := by
  rw [h.1.len]
  omega
theorem STK.push {M M1 : Mm} {st : List Int} {a : Int} (h : STK M st) (h0 : 0 ≤ M 53 2) (ha : -1000000000 ≤ a ∧ a ≤ 1000000000) (e9 : M1 59 = ms (M 59) (M 53 2).toNat a) (e2 : M1 53 2 = M 53 2 + 1) : STK M1 (a :: st) := by
  refine ⟨PIL.push h.1 e9 (by omega), fun v hv => ?_⟩
  rcases List.mem_cons.mp hv with z | z
  · rw [z]; exact ha
  · exact h.2 v z
theorem STK.top {M : Mm} {st : List Int} (h : STK M st) (h0 : 0 < M 53 2) : ∃ r : List Int, st = M 59 (M 53 2 - 1).toNat :: r ∧ PIL (M 59) (M 53 2 - 1).toNat r ∧ VBs r ∧ (-1000000000 ≤ M 59 (M 53 2 - 1).toNat ∧ M 59 (M 53 2 - 1).toNat ≤ 1000000000) := by
  obtain ⟨p, b⟩ := h
  rw [show (M 53 2).toNat = (M 53 2 - 1).toNat + 1 by omega] at p
  obtain ⟨r, e, p⟩ := p
  subst e
  exact ⟨r, rfl, p, fun v hv => b v (List.mem_cons_of_mem _ hv), b _ List.mem_cons_self⟩
theorem STK.pop {M M1 : Mm} {st : List Int} (h : STK M st) (h0 : 0 < M 53 2) (e9 : M1 59 = M 59) (e2 : M1 53 2 = M 53 2 - 1) : STK M1 st.tail := by
  obtain ⟨r, e, p, b, -⟩ := h.top h0
  subst e
  exact ⟨by rw [e9, e2]; exact p, b⟩
theorem STK.emp {M : Mm} {st : List Int} (h : STK M st) (h0 : M 53 2 ≤ 0) : st = [] := by
  have p := h.1
  rw [show (M 53 2).toNat = 0 by omega] at p
  exact p
theorem psC_n {v : Int} {st : List Int} (h : ¬ (st.length < 50 ∧ (-1000000000 ≤ v ∧ v ≤ 1000000000))) : psC v st = none := if_neg h
def PSX (M1 : Mm) (a : Int) (st : List Int) (r : Int) : Prop := (r = 1 ∧ psC a st = some (a :: st) ∧ STK M1 (a :: st)) ∨ (r = 0 ∧ psC a st = none)
def POX (M1 : Mm) (st : List Int) (r : Int) : Prop := r = st.headD 0 ∧ STK M1 st.tail ∧ (-1000000000 ≤ r ∧ r ≤ 1000000000)
def WKX (E : Int → Int → Int) (M1 : Mm) (c d : Int) (st : List Int) (r : Int) : Prop := (r = 1 ∧ ∃ st2 : List Int, wks E c d st = some st2 ∧ STK M1 st2) ∨ (r = 0 ∧ wks E c d st = none)
section WKs
variable {E : Int → Int → Int} {M1 Ma Mb : Mm} {c d a r x y : Int} {st : List Int}
theorem WKX.leaf (h : PSX M1 a st r) (hc : 1 ≤ c ∧ c ≤ 5) (ha : a = lvC E c d) : WKX E M1 c d st r := by
  have e : wks E c d st = psC a st := by rw [ha]; exact if_pos hc
  rcases h with ⟨h1, h2, h3⟩ | ⟨h1, h2⟩
  · exact Or.inl ⟨h1, _, e.trans h2, h3⟩
  · exact Or.inr ⟨h1, e.trans h2⟩
theorem WKX.not_ (p : POX Ma st x) (h : PSX M1 a st.tail r) (hc : c = 13) (ha : a = 1 - x) : WKX E M1 c d st r := by
  have e : wks E c d st = psC a st.tail := by
    unfold wks
    rw [if_neg (by omega), if_pos hc, ha, p.1]
  rcases h with ⟨h1, h2, h3⟩ | ⟨h1, h2⟩
  · exact Or.inl ⟨h1, _, e.trans h2, h3⟩
  · exact Or.inr ⟨h1, e.trans h2⟩
theorem WKX.bin (p : POX Ma st x) (q : POX Mb st.tail y) (h : PSX M1 a st.tail.tail r) (hc : ¬ (1 ≤ c ∧ c ≤ 5) ∧ c ≠ 13) (ha : okV a = opV (c + 14) y x) : WKX E M1 c d st r := by
  have e : wks E c d st = (match okV a with | some v => psC v st.tail.tail | none => none) := by
    rw [ha, p.1, q.1]
    unfold wks
    rw [if_neg hc.1, if_neg hc.2]
    try rfl
  by_cases k : -1000000000 ≤ a ∧ a ≤ 1000000000
  · have e2 : okV a = some a := if_pos k
    rw [e2] at e
    rcases h with ⟨h1, h2, h3⟩ | ⟨h1, h2⟩
    · exact Or.inl ⟨h1, _, e.trans h2, h3⟩
    · exact Or.inr ⟨h1, e.trans h2⟩
  · have e2 : okV a = none := if_neg k
    rw [e2] at e
    rcases h with ⟨h1, h2, h3⟩ | ⟨h1, h2⟩
    · unfold psC at h2
      rw [if_neg (fun z => k z.2)] at h2
      cases h2
    · exact Or.inr ⟨h1, e⟩
end WKs
/-- whether what stands behind no longer matters -/
def ISX (M1 : Mm) (c : Int) (st : List Int) (r : Int) : Prop := (st = [] ∧ r = 0 ∧ STK M1 []) ∨ ∃ (v : Int) (rs : List Int), st = v :: rs ∧ ((r = 1 ∧ ((c = 15 ∧ v ≠ 0) ∨ (c = 14 ∧ v = 0)) ∧ STK M1 (v :: rs)) ∨ (r = 0 ∧ ¬ ((c = 15 ∧ v ≠ 0) ∨ (c = 14 ∧ v = 0)) ∧ STK M1 rs))
/-! one step of works -/
section WRs
variable {C D : Nat → Int} {E : Int → Int → Int} {Z : Option (Int × List Int)} {go : Int} {st st2 : List Int} {k n : Nat}
theorem wr_s {y : Int × List Int} (h : wkR C D E (n + 1) k (go, st) = Z) (e : wk1 C D E k (go, st) = some y) : wkR C D E n (k + 1) y = Z := by
  have h' : (match wk1 C D E k (go, st) with | some y => wkR C D E n (k + 1) y | none => none) = Z := h
  rw [e] at h'
  exact h'
theorem wr_n (h : wkR C D E (n + 1) k (go, st) = Z) (e : wk1 C D E k (go, st) = none) : Z = none := by
  have h' : (match wk1 C D E k (go, st) with | some y => wkR C D E n (k + 1) y | none => none) = Z := h
  rw [e] at h'
  exact h'.symm
theorem wr_skip (h : wkR C D E (n + 1) k (go, st) = Z) (hg : (k : Int) < go) : wkR C D E n (k + 1) (go, st) = Z := wr_s h (if_pos hg)
theorem wr_ao {M1 : Mm} {c r : Int} (h : wkR C D E (n + 1) k (go, st) = Z) (hg : go ≤ k) (hc : c = C k) (ho : c = 14 ∨ c = 15) (q : ISX M1 c st r) : ∃ st2 : List Int, STK M1 st2 ∧ wkR C D E n (k + 1) ((if r = 0 then go else D k), st2) = Z := by
  rcases q with ⟨a, b, s⟩ | ⟨v, rs, a, q⟩
  · subst a
    refine ⟨[], s, wr_s h ?_⟩
    unfold wk1
    rw [if_neg (show ¬ (k : Int) < go by omega), if_pos (by omega), b]
    rfl
  · subst a
    have e : wk1 C D E k (go, v :: rs) = if (C k = 15 ∧ v ≠ 0) ∨ (C k = 14 ∧ v = 0) then some (D k, v :: rs) else some (go, rs) := by
      unfold wk1
      rw [if_neg (show ¬ (k : Int) < go by omega), if_pos (by omega)]
    rcases q with ⟨b, z, s⟩ | ⟨b, z, s⟩
    · rw [if_pos (by omega)] at e
      refine ⟨_, s, ?_⟩
      rw [if_neg (by omega)]
      exact wr_s h e
    · rw [if_neg (by omega)] at e
      refine ⟨_, s, ?_⟩
      rw [if_pos b]
      exact wr_s h e
theorem wr_w {M1 : Mm} {c d r : Int} (h : wkR C D E (n + 1) k (go, st) = Z) (hg : go ≤ k) (hc : c = C k) (hd : d = D k) (h1 : c ≠ 14) (h2 : c ≠ 15) (q : WKX E M1 c d st r) : (r = 1 → ∃ st2 : List Int, STK M1 st2 ∧ wkR C D E n (k + 1) (go, st2) = Z) ∧ (r = 0 → Z = none) := by
  have e := wk1_w (C := C) (D := D) (E := E) (st := st) hg (by omega) (by omega)
  rw [← hc, ← hd] at e
  rcases q with ⟨a, st2, b, s⟩ | ⟨a, b⟩
  · rw [b] at e
    exact ⟨fun _ => ⟨st2, s, wr_s h e⟩, fun z => by omega⟩
  · rw [b] at e
    exact ⟨fun z => by omega, fun _ => wr_n h e⟩
/-- what works gives -/
def WOX (E : Int → Int → Int) (f : Mng) (M1 : Mm) (r : Int) : Prop := (∀ v : Int, f E = some v → r = 1 ∧ M1 59 0 = v) ∧ (f E = none → r = 0)
theorem PSX.b {M1 : Mm} {a : Int} {st : List Int} {r : Int} (h : PSX M1 a st r) : r = 0 ∨ r = 1 := h.elim (fun q => Or.inr q.1) (fun q => Or.inl q.1)
theorem WKX.b {E : Int → Int → Int} {M1 : Mm} {c d : Int} {st : List Int} {r : Int} (h : WKX E M1 c d st r) : r = 0 ∨ r = 1 := h.elim (fun q => Or.inr q.1) (fun q => Or.inl q.1)
theorem ISX.b {M1 : Mm} {c : Int} {st : List Int} {r : Int} (h : ISX M1 c st r) : r = 0 ∨ r = 1 := by
  rcases h with q | ⟨v, rs, q, y | y⟩
  · exact Or.inl q.2.1
  · exact Or.inr y.1
  · exact Or.inl y.1
theorem WOX.b {E : Int → Int → Int} {f : Mng} {M1 : Mm} {r : Int} (h : WOX E f M1 r) : r = 0 ∨ r = 1 := by
  cases e : f E with
  | none => exact Or.inl (h.2 e)
  | some v => exact Or.inr (h.1 v e).1
theorem WOX.end_ {M1 : Mm} {s e : Nat} {l r : Int} {f : Mng} (mc : MC C D s e l f) (hl : l ≤ 50) (hE : EB E) (wr : some (go, st) = wkR C D E (e - s) s ((s : Int), [])) (k : STK M1 st) (h0 : 0 ≤ M1 53 2) (hr : (r = 1 ∧ M1 53 2 = 1) ∨ (r = 0 ∧ M1 53 2 ≠ 1)) : WOX E f M1 r := by
  obtain ⟨x1, x2⟩ := mc.2.2.2 E hE s [] (Int.le_refl _) (by show ((0 : Nat) : Int) + l ≤ 50; omega)
  refine ⟨fun v hv => ?_, fun hn => ?_⟩
  · obtain ⟨g, g1, g2⟩ := x1 v hv
    rw [← wr] at g2
    have e2 : st = [v] := (Prod.mk.inj (Option.some.inj g2)).2
    subst e2
    have l1 := k.len h0
    have h1 : M1 53 2 = 1 := by
      have : (([v] : List Int).length : Int) = 1 := rfl
      omega
    obtain ⟨rs, e3, -, -, -⟩ := k.top (by omega)
    have e4 := (List.cons.inj e3).1
    rw [h1] at e4
    exact ⟨by omega, e4.symm⟩
  · have g2 := x2 hn
    rw [← wr] at g2
    cases g2
theorem WOX.bad {M1 : Mm} {s e : Nat} {l r : Int} {f : Mng} (mc : MC C D s e l f) (hl : l ≤ 50) (hE : EB E) (wr : none = wkR C D E (e - s) s ((s : Int), [])) (hr : r = 0) : WOX E f M1 r := by
  obtain ⟨x1, x2⟩ := mc.2.2.2 E hE s [] (Int.le_refl _) (by show ((0 : Nat) : Int) + l ≤ 50; omega)
  refine ⟨fun v hv => ?_, fun _ => hr⟩
  obtain ⟨g, g1, g2⟩ := x1 v hv
  rw [← wr] at g2
  cases g2
end WRs
/-! what a text asks of the glasses -/
def evE (n d : Int) (m z : Nat → Int) : Int → Int → Int := fun o a => if o = 4 then d else if ¬ (0 ≤ a ∧ a ≤ 23 ∧ a % 6 < n) then 0 else if o = 1 then flm m (a % 6).toNat else if o = 2 then z (a % 6).toNat else tsM m (a % 6) (a / 6)
section EVs
variable {n d L : Int} {P F Z m z : Nat → Int}
theorem evE_b (h : PAP n P L F Z m z) (hd : 0 ≤ d ∧ d ≤ 1000) : EB (evE n d m z) := by
  intro o a
  unfold evE
  split
  · omega
  · split
    · omega
    · rename_i q
      have hn := h.1
      split
      · have := pi_f h.2.2.2.1 (g := (a % 6).toNat) (by omega)
        omega
      · split
        · have := h.2.2.2.2 (a % 6).toNat (by omega)
          omega
        · have := tsM_b (g := a % 6) (s := a / 6) h.2.2.2.1 (by omega) (by omega)
          omega
theorem evE_4 : evE n d m z 4 0 = d := if_pos rfl
theorem evE_full {g r : Int} (h : PAP n P L F Z m z) (hg : 0 ≤ g ∧ g ≤ 5) (q : szQ n F g r) : evE n d m z 1 g = r := by
  unfold evE
  rw [if_neg (by decide)]
  unfold szQ at q
  by_cases c : g < n
  · rw [if_neg (by omega), if_pos rfl, show g % 6 = g by omega, h.full (by omega)]
    omega
  · rw [if_pos (by omega)]
    omega
theorem evE_size {g r : Int} (h : PAP n P L F Z m z) (hg : 0 ≤ g ∧ g ≤ 5) (q : szQ n Z g r) : evE n d m z 2 g = r := by
  unfold evE
  rw [if_neg (by decide)]
  unfold szQ at q
  by_cases c : g < n
  · have e := h.2.2.2.2 g.toNat (by omega)
    rw [if_neg (by omega), if_neg (by decide), if_pos rfl, show g % 6 = g by omega]
    omega
  · rw [if_pos (by omega)]
    omega
theorem evE_taste {g s : Int} (h : PAP n P L F Z m z) (hg : 0 ≤ g ∧ g ≤ 5) (hs : 0 ≤ s ∧ s ≤ 3) : evE n d m z 3 (6 * s + g) = tsO n P L F g s := by
  unfold evE
  rw [if_neg (by decide)]
  by_cases c : g < n
  · rw [if_neg (by omega), if_neg (by decide), if_neg (by decide), show (6 * s + g) % 6 = g by omega, show (6 * s + g) / 6 = s by omega]
    exact (TE h.1 h.2.1 h.2.2.2.1 (by omega) (by omega)).symm
  · rw [if_pos (by omega), tsO_n (by omega)]
end EVs
/-! an evening, as a function of the glasses -/
def cOK (K W : Nat → Int) (i : Nat) (lv : Int) (E : Int → Int → Int) : Prop := cIf K W i lv → ∃ v : Int, cT K W i lv E = some v ∧ v ≠ 0
noncomputable def mvK (K W : Nat → Int) (i : Nat) (lv : Int) : Int := if cHd K W i = 1 then -1 else cTo K W i lv
noncomputable def mvV (n : Int) (z : Nat → Int) (K W : Nat → Int) (i : Nat) (lv : Int) (m : Nat → Int) (v : Int) : Int × (Nat → Int) :=
  if ¬ (1 ≤ v ∧ v ≤ 60) then (-3, m)
  else if cHd K W i = 2 then (if (0 ≤ cTo K W i lv ∧ cTo K W i lv < n) ∧ v ≤ z (cTo K W i lv).toNat - flm m (cTo K W i lv).toNat then (0, ms m (4 * cTo K W i lv + W (i + 1)).toNat (m (4 * cTo K W i lv + W (i + 1)).toNat + v * m 24)) else (-3, m))
  else if (0 ≤ cFr K W i lv ∧ cFr K W i lv < n) ∧ (cHd K W i = 1 ∨ (0 ≤ cTo K W i lv ∧ cTo K W i lv < n)) then (spR m z (cFr K W i lv) (mvK K W i lv) v, spM m z (cFr K W i lv) (mvK K W i lv) v)
  else (-3, m)
noncomputable def mvR (n : Int) (z : Nat → Int) (K W : Nat → Int) (i : Nat) (lv : Int) (m : Nat → Int) (d : Int) : Int × (Nat → Int) := match cF K W i lv (evE n d m z) with
  | none => (-3, m)
  | some v => mvV n z K W i lv m v
abbrev EvS : Type := Int × (Nat → Int) × Int
noncomputable def evS (n : Int) (z : Nat → Int) (K W : Nat → Int) (i : Nat) (lv : Int) (m : Nat → Int) (d : Int) : EvS := @ite _ (cOK K W i lv (evE n d m z)) (Classical.propDecidable _) (if (mvR n z K W i lv m d).1 < 0 then ((mvR n z K W i lv m d).1, m, d) else (0, (mvR n z K W i lv m d).2, d + 1)) (0, m, d)
noncomputable def evI (n : Int) (z : Nat → Int) (K W : Nat → Int) (i : Nat) (lv : Int) (s : EvS) : Nat → EvS
  | 0 => s
  | t + 1 => if (evI n z K W i lv s t).1 < 0 then evI n z K W i lv s t else evS n z K W i lv (evI n z K W i lv s t).2.1 (evI n z K W i lv s t).2.2
noncomputable def evC (n : Int) (z : Nat → Int) (K W : Nat → Int) (m : Nat → Int) : Nat → EvS
  | 0 => (0, m, 0)
  | k + 1 => if (evC n z K W m k).1 < 0 then evC n z K W m k else evI n z K W (clP K W k).1 (clP K W k).2 (evC n z K W m k) (cTm K W (clP K W k).1 (clP K W k).2).toNat
section EVf
variable {n d : Int} {z m m1 : Nat → Int} {K W : Nat → Int} {i : Nat} {lv : Int} {s s1 : EvS} {t k : Nat}
theorem evS_no (h : ¬ cOK K W i lv (evE n d m z)) : evS n z K W i lv m d = (0, m, d) := if_neg h
theorem evS_bad (h : cOK K W i lv (evE n d m z)) (r : (mvR n z K W i lv m d).1 < 0) : evS n z K W i lv m d = ((mvR n z K W i lv m d).1, m, d) := (if_pos h).trans (if_pos r)
theorem evS_ok (h : cOK K W i lv (evE n d m z)) (r : ¬ (mvR n z K W i lv m d).1 < 0) : evS n z K W i lv m d = (0, (mvR n z K W i lv m d).2, d + 1) := (if_pos h).trans (if_neg r)
theorem evI_s (h : evI n z K W i lv s t = (0, m, d)) : evI n z K W i lv s (t + 1) = evS n z K W i lv m d := by
  show (if (evI n z K W i lv s t).1 < 0 then _ else _) = _
  rw [h, if_neg (show ¬ (0 : Int) < 0 by omega)]
theorem evI_b (h : (evI n z K W i lv s t).1 < 0) : ∀ u : Nat, evI n z K W i lv s (t + u) = evI n z K W i lv s t
  | 0 => rfl
  | u + 1 => by
    have e := evI_b h u
    show (if (evI n z K W i lv s (t + u)).1 < 0 then _ else _) = _
    rw [e, if_pos h]
    exact e
theorem evI_e {u : Nat} (h : (evI n z K W i lv s t).1 < 0) (hu : t ≤ u) : evI n z K W i lv s u = evI n z K W i lv s t := by
  have e := evI_b h (u - t)
  rw [show t + (u - t) = u by omega] at e
  exact e
theorem evC_s (h : (evC n z K W m k).1 = 0) : evC n z K W m (k + 1) = evI n z K W (clP K W k).1 (clP K W k).2 (evC n z K W m k) (cTm K W (clP K W k).1 (clP K W k).2).toNat := by
  show (if (evC n z K W m k).1 < 0 then _ else _) = _
  rw [if_neg (by omega)]
theorem evC_b (h : (evC n z K W m k).1 < 0) : ∀ u : Nat, evC n z K W m (k + u) = evC n z K W m k
  | 0 => rfl
  | u + 1 => by
    have e := evC_b h u
    show (if (evC n z K W m (k + u)).1 < 0 then _ else _) = _
    rw [e, if_pos h]
    exact e
theorem evC_e {u : Nat} (h : (evC n z K W m k).1 < 0) (hu : k ≤ u) : evC n z K W m u = evC n z K W m k := by
  have e := evC_b h (u - k)
  rw [show k + (u - k) = u by omega] at e
  exact e
/-- what an evening of N clauses answers, which clause stopped it -/
def EVO (n : Int) (z : Nat → Int) (K W : Nat → Int) (m : Nat → Int) (N : Nat) (r st : Int) : Prop := (∃ c : Nat, c < N ∧ (evC n z K W m c).1 = 0 ∧ (evC n z K W m (c + 1)).1 < 0 ∧ r = (evC n z K W m (c + 1)).1 ∧ st = (c : Int)) ∨ ((evC n z K W m N).1 = 0 ∧ r = (evC n z K W m N).2.2 ∧ st = -1 ∧ 0 ≤ r)
theorem EVO.det {N : Nat} {r st r2 st2 : Int} (h : EVO n z K W m N r st) (g : EVO n z K W m N r2 st2) : r = r2 ∧ st = st2 := by
  rcases h with ⟨c, h1, h2, h3, h4, h5⟩ | ⟨a, b, c, d⟩ <;> rcases g with ⟨c', g1, g2, g3, g4, g5⟩ | ⟨a', b', c', d'⟩
  · have e : c = c' := by
      by_cases x : c < c'
      · have := evC_e h3 (show c + 1 ≤ c' by omega)
        rw [this] at g2
        omega
      · by_cases y : c' < c
        · have := evC_e g3 (show c' + 1 ≤ c by omega)
          rw [this] at h2
          omega
        · omega
    subst e
    exact ⟨by omega, by omega⟩
  · have := evC_e h3 (show c + 1 ≤ N by omega)
    rw [this] at a'
    omega
  · have := evC_e g3 (show c' + 1 ≤ N by omega)
    rw [this] at a
    omega
  · exact ⟨by omega, by omega⟩
end EVf
/-! numbers of the evening's machine -/
theorem mulBE {a b : Int} (ha : -1000001000 ≤ a ∧ a ≤ 1000001000) (hb : -1000001000 ≤ b ∧ b ≤ 1000001000) : -1000002000001000000 ≤ a * b ∧ a * b ≤ 1000002000001000000 := by
  have key : ∀ x y : Int, 0 ≤ x → x ≤ 1000001000 → 0 ≤ y → y ≤ 1000001000 → 0 ≤ x * y ∧ x * y ≤ 1000002000001000000 := fun x y h1 h2 h3 h4 => by
    have p := Int.mul_nonneg h1 h3
    have q := Int.mul_le_mul h2 h4 h3 (by omega)
    omega
  by_cases x : 0 ≤ a <;> by_cases y : 0 ≤ b
  · have := key a b x ha.2 y hb.2; omega
  · have := key a (-b) x ha.2 (by omega) (by omega)
    rw [Int.mul_neg] at this; omega
  · have := key (-a) b (by omega) (by omega) y hb.2
    rw [Int.neg_mul] at this; omega
  · have := key (-a) (-b) (by omega) (by omega) (by omega) (by omega)
    rw [Int.neg_mul_neg] at this; omega
theorem tdivBE {a b : Int} (ha : -1000001000 ≤ a ∧ a ≤ 1000001000) : -1000001000 ≤ a.tdiv b ∧ a.tdiv b ≤ 1000001000 := by
  have h := Int.natAbs_tdiv_le_natAbs a b
  omega
theorem okV_in {v : Int} (h : -1000000000 ≤ v ∧ v ≤ 1000000000) : okV v = some v := if_pos h
theorem okV_out {v : Int} (h : ¬ (-1000000000 ≤ v ∧ v ≤ 1000000000)) : okV v = none := if_neg h
/-! what a clause does -/
section MVs
variable {E : Int → Int → Int} {f : Mng} {M M1 : Mm} {r : Int} {n d L L1 g k w s : Int} {P P1 F F1 Z z m : Nat → Int} {K W : Nat → Int} {i c : Nat} {lv : Int}
theorem SOX.y (h : WOX E f M1 r) (hr : r = 1) (h0 : M1 59 0 ≠ 0) : ∃ v : Int, f E = some v ∧ v ≠ 0 := by
  cases e : f E with
  | none => have := h.2 e; omega
  | some v => exact ⟨v, rfl, by have := (h.1 v e).2; omega⟩
theorem SOX.nn (h : WOX E f M1 r) (h0 : r = 0 ∨ M1 59 0 = 0) : ¬ ∃ v : Int, f E = some v ∧ v ≠ 0 := by
  intro q
  obtain ⟨v, q1, q2⟩ := q
  have := h.1 v q1
  omega
theorem MVX.no (h : WOX (evE n d m z) (cF K W i lv) M1 r) (h0 : r = 0 ∨ M1 59 0 < 1 ∨ 60 < M1 59 0) : mvR n z K W i lv m d = (-3, m) := by
  unfold mvR
  cases e : cF K W i lv (evE n d m z) with
  | none => rfl
  | some v =>
    have q := h.1 v e
    show mvV n z K W i lv m v = _
    exact if_pos (by omega)
theorem MVX.yes (h : WOX (evE n d m z) (cF K W i lv) M1 r) (hr : r = 1) : mvR n z K W i lv m d = mvV n z K W i lv m (M1 59 0) := by
  unfold mvR
  cases e : cF K W i lv (evE n d m z) with
  | none => have := h.2 e; omega
  | some v =>
    have q := h.1 v e
    rw [q.2]
theorem cHd_v : cHd K W i = 0 ∨ cHd K W i = 1 ∨ cHd K W i = 2 := by
  unfold cHd
  split
  · exact Or.inl rfl
  · split
    · exact Or.inr (Or.inl rfl)
    · exact Or.inr (Or.inr rfl)
theorem MVX.sp (pap : PAP n P L F Z m z) (hz : ∀ j : Nat, j < 6 → z j ≤ 60) (hd : cHd K W i = 0) (hw : 1 ≤ w ∧ w ≤ 60) (hg : g = cFr K W i lv) (hk : k = cTo K W i lv) (cr : CARR (CANk n F Z g k w ∧ 0 ≤ k) n P L F g k w r P1 L1 F1) : r = (mvV n z K W i lv m w).1 ∧ PAP n P1 L1 F1 Z (mvV n z K W i lv m w).2 z := by
  subst hg; subst hk
  have ek : mvK K W i lv = cTo K W i lv := if_neg (by omega)
  have e : mvV n z K W i lv m w = if (0 ≤ cFr K W i lv ∧ cFr K W i lv < n) ∧ (cHd K W i = 1 ∨ (0 ≤ cTo K W i lv ∧ cTo K W i lv < n)) then (spR m z (cFr K W i lv) (mvK K W i lv) w, spM m z (cFr K W i lv) (mvK K W i lv) w) else (-3, m) := by
    unfold mvV
    rw [if_neg (by omega), if_neg (by omega)]
  rw [e, ek]
  by_cases q : (0 ≤ cFr K W i lv ∧ cFr K W i lv < n) ∧ (0 ≤ cTo K W i lv ∧ cTo K W i lv < n)
  · rw [if_pos ⟨q.1, Or.inr q.2⟩]
    have cr' := cr.can (c2 := CANk n F Z (cFr K W i lv) (cTo K W i lv) w) ⟨fun x => x.1, fun x => ⟨x, q.2.1⟩⟩
    exact pap.sp hz q.1 (Or.inr q.2) hw cr'
  · rw [if_neg (fun y => q ⟨y.1, y.2.resolve_left (by omega)⟩)]
    obtain ⟨x1, x2, x3, x4⟩ := cr.1 (fun y => q (by unfold CANk at y; omega))
    rw [x2, x3, x4]
    exact ⟨x1, pap⟩
theorem MVX.lk (pap : PAP n P L F Z m z) (hz : ∀ j : Nat, j < 6 → z j ≤ 60) (hd : cHd K W i = 1) (hw : 1 ≤ w ∧ w ≤ 60) (hg : g = cFr K W i lv) (cr : CARR (CANk n F Z g (-1) w) n P L F g (-1) w r P1 L1 F1) : r = (mvV n z K W i lv m w).1 ∧ PAP n P1 L1 F1 Z (mvV n z K W i lv m w).2 z := by
  subst hg
  have ek : mvK K W i lv = -1 := if_pos hd
  have e : mvV n z K W i lv m w = if (0 ≤ cFr K W i lv ∧ cFr K W i lv < n) ∧ (cHd K W i = 1 ∨ (0 ≤ cTo K W i lv ∧ cTo K W i lv < n)) then (spR m z (cFr K W i lv) (mvK K W i lv) w, spM m z (cFr K W i lv) (mvK K W i lv) w) else (-3, m) := by
    unfold mvV
    rw [if_neg (by omega), if_neg (by omega)]
  rw [e, ek]
  by_cases q : 0 ≤ cFr K W i lv ∧ cFr K W i lv < n
  · rw [if_pos ⟨q, Or.inl hd⟩]
    exact pap.sp hz q (Or.inl rfl) hw cr
  · rw [if_neg (fun y => q y.1)]
    obtain ⟨x1, x2, x3, x4⟩ := cr.1 (fun y => q (by unfold CANk at y; omega))
    rw [x2, x3, x4]
    exact ⟨x1, pap⟩
theorem MVX.fi (pap : PAP n P L F Z m z) (hd : cHd K W i = 2) (hw : 1 ≤ w ∧ w ≤ 60) (hg : g = cTo K W i lv) (hs : s = W (i + 1)) (hs3 : 0 ≤ s ∧ s ≤ 3) (po : POU n P L F Z g s w r P1 F1) : r = (mvV n z K W i lv m w).1 ∧ PAP n P1 L F1 Z (mvV n z K W i lv m w).2 z := by
  subst hg; subst hs
  have hn := pap.1
  have e : mvV n z K W i lv m w = if (0 ≤ cTo K W i lv ∧ cTo K W i lv < n) ∧ w ≤ z (cTo K W i lv).toNat - flm m (cTo K W i lv).toNat then (0, ms m (4 * cTo K W i lv + W (i + 1)).toNat (m (4 * cTo K W i lv + W (i + 1)).toNat + w * m 24)) else (-3, m) := by
    unfold mvV
    rw [if_neg (by omega), if_pos hd]
  rw [e]
  by_cases q : 0 ≤ cTo K W i lv ∧ cTo K W i lv < n
  · have fl := pap.full (i := (cTo K W i lv).toNat) (by omega)
    obtain ⟨ez, z0, z6⟩ := pap.2.2.2.2 (cTo K W i lv).toNat (by omega)
    by_cases y : w ≤ z (cTo K W i lv).toNat - flm m (cTo K W i lv).toNat
    · rw [if_pos ⟨q, y⟩]
      have pi := pap.2.2.2.1
      obtain ⟨f, hf, hsm⟩ := pi.2.2 (cTo K W i lv).toNat (by omega)
      have ef := flm_at (f := f) pi.1.1 (by unfold sm4; exact hsm.symm)
      have e4 : (4 * cTo K W i lv + W (i + 1)).toNat = 4 * (cTo K W i lv).toNat + (W (i + 1)).toNat := by omega
      have pi1 : PI (ms m (4 * cTo K W i lv + W (i + 1)).toNat (m (4 * cTo K W i lv + W (i + 1)).toNat + w * m 24)) := by
        refine PIw.fill (m := m) (g := (cTo K W i lv).toNat) (s := (W (i + 1)).toNat) (a := w) pi (by omega) (by omega) (by omega) f (by omega) hsm ?_ (fun j hj => ?_)
        · rw [e4, ms_at]
        · rw [ms_ne _ _ (by omega)]
      have fi : FIL m z (cTo K W i lv) (W (i + 1)) w 0 (ms m (4 * cTo K W i lv + W (i + 1)).toNat (m (4 * cTo K W i lv + W (i + 1)).toNat + w * m 24)) := ⟨fun _ => ⟨rfl, rfl⟩, fun x => absurd y x⟩
      exact pap.pour pi1 q hs3 hw po fi
    · rw [if_neg (fun x => y x.2)]
      obtain ⟨x1, x2, x3⟩ := po.1 (fun x => y (by omega))
      rw [x2, x3]
      exact ⟨x1, pap⟩
  · rw [if_neg (fun x => q x.1)]
    obtain ⟨x1, x2, x3⟩ := po.1 (fun x => q x.2.2.1)
    rw [x2, x3]
    exact ⟨x1, pap⟩
theorem CLC.fr (h : CLC K W i lv M c) (e9 : M1 39 = M 39) (e0 : M1 40 = M 40) (e7 : M1 37 4 = M 37 4) (ec : M1 c = M c) : CLC K W i lv M1 c := h.nx (CDS.eq e7 e9 e0) ec
end MVs
