/-! what is read and written down of an evening -/
def cn (P : Int → Bool) (f : Nat → Int) : Nat → Int
  | 0 => 0
  | n + 1 => cn P f n + if P (f n) then 1 else 0
def pe (x : Int) : Bool := decide (20 ≤ x ∧ x ≤ 27)
def pb (x : Int) : Bool := decide (20 ≤ x ∧ x ≤ 26)
theorem cn_nn (P : Int → Bool) (f : Nat → Int) : ∀ n, 0 ≤ cn P f n ∧ cn P f n ≤ n
  | 0 => by simp [cn]
  | n + 1 => by
    have := cn_nn P f n
    simp only [cn]
    split <;> omega
theorem cn_cg {P : Int → Bool} {f g : Nat → Int} : ∀ {n : Nat}, (∀ j, j < n → f j = g j) → cn P f n = cn P g n
  | 0, _ => rfl
  | n + 1, e => by
    simp only [cn]
    rw [e n (by omega), cn_cg (fun j hj => e j (by omega))]
theorem cn_s {P : Int → Bool} {f : Nat → Int} {n m : Nat} (e : m = n + 1) : (P (f n) = true → cn P f m = cn P f n + 1) ∧ (P (f n) = false → cn P f m = cn P f n) := by
  subst e
  refine ⟨fun h => ?_, fun h => ?_⟩ <;> simp [cn, h]
theorem pe_t {x : Int} (h : 20 ≤ x ∧ x ≤ 27) : pe x = true := by unfold pe; exact decide_eq_true h
theorem pe_f {x : Int} (h : ¬ (20 ≤ x ∧ x ≤ 27)) : pe x = false := by unfold pe; exact decide_eq_false h
theorem pb_t {x : Int} (h : 20 ≤ x ∧ x ≤ 26) : pb x = true := by unfold pb; exact decide_eq_true h
theorem pb_f {x : Int} (h : ¬ (20 ≤ x ∧ x ≤ 26)) : pb x = false := by unfold pb; exact decide_eq_false h
def AO (x : Int) : Prop := x = 28 ∨ x = 29
theorem ms_at (m : Nat → Int) (i : Nat) (x : Int) : ms m i x i = x := by simp [ms]
theorem ms_ne (m : Nat → Int) {i j : Nat} (x : Int) (h : j ≠ i) : ms m i x j = m j := by simp [ms, h]
def stOK (h op ar : Nat → Int) (N : Int) (k : Nat) : Prop :=
  (0 ≤ op k ∧ op k ≤ 4 ∧ h (k + 1) = h k + 1 ∧ (op k ≠ 0 → 0 ≤ ar k ∧ ar k ≤ 23)) ∨
  (20 ≤ op k ∧ op k ≤ 26 ∧ 2 ≤ h k ∧ h (k + 1) = h k - 1) ∨
  (op k = 27 ∧ 1 ≤ h k ∧ h (k + 1) = h k) ∨
  (AO (op k) ∧ 1 ≤ h k ∧ h (k + 1) = h k - 1 ∧ (k : Int) < ar k ∧ ar k ≤ N ∧ h (ar k).toNat = h k)
theorem stOK.ext {h op ar : Nat → Int} {nc v w t : Int} {k : Nat} (hs : stOK h op ar nc k) (hk : (k : Int) < nc) : stOK (fun i => if i = nc.toNat + 1 then t else h i) (ms op nc.toNat v) (ms ar nc.toNat w) (nc + 1) k := by
  have e1 : ms op nc.toNat v k = op k := ms_ne _ _ (by omega)
  have e2 : ms ar nc.toNat w k = ar k := ms_ne _ _ (by omega)
  have e3 : (if k = nc.toNat + 1 then t else h k) = h k := if_neg (by omega)
  have e4 : (if k + 1 = nc.toNat + 1 then t else h (k + 1)) = h (k + 1) := if_neg (by omega)
  unfold stOK
  rw [e1, e2]
  simp only [e3, e4]
  rcases hs with z | z | z | z
  · exact Or.inl z
  · exact Or.inr (Or.inl z)
  · exact Or.inr (Or.inr (Or.inl z))
  · refine Or.inr (Or.inr (Or.inr ⟨z.1, z.2.1, z.2.2.1, z.2.2.2.1, by have := z.2.2.2.2.1; omega, ?_⟩))
    rw [if_neg (by have := z.2.2.2.2.1; omega)]
    exact z.2.2.2.2.2
def SIv (pi pa : Nat → Int) (nc pl fr F0 : Int) : Prop := (0 ≤ F0 ∧ F0 ≤ nc) ∧ (0 ≤ pl ∧ pl ≤ fr) ∧ nc + cn pe pi pl.toNat ≤ fr ∧ fr ≤ 400 ∧ ∀ j : Nat, (j : Int) < pl → (20 ≤ pi j ∧ pi j ≤ 31) ∧ (AO (pi j) → F0 ≤ pa j ∧ pa j < nc)
def HIv (op ar pi pa : Nat → Int) (nc pl F0 q : Int) : Prop := ∃ h : Nat → Int, h F0.toNat = 0 ∧ h nc.toNat = cn pb pi pl.toNat + q ∧ (∀ k : Nat, F0 ≤ (k : Int) → (k : Int) < nc → stOK h op ar nc k ∨ ∃ j : Nat, (j : Int) < pl ∧ AO (pi j) ∧ pa j = k) ∧ (∀ j : Nat, (j : Int) < pl → AO (pi j) → AO (op (pa j).toNat) ∧ 1 ≤ h (pa j).toNat ∧ h ((pa j).toNat + 1) = h (pa j).toNat - 1 ∧ h (pa j).toNat = cn pb pi j + 1)
/-- one more is written: its height behind is t -/
theorem HIv.ext {op ar pi pa : Nat → Int} {nc pl pl' fr F0 q q' v w t : Int} (hs : SIv pi pa nc pl fr F0) (hh : HIv op ar pi pa nc pl F0 q) (hpl : 0 ≤ pl' ∧ pl' ≤ pl) (hpop : ∀ j : Nat, pl' ≤ (j : Int) → (j : Int) < pl → ¬ AO (pi j)) (ht : t = cn pb pi pl'.toNat + q')
    (hst : ∀ H : Int, H = cn pb pi pl.toNat + q → (0 ≤ v ∧ v ≤ 4 ∧ t = H + 1 ∧ (v ≠ 0 → 0 ≤ w ∧ w ≤ 23)) ∨ (20 ≤ v ∧ v ≤ 26 ∧ 2 ≤ H ∧ t = H - 1) ∨ (v = 27 ∧ 1 ≤ H ∧ t = H)) : HIv (ms op nc.toNat v) (ms ar nc.toNat w) pi pa (nc + 1) pl' F0 q' := by
  obtain ⟨h, a1, a2, a3, a4⟩ := hh
  obtain ⟨s1, s2, s3, s4, s5⟩ := hs
  refine ⟨fun i => if i = nc.toNat + 1 then t else h i, ?_, ?_, fun k hk1 hk2 => ?_, fun j hj hja => ?_⟩
  · simp only []; rw [if_neg (by omega)]; exact a1
  · simp only []; rw [if_pos (by omega)]; exact ht
  · by_cases hkn : (k : Int) < nc
    · rcases a3 k hk1 hkn with z | ⟨j, j1, j2, j3⟩
      · exact Or.inl (z.ext hkn)
      · refine Or.inr ⟨j, ?_, j2, j3⟩
        rcases Int.lt_or_le (j : Int) pl' with y | y
        · exact y
        · exact absurd j2 (hpop j y j1)
    · left
      have hkk : k = nc.toNat := by omega
      subst hkk
      unfold stOK
      simp only [ms_at]
      rw [if_pos trivial, if_neg (show ¬ nc.toNat = nc.toNat + 1 by omega)]
      rcases hst (h nc.toNat) a2 with z | z | z
      · exact Or.inl z
      · exact Or.inr (Or.inl z)
      · exact Or.inr (Or.inr (Or.inl z))
  · obtain ⟨b1, b2, b3, b4⟩ := a4 j (by omega) hja
    have hp := (s5 j (by omega)).2 hja
    simp only []
    rw [ms_ne _ _ (by omega), if_neg (by omega), if_neg (by omega)]
    exact ⟨b1, b2, b3, b4⟩
theorem HIv.patch {op ar pi pa : Nat → Int} {nc pl fr F0 : Int} {pl' : Int} (hs : SIv pi pa nc pl fr F0) (hh : HIv op ar pi pa nc pl F0 1) (hpl : 1 ≤ pl) (hp' : pl' = pl - 1) (hao : AO (pi pl'.toNat)) : HIv op (ms ar (pa pl'.toNat).toNat nc) pi pa nc pl' F0 1 := by
  obtain ⟨h, a1, a2, a3, a4⟩ := hh
  obtain ⟨s1, s2, s3, s4, s5⟩ := hs
  have hn : cn pb pi pl.toNat = cn pb pi pl'.toNat := (cn_s (by omega)).2 (pb_f (by unfold AO at hao; omega))
  obtain ⟨t1, t2, t3, t4⟩ := a4 pl'.toNat (by omega) hao
  have tp := (s5 pl'.toNat (by omega)).2 hao
  refine ⟨h, a1, by rw [a2, hn], fun k hk1 hk2 => ?_, fun j hj hja => a4 j (by omega) hja⟩
  by_cases hk : k = (pa pl'.toNat).toNat
  · left
    subst hk
    refine Or.inr (Or.inr (Or.inr ⟨t1, t2, t3, ?_, ?_, ?_⟩))
    · rw [ms_at]; exact hk2
    · rw [ms_at]; exact Int.le_refl _
    · rw [ms_at, a2, hn, t4]
  · rcases a3 k hk1 hk2 with z | ⟨j, j1, j2, j3⟩
    · left
      unfold stOK at z ⊢
      rw [ms_ne _ _ hk]; exact z
    · refine Or.inr ⟨j, ?_, j2, j3⟩
      rcases Int.lt_or_le (j : Int) pl' with y | y
      · exact y
      · have : j = pl'.toNat := by omega
        subst this
        omega
/-- a bracket is dropped -/
theorem HIv.drop {op ar pi pa : Nat → Int} {nc pl F0 q pl' : Int} (hh : HIv op ar pi pa nc pl F0 q) (hpl : 1 ≤ pl) (hp' : pl' = pl - 1) (hb : 30 ≤ pi pl'.toNat) : HIv op ar pi pa nc pl' F0 q := by
  obtain ⟨h, a1, a2, a3, a4⟩ := hh
  have hn : cn pb pi pl.toNat = cn pb pi pl'.toNat := (cn_s (by omega)).2 (pb_f (by omega))
  refine ⟨h, a1, by rw [a2, hn], fun k hk1 hk2 => ?_, fun j hj hja => a4 j (by omega) hja⟩
  rcases a3 k hk1 hk2 with z | ⟨j, j1, j2, j3⟩
  · exact Or.inl z
  · refine Or.inr ⟨j, ?_, j2, j3⟩
    rcases Int.lt_or_le (j : Int) pl' with y | y
    · exact y
    · have : j = pl'.toNat := by omega
      subst this
      unfold AO at j2; omega
/-- one that is no AND, no OR goes on the pile -/
theorem HIv.push {op ar pi pa : Nat → Int} {nc pl F0 q q' v w : Int} (hh : HIv op ar pi pa nc pl F0 q) (hpl : 0 ≤ pl) (hv : ((20 ≤ v ∧ v ≤ 26) ∧ q = q' + 1) ∨ ((v = 27 ∨ 30 ≤ v) ∧ q = q')) : HIv op ar (ms pi pl.toNat v) (ms pa pl.toNat w) nc (pl + 1) F0 q' := by
  obtain ⟨h, a1, a2, a3, a4⟩ := hh
  have ec : ∀ n : Nat, n ≤ pl.toNat → cn pb (ms pi pl.toNat v) n = cn pb pi n := fun n hn => cn_cg (fun j hj => ms_ne _ _ (by omega))
  have hn : cn pb (ms pi pl.toNat v) (pl + 1).toNat + q' = cn pb pi pl.toNat + q := by
    have e0 := cn_s (P := pb) (f := ms pi pl.toNat v) (n := pl.toNat) (m := (pl + 1).toNat) (by omega)
    rw [ms_at, ec _ (Nat.le_refl _)] at e0
    rcases hv with ⟨z, y⟩ | ⟨z, y⟩
    · rw [e0.1 (pb_t z)]; omega
    · rw [e0.2 (pb_f (by omega))]; omega
  have hnao : ¬ AO v := by unfold AO; omega
  refine ⟨h, a1, by rw [a2, hn], fun k hk1 hk2 => ?_, fun j hj hja => ?_⟩
  · rcases a3 k hk1 hk2 with z | ⟨j, j1, j2, j3⟩
    · exact Or.inl z
    · exact Or.inr ⟨j, by omega, by rw [ms_ne _ _ (by omega)]; exact j2, by rw [ms_ne _ _ (by omega)]; exact j3⟩
  · by_cases hz : j = pl.toNat
    · subst hz; rw [ms_at] at hja; exact absurd hja hnao
    · rw [ms_ne _ _ hz] at hja ⊢
      rw [ec j (by omega)]
      exact a4 j (by omega) hja
/-- AND, OR: on the pile and into the code -/
theorem HIv.ao {op ar pi pa : Nat → Int} {nc pl fr F0 v : Int} (hs : SIv pi pa nc pl fr F0) (hh : HIv op ar pi pa nc pl F0 1) (hv : AO v) : HIv (ms op nc.toNat v) (ms ar nc.toNat 0) (ms pi pl.toNat v) (ms pa pl.toNat nc) (nc + 1) (pl + 1) F0 0 := by
  obtain ⟨h, a1, a2, a3, a4⟩ := hh
  obtain ⟨s1, s2, s3, s4, s5⟩ := hs
  have ec : ∀ n : Nat, n ≤ pl.toNat → cn pb (ms pi pl.toNat v) n = cn pb pi n := fun n hn => cn_cg (fun j hj => ms_ne _ _ (by omega))
  have hn : cn pb (ms pi pl.toNat v) (pl + 1).toNat = cn pb pi pl.toNat := by
    have e0 := cn_s (P := pb) (f := ms pi pl.toNat v) (n := pl.toNat) (m := (pl + 1).toNat) (by omega)
    rw [ms_at, ec _ (Nat.le_refl _)] at e0
    exact e0.2 (pb_f (by unfold AO at hv; omega))
  have hc := (cn_nn pb pi pl.toNat).1
  refine ⟨fun i => if i = nc.toNat + 1 then cn pb pi pl.toNat else h i, ?_, ?_, fun k hk1 hk2 => ?_, fun j hj hja => ?_⟩
  · simp only []; rw [if_neg (by omega)]; exact a1
  · simp only []; rw [if_pos (by omega), hn]; omega
  · by_cases hkn : (k : Int) < nc
    · rcases a3 k hk1 hkn with z | ⟨j, j1, j2, j3⟩
      · exact Or.inl (z.ext hkn)
      · exact Or.inr ⟨j, by omega, by rw [ms_ne _ _ (by omega)]; exact j2, by rw [ms_ne _ _ (by omega)]; exact j3⟩
    · exact Or.inr ⟨pl.toNat, by omega, by rw [ms_at]; exact hv, by rw [ms_at]; omega⟩
  · by_cases hz : j = pl.toNat
    · subst hz
      simp only [ms_at]
      rw [if_neg (by omega), if_pos trivial, ec _ (Nat.le_refl _)]
      exact ⟨hv, by omega, by omega, by omega⟩
    · rw [ms_ne _ _ hz] at hja
      obtain ⟨b1, b2, b3, b4⟩ := a4 j (by omega) hja
      have hp := (s5 j (by omega)).2 hja
      simp only [ms_ne _ _ hz]
      rw [ms_ne _ _ (by omega), if_neg (by omega), if_neg (by omega), ec j (by omega)]
      exact ⟨b1, b2, b3, b4⟩
/-- what a leaf tells is written behind it -/
theorem HIv.arg {op ar pi pa : Nat → Int} {nc pl F0 q w : Int} {k0 : Nat} (hh : HIv op ar pi pa nc pl F0 q) (ho : 0 ≤ op k0 ∧ op k0 ≤ 4) (hw : 0 ≤ w ∧ w ≤ 23) : HIv op (ms ar k0 w) pi pa nc pl F0 q := by
  obtain ⟨h, a1, a2, a3, a4⟩ := hh
  refine ⟨h, a1, a2, fun k hk1 hk2 => ?_, a4⟩
  rcases a3 k hk1 hk2 with z | z
  · left
    by_cases hk : k = k0
    · subst hk
      unfold stOK AO at z ⊢
      rw [ms_at]
      rcases z with z | z | z | z
      · exact Or.inl ⟨z.1, z.2.1, z.2.2.1, fun _ => hw⟩
      · omega
      · omega
      · omega
    · unfold stOK at z ⊢
      rw [ms_ne _ _ hk]; exact z
  · exact Or.inr z
def RG (op ar : Nat → Int) (a b : Int) : Prop := (0 ≤ a ∧ a ≤ b ∧ b ≤ 400) ∧ ∃ h : Nat → Int, h a.toNat = 0 ∧ ∀ k : Nat, a ≤ (k : Int) → (k : Int) < b → stOK h op ar b k
theorem HIv.done {op ar pi pa : Nat → Int} {nc pl F0 q : Int} (hh : HIv op ar pi pa nc pl F0 q) (hF : 0 ≤ F0 ∧ F0 ≤ nc ∧ nc ≤ 400) (hpl : pl = 0) : RG op ar F0 nc := by
  obtain ⟨h, a1, a2, a3, a4⟩ := hh
  refine ⟨hF, h, a1, fun k hk1 hk2 => ?_⟩
  rcases a3 k hk1 hk2 with z | ⟨j, j1, _⟩
  · exact z
  · omega
theorem HIv.start (op ar pi pa : Nat → Int) (nc : Int) : HIv op ar pi pa nc 0 nc 0 := ⟨fun _ => 0, rfl, by simp [cn], fun k h1 h2 => by omega, fun j h1 => by omega⟩
theorem RG.cg {op ar op' ar' : Nat → Int} {a b : Int} (h : RG op ar a b) (e : ∀ k : Nat, (k : Int) < b → op' k = op k ∧ ar' k = ar k) : RG op' ar' a b := by
  obtain ⟨h0, h, h1, h2⟩ := h
  refine ⟨h0, h, h1, fun k hk1 hk2 => ?_⟩
  have := h2 k hk1 hk2
  unfold stOK at this ⊢
  rw [(e k hk2).1, (e k hk2).2]; exact this
theorem RG.nil (op ar : Nat → Int) {a : Int} (h : 0 ≤ a ∧ a ≤ 400) : RG op ar a a := ⟨by omega, fun _ => 0, rfl, fun k h1 h2 => by omega⟩
/-- heights along finished code -/
theorem stH {h op ar : Nat → Int} {a b : Int} (h0 : h a.toNat = 0) (ha : 0 ≤ a) (hs : ∀ k : Nat, a ≤ (k : Int) → (k : Int) < b → stOK h op ar b k) : ∀ (d : Nat), a + d ≤ b → 0 ≤ h (a.toNat + d) ∧ h (a.toNat + d) ≤ d
  | 0, _ => by simp [h0]
  | d + 1, hd => by
    have ih := stH h0 ha hs d (by omega)
    have z := hs (a.toNat + d) (by omega) (by omega)
    have e : a.toNat + (d + 1) = a.toNat + d + 1 := rfl
    rw [e]
    rcases z with z | z | z | z <;> omega
theorem stOK.ar {h op ar : Nat → Int} {a b k n v w : Int} (h0 : h a.toNat = 0) (ha : 0 ≤ a) (hs : ∀ k : Nat, a ≤ (k : Int) → (k : Int) < b → stOK h op ar b k) (hk : a ≤ k ∧ k < b) (hv : v = op k.toNat) (hw : w = ar k.toNat) (hn : n = h k.toNat) : (0 ≤ n ∧ n ≤ k - a) ∧ (v < 20 → h (k + 1).toNat = n + 1 ∧ 0 ≤ v ∧ v ≤ 4 ∧ (v ≠ 0 → 0 ≤ w ∧ w ≤ 23)) ∧ (20 ≤ v → v < 27 → 2 ≤ n ∧ h (k + 1).toNat = n - 1) ∧ (v = 27 → 1 ≤ n ∧ h (k + 1).toNat = n) ∧ (27 < v → 1 ≤ n ∧ h (k + 1).toNat = n - 1 ∧ k < w ∧ w ≤ b ∧ h w.toNat = n) := by
  have z := hs k.toNat (by omega) (by omega)
  have hH := stH h0 ha hs (k - a).toNat (by omega)
  rw [show a.toNat + (k - a).toNat = k.toNat by omega, ← hn] at hH
  rw [show (k + 1).toNat = k.toNat + 1 by omega]
  unfold stOK AO at z
  rw [← hv, ← hw, ← hn] at z
  refine ⟨by omega, ?_, ?_, ?_, ?_⟩
  · intro y
    rcases z with z | z | z | z
    · exact ⟨z.2.2.1, z.1, z.2.1, z.2.2.2⟩
    · omega
    · omega
    · omega
  · intro y y2
    rcases z with z | z | z | z <;> omega
  · intro y
    rcases z with z | z | z | z <;> omega
  · intro y
    rcases z with z | z | z | z
    · omega
    · omega
    · omega
    · exact ⟨z.2.1, z.2.2.1, by omega, z.2.2.2.2.1, z.2.2.2.2.2⟩
def bnd (x : Int) : Int := if 30 ≤ x then 0 else if x = 29 then 1 else if x = 28 then 2 else if x = 27 then 3 else if 24 ≤ x then 4 else if 22 ≤ x then 6 else 5
theorem SIv.ar {pi pa : Nat → Int} {nc pl fr F0 : Int} (h : SIv pi pa nc pl fr F0) : (0 ≤ F0 ∧ F0 ≤ nc) ∧ (0 ≤ pl ∧ pl ≤ fr) ∧ nc ≤ fr ∧ fr ≤ 400 := by
  have := (cn_nn pe pi pl.toNat).1
  obtain ⟨a, b, c, d, _⟩ := h
  omega
theorem SIv.mono {pi pa : Nat → Int} {nc pl fr F0 fr' : Int} (h : SIv pi pa nc pl fr F0) (h1 : fr ≤ fr') (h2 : fr' ≤ 400) : SIv pi pa nc pl fr' F0 := by
  obtain ⟨a, b, c, d, e⟩ := h
  exact ⟨a, by omega, by omega, h2, e⟩
/-- one is taken off the pile and written -/
theorem SIv.pop {pi pa : Nat → Int} {nc pl fr F0 pl' nc' : Int} (h : SIv pi pa nc pl fr F0) (hp : 1 ≤ pl) (hp' : pl' = pl - 1) (hn : (nc' = nc + 1 ∧ 20 ≤ pi pl'.toNat ∧ pi pl'.toNat ≤ 27) ∨ nc' = nc) : SIv pi pa nc' pl' fr F0 := by
  obtain ⟨a, b, c, d, e⟩ := h
  have e0 := cn_s (P := pe) (f := pi) (n := pl'.toNat) (m := pl.toNat) (by omega)
  have hc : nc' + cn pe pi pl'.toNat ≤ fr := by
    rcases hn with ⟨z, y⟩ | z
    · rw [e0.1 (pe_t y)] at c; omega
    · by_cases y : 20 ≤ pi pl'.toNat ∧ pi pl'.toNat ≤ 27
      · rw [e0.1 (pe_t y)] at c; omega
      · rw [e0.2 (pe_f y)] at c; omega
  exact ⟨by omega, by omega, hc, d, fun j hj => ⟨(e j (by omega)).1, fun z => by have := (e j (by omega)).2 z; omega⟩⟩
/-- a leaf is written -/
theorem SIv.emit {pi pa : Nat → Int} {nc pl fr F0 fr' nc' : Int} (h : SIv pi pa nc pl fr F0) (h1 : fr < fr') (h2 : fr' ≤ 400) (hn : nc' = nc + 1) : SIv pi pa nc' pl fr' F0 := by
  obtain ⟨a, b, c, d, e⟩ := h
  exact ⟨by omega, by omega, by omega, h2, fun j hj => ⟨(e j hj).1, fun z => by have := (e j hj).2 z; omega⟩⟩
/-- one goes on the pile, a token further on -/
theorem SIv.push {pi pa : Nat → Int} {nc pl fr F0 fr' v w : Int} (h : SIv pi pa nc pl fr F0) (h1 : fr < fr') (h2 : fr' ≤ 400) (hv : 20 ≤ v ∧ v ≤ 31) (ha : ¬ AO v) : SIv (ms pi pl.toNat v) (ms pa pl.toNat w) nc (pl + 1) fr' F0 := by
  obtain ⟨a, b, c, d, e⟩ := h
  have ec : cn pe (ms pi pl.toNat v) pl.toNat = cn pe pi pl.toNat := cn_cg (fun j hj => ms_ne _ _ (by omega))
  have e0 := cn_s (P := pe) (f := ms pi pl.toNat v) (n := pl.toNat) (m := (pl + 1).toNat) (by omega)
  rw [ms_at, ec] at e0
  have hc : cn pe (ms pi pl.toNat v) (pl + 1).toNat ≤ cn pe pi pl.toNat + 1 := by
    cases hp : pe v
    · rw [e0.2 hp]; omega
    · rw [e0.1 hp]; omega
  refine ⟨a, by omega, by omega, h2, fun j hj => ?_⟩
  by_cases hz : j = pl.toNat
  · subst hz; rw [ms_at, ms_at]; exact ⟨hv, fun z => absurd z ha⟩
  · rw [ms_ne _ _ hz, ms_ne _ _ hz]; exact e j (by omega)
theorem SIv.ao {pi pa : Nat → Int} {nc pl fr F0 fr' v : Int} (h : SIv pi pa nc pl fr F0) (h1 : fr < fr') (h2 : fr' ≤ 400) (hv : AO v) : SIv (ms pi pl.toNat v) (ms pa pl.toNat nc) (nc + 1) (pl + 1) fr' F0 := by
  obtain ⟨a, b, c, d, e⟩ := h
  have ec : cn pe (ms pi pl.toNat v) pl.toNat = cn pe pi pl.toNat := cn_cg (fun j hj => ms_ne _ _ (by omega))
  have e0 := cn_s (P := pe) (f := ms pi pl.toNat v) (n := pl.toNat) (m := (pl + 1).toNat) (by omega)
  rw [ms_at, ec] at e0
  have hc := e0.2 (pe_f (by unfold AO at hv; omega))
  refine ⟨by omega, by omega, by omega, h2, fun j hj => ?_⟩
  by_cases hz : j = pl.toNat
  · subst hz; rw [ms_at, ms_at]; exact ⟨by unfold AO at hv; omega, fun z => by omega⟩
  · rw [ms_ne _ _ hz, ms_ne _ _ hz]; exact ⟨(e j (by omega)).1, fun z => by have := (e j (by omega)).2 z; omega⟩
def SI (M : Mm) (F0 : Int) : Prop := SIv (M 110) (M 111) (M 97 21) (M 97 27) (M 97 13) F0
def HI (M : Mm) (F0 q : Int) : Prop := HIv (M 108) (M 109) (M 110) (M 111) (M 97 21) (M 97 27) F0 q
theorem SI.ar {M : Mm} {F0 : Int} (h : SI M F0) : (0 ≤ F0 ∧ F0 ≤ M 97 21) ∧ (0 ≤ M 97 27 ∧ M 97 27 ≤ M 97 13) ∧ M 97 21 ≤ M 97 13 ∧ M 97 13 ≤ 400 := SIv.ar h
/-- only tokens went on -/
theorem SI.nx {M M1 : Mm} {F0 : Int} (h : SI M F0) (e0 : M1 110 = M 110) (e1 : M1 111 = M 111) (e21 : M1 97 21 = M 97 21) (e27 : M1 97 27 = M 97 27) (h1 : M 97 13 ≤ M1 97 13) (h2 : M1 97 13 ≤ 400) : SI M1 F0 := by
  unfold SI at *; rw [e0, e1, e21, e27]; exact h.mono h1 h2
theorem HI.nx {M M1 : Mm} {F0 q : Int} (h : HI M F0 q) (e8 : M1 108 = M 108) (e9 : M1 109 = M 109) (e0 : M1 110 = M 110) (e1 : M1 111 = M 111) (e21 : M1 97 21 = M 97 21) (e27 : M1 97 27 = M 97 27) : HI M1 F0 q := by
  unfold HI at *; rw [e8, e9, e0, e1, e21, e27]; exact h
def LO (M M1 : Mm) (F0 : Int) : Prop := ∀ k : Nat, (k : Int) < F0 → M1 108 k = M 108 k ∧ M1 109 k = M 109 k
theorem LO.rf (M : Mm) (F0 : Int) : LO M M F0 := fun _ _ => ⟨rfl, rfl⟩
theorem LO.tr {M M1 M2 : Mm} {F0 : Int} (a : LO M M1 F0) (b : LO M1 M2 F0) : LO M M2 F0 := fun k hk => ⟨((b k hk).1).trans (a k hk).1, ((b k hk).2).trans (a k hk).2⟩
theorem LO.eq {M M1 : Mm} {F0 : Int} (e8 : M1 108 = M 108) (e9 : M1 109 = M 109) : LO M M1 F0 := fun k _ => ⟨by rw [e8], by rw [e9]⟩
theorem LO.em {M M1 : Mm} {F0 nc v w : Int} (e8 : M1 108 = ms (M 108) nc.toNat v) (e9 : M1 109 = ms (M 109) nc.toNat w) (h : F0 ≤ nc) (h0 : 0 ≤ F0) : LO M M1 F0 := fun k hk => ⟨by rw [e8, ms_ne _ _ (by omega)], by rw [e9, ms_ne _ _ (by omega)]⟩
theorem LO.ar {M M1 : Mm} {F0 w : Int} {i : Nat} (e8 : M1 108 = M 108) (e9 : M1 109 = ms (M 109) i w) (h : F0 ≤ (i : Int)) : LO M M1 F0 := fun k hk => ⟨by rw [e8], by rw [e9, ms_ne _ _ (by omega)]⟩
def SQ (M : Mm) (t : Int) : Prop := (∀ j j' : Nat, j < j' → (j' : Int) < M 97 27 → M 110 j = 31 → (20 ≤ M 110 j' ∧ M 110 j' ≤ 23) ∨ M 110 j' = 31) ∧ ((t = 0 ∨ t = 2) → ∀ j : Nat, (j : Int) < M 97 27 → M 110 j ≠ 31) ∧ (t = 4 → ∀ j : Nat, (j : Int) < M 97 27 → M 110 j < 30)
theorem SQ.nx {M M1 : Mm} {t t' : Int} (h : SQ M t) (e0 : M1 110 = M 110) (e27 : M1 97 27 ≤ M 97 27) (ht : ((t' = 0 ∨ t' = 2) → (t = 0 ∨ t = 2)) ∧ (t' = 4 → t = 4)) : SQ M1 t' := by
  obtain ⟨a, b, c⟩ := h
  refine ⟨fun j j' h1 h2 => ?_, fun z j hj => ?_, fun z j hj => ?_⟩
  · rw [e0]; exact a j j' h1 (by omega)
  · rw [e0]; exact b (ht.1 z) j (by omega)
  · rw [e0]; exact c (ht.2 z) j (by omega)
theorem SQ.push {M M1 : Mm} {t t' v : Int} (h : SQ M t) (e0 : M1 110 = ms (M 110) (M 97 27).toNat v) (e27 : M1 97 27 = M 97 27 + 1) (h0 : 0 ≤ M 97 27) (hv : (20 ≤ v ∧ v ≤ 23) ∨ v = 31 ∨ ((t = 0 ∨ t = 2) ∧ v ≠ 31)) (ht : ((t' = 0 ∨ t' = 2) → (t = 0 ∨ t = 2) ∧ v ≠ 31) ∧ t' ≠ 4) : SQ M1 t' := by
  obtain ⟨a, b, c⟩ := h
  refine ⟨fun j j' h1 h2 => ?_, fun z j hj => ?_, fun z => absurd z ht.2⟩
  · rw [e0, ms_ne _ _ (show j ≠ (M 97 27).toNat by omega)]
    by_cases hz : j' = (M 97 27).toNat
    · rw [hz, ms_at]
      intro y
      rcases hv with x | x | x
      · exact Or.inl x
      · exact Or.inr x
      · exact absurd y (b x.1 j (by omega))
    · rw [ms_ne _ _ hz]; exact a j j' h1 (by omega)
  · rw [e0]
    by_cases hz : j = (M 97 27).toNat
    · rw [hz, ms_at]; exact (ht.1 z).2
    · rw [ms_ne _ _ hz]; exact b (ht.1 z).1 j (by omega)
/-- what inner answers -/
def INNp (M : Mm) (r k : Int) : Prop := (r = -1 ∧ ∀ j : Nat, (j : Int) < k → M 110 j < 30) ∨ (30 ≤ r ∧ ∃ j : Nat, (j : Int) < k ∧ M 110 j = r ∧ ∀ j' : Nat, j < j' → (j' : Int) < k → M 110 j' < 30)
def INN (M : Mm) (r : Int) : Prop := INNp M r (M 97 27)
theorem INNp.zero (M : Mm) : INNp M (-1) 0 := Or.inl ⟨rfl, fun j hj => by omega⟩
theorem INNp.new {M : Mm} {k v : Int} (hv : v = M 110 k.toNat) (h : 30 ≤ v) (hk : 0 ≤ k) : INNp M v (k + 1) := Or.inr ⟨h, k.toNat, by omega, hv.symm, fun j' h1 h2 => by omega⟩
theorem INNp.old {M : Mm} {r k v : Int} (hi : INNp M r k) (hv : v = M 110 k.toNat) (h : v < 30) (hk : 0 ≤ k) : INNp M r (k + 1) := by
  rcases hi with ⟨a, b⟩ | ⟨a, j, b1, b2, b3⟩
  · refine Or.inl ⟨a, fun j hj => ?_⟩
    by_cases hz : j = k.toNat
    · rw [hz, ← hv]; exact h
    · exact b j (by omega)
  · refine Or.inr ⟨a, j, by omega, b2, fun j' h1 h2 => ?_⟩
    by_cases hz : j' = k.toNat
    · rw [hz, ← hv]; exact h
    · exact b3 j' h1 (by omega)
theorem SQ.inn {M : Mm} {t t' r : Int} (h : SQ M t) (hi : INN M r) (hr : r ≠ 31) (ht : t' ≠ 4 ∨ r = -1) : SQ M t' := by
  obtain ⟨a, b, c⟩ := h
  have nsq : ∀ j : Nat, (j : Int) < M 97 27 → M 110 j ≠ 31 := by
    intro j hj hz
    rcases hi with ⟨_, y⟩ | ⟨y0, i, y1, y2, y3⟩
    · have := y j hj; omega
    · rcases Nat.lt_trichotomy i j with x | x | x
      · have := y3 j x hj; omega
      · subst x; omega
      · have := a j i x y1 hz; omega
  refine ⟨a, fun _ => nsq, fun z => ?_⟩
  rcases hi with ⟨_, y⟩ | ⟨y0, i, y1, y2, y3⟩
  · exact y
  · omega
/-- settle: what was popped, where it stopped -/
def STP (M M1 : Mm) (l : Int) : Prop := (0 ≤ M1 97 27 ∧ M1 97 27 ≤ M 97 27) ∧ (∀ j : Nat, M1 97 27 ≤ (j : Int) → (j : Int) < M 97 27 → l ≤ bnd (M 110 j)) ∧ (M1 97 27 = 0 ∨ bnd (M 110 (M1 97 27 - 1).toNat) < l)
theorem bnd_lo {x l : Int} (h : l ≤ bnd x) (hl : 1 ≤ l) : x < 30 := by
  unfold bnd at h; split at h <;> omega
theorem bnd_hi {x : Int} (h : 20 ≤ x ∧ x ≤ 23) : 5 ≤ bnd x := by
  unfold bnd; repeat' split
  all_goals omega
theorem bnd_0 {x : Int} (h : bnd x < 1) : 30 ≤ x := by
  unfold bnd at h; repeat' split at h
  all_goals omega
theorem STP.sq {M M1 : Mm} {t : Int} (h : STP M M1 5) (hq : SQ M t) (hi : INN M 31) : 1 ≤ M1 97 27 ∧ M 110 (M1 97 27 - 1).toNat = 31 := by
  obtain ⟨a, b, c⟩ := h
  rcases hi with ⟨y, _⟩ | ⟨y0, i, y1, y2, y3⟩
  · omega
  · have hiP : (i : Int) < M1 97 27 := by
      rcases Int.lt_or_le (i : Int) (M1 97 27) with x | x
      · exact x
      · have := bnd_lo (b i x y1) (by omega); omega
    refine ⟨by omega, ?_⟩
    by_cases hz : (M1 97 27 - 1).toNat = i
    · rw [hz]; exact y2
    · rcases hq.1 i (M1 97 27 - 1).toNat (by omega) (by omega) y2 with x | x
      · have := bnd_hi x; omega
      · exact x
theorem STP.rd {M M1 : Mm} {r : Int} (h : STP M M1 1) (hi : INN M r) (hr : r ≠ -1) : 1 ≤ M1 97 27 ∧ 30 ≤ M 110 (M1 97 27 - 1).toNat := by
  obtain ⟨a, b, c⟩ := h
  rcases hi with ⟨y, _⟩ | ⟨y0, i, y1, y2, y3⟩
  · omega
  · have hiP : (i : Int) < M1 97 27 := by
      rcases Int.lt_or_le (i : Int) (M1 97 27) with x | x
      · exact x
      · have := bnd_lo (b i x y1) (by omega); omega
    refine ⟨by omega, ?_⟩
    rcases c with x | x
    · omega
    · exact bnd_0 x
theorem STP.z {M M1 : Mm} (h : STP M M1 1) (hq : SQ M 4) : M1 97 27 = 0 := by
  obtain ⟨a, b, c⟩ := h
  rcases c with x | x
  · exact x
  · by_cases hz : M1 97 27 = 0
    · exact hz
    · have := hq.2.2 rfl (M1 97 27 - 1).toNat (by omega)
      have := bnd_0 x; omega
def HT (M M1 : Mm) (F0 : Int) : Prop := HI M F0 1 → HI M1 F0 1
def STQ (M M1 : Mm) (l : Int) : Prop := (0 ≤ M1 97 27 ∧ M1 97 27 ≤ M 97 27) ∧ ∀ j : Nat, M1 97 27 ≤ (j : Int) → (j : Int) < M 97 27 → l ≤ bnd (M 110 j)
theorem STQ.rf {M : Mm} (l : Int) (h : 0 ≤ M 97 27) : STQ M M l := ⟨by omega, fun j h1 h2 => by omega⟩
theorem STQ.step {M M1 M2 : Mm} {l : Int} (h : STQ M M1 l) (e : M2 97 27 = M1 97 27 - 1) (h1 : 1 ≤ M1 97 27) (hb : l ≤ bnd (M 110 (M1 97 27 - 1).toNat)) : STQ M M2 l := by
  refine ⟨by have := h.1; omega, fun j h2 h3 => ?_⟩
  by_cases hz : j = (M1 97 27 - 1).toNat
  · rw [hz]; exact hb
  · exact h.2 j (by omega) h3
theorem STQ.fin {M M1 : Mm} {l : Int} (h : STQ M M1 l) (hz : M1 97 27 = 0 ∨ bnd (M 110 (M1 97 27 - 1).toNat) < l) : STP M M1 l := ⟨h.1, h.2, hz⟩
theorem SI.pile {M : Mm} {F0 i v : Int} (h : SI M F0) (h0 : 0 ≤ i) (h1 : i < M 97 27) (e : v = M 110 i.toNat) : 20 ≤ v ∧ v ≤ 31 := by rw [e]; exact (h.2.2.2.2 i.toNat (by omega)).1
theorem SI.at_ {M : Mm} {F0 i v w : Int} (h : SI M F0) (h0 : 0 ≤ i) (h1 : i < M 97 27) (e : v = M 110 i.toNat) (ha : v = 28 ∨ v = 29) (e2 : w = M 111 i.toNat) : F0 ≤ w ∧ w < M 97 21 := by rw [e2]; exact (h.2.2.2.2 i.toNat (by omega)).2 (by unfold AO; omega)
theorem SI.pop {M M1 : Mm} {F0 : Int} (h : SI M F0) (hp : 1 ≤ M 97 27) (e27 : M1 97 27 = M 97 27 - 1) (e0 : M1 110 = M 110) (e1 : M1 111 = M 111) (e13 : M1 97 13 = M 97 13) (hn : (M1 97 21 = M 97 21 + 1 ∧ 20 ≤ M 110 (M 97 27 - 1).toNat ∧ M 110 (M 97 27 - 1).toNat ≤ 27) ∨ M1 97 21 = M 97 21) : SI M1 F0 := by
  unfold SI at *; rw [e0, e1, e13]; exact SIv.pop h hp e27 (by rw [e27]; exact hn)
theorem HI.patch {M M1 : Mm} {F0 w n : Int} {v : Int} (hs : SI M F0) (hh : HI M F0 1) (h1 : 1 ≤ M 97 27) (e27 : M1 97 27 = M 97 27 - 1) (hv : v = M 110 (M 97 27 - 1).toNat) (hao : v = 28 ∨ v = 29) (e8 : M1 108 = M 108) (hw : w = M 111 (M 97 27 - 1).toNat) (hn : n = M 97 21) (e9 : M1 109 = ms (M 109) w.toNat n) (e0 : M1 110 = M 110) (e1 : M1 111 = M 111) (e21 : M1 97 21 = M 97 21) : HI M1 F0 1 := by
  unfold HI at *; rw [e8, e9, e0, e1, e21, hw, hn, ← e27]
  exact HIv.patch hs hh h1 e27 (by rw [e27, ← hv]; exact hao)
theorem HI.pop {M M1 : Mm} {F0 v : Int} (hs : SI M F0) (hh : HI M F0 1) (h1 : 1 ≤ M 97 27) (e27 : M1 97 27 = M 97 27 - 1) (hv : v = M 110 (M 97 27 - 1).toNat) (hv2 : 20 ≤ v ∧ v ≤ 27) (e8 : M1 108 = ms (M 108) (M 97 21).toNat v) (e9 : M1 109 = ms (M 109) (M 97 21).toNat 0) (e0 : M1 110 = M 110) (e1 : M1 111 = M 111) (e21 : M1 97 21 = M 97 21 + 1) : HI M1 F0 1 := by
  unfold HI at *; rw [e8, e9, e0, e1, e21]
  have hc := (cn_nn pb (M 110) (M1 97 27).toNat).1
  have e := cn_s (P := pb) (f := M 110) (n := (M1 97 27).toNat) (m := (M 97 27).toNat) (by omega)
  rw [show M 110 (M1 97 27).toNat = v by rw [e27]; exact hv.symm] at e
  refine HIv.ext (t := cn pb (M 110) (M1 97 27).toNat + 1) hs hh (by omega) (fun j j1 j2 => ?_) rfl (fun H hH => ?_)
  · rw [show j = (M 97 27 - 1).toNat by omega, ← hv]; unfold AO; omega
  · by_cases hz : v = 27
    · rw [e.2 (pb_f (by omega))] at hH
      exact Or.inr (Or.inr ⟨hz, by omega, by omega⟩)
    · rw [e.1 (pb_t (by omega))] at hH
      exact Or.inr (Or.inl ⟨hv2.1, by omega, by omega, by omega⟩)
theorem HI.leaf {M M1 : Mm} {F0 v w : Int} (hs : SI M F0) (hh : HI M F0 0) (hv : 0 ≤ v ∧ v ≤ 4) (hw : v ≠ 0 → 0 ≤ w ∧ w ≤ 23) (e8 : M1 108 = ms (M 108) (M 97 21).toNat v) (e9 : M1 109 = ms (M 109) (M 97 21).toNat w) (e0 : M1 110 = M 110) (e1 : M1 111 = M 111) (e21 : M1 97 21 = M 97 21 + 1) (e27 : M1 97 27 = M 97 27) : HI M1 F0 1 := by
  unfold HI at *; rw [e8, e9, e0, e1, e21, e27]
  have ha := hs.ar
  exact HIv.ext (t := cn pb (M 110) (M 97 27).toNat + 1) hs hh (by omega) (fun j j1 j2 => by omega) rfl (fun H hH => Or.inl ⟨hv.1, hv.2, by omega, hw⟩)
theorem HI.push {M M1 : Mm} {F0 q q' v w : Int} (hs : SI M F0) (hh : HI M F0 q) (hv : ((20 ≤ v ∧ v ≤ 26) ∧ q = q' + 1) ∨ ((v = 27 ∨ 30 ≤ v) ∧ q = q')) (e8 : M1 108 = M 108) (e9 : M1 109 = M 109) (e0 : M1 110 = ms (M 110) (M 97 27).toNat v) (e1 : M1 111 = ms (M 111) (M 97 27).toNat w) (e21 : M1 97 21 = M 97 21) (e27 : M1 97 27 = M 97 27 + 1) : HI M1 F0 q' := by
  unfold HI at *; rw [e8, e9, e0, e1, e21, e27]
  exact HIv.push hh (hs.ar).2.1.1 hv
theorem SI.push {M M1 : Mm} {F0 v w : Int} (hs : SI M F0) (hv : 20 ≤ v ∧ v ≤ 31) (ha : v ≠ 28 ∧ v ≠ 29) (e0 : M1 110 = ms (M 110) (M 97 27).toNat v) (e1 : M1 111 = ms (M 111) (M 97 27).toNat w) (e21 : M1 97 21 = M 97 21) (e27 : M1 97 27 = M 97 27 + 1) (h1 : M 97 13 < M1 97 13) (h2 : M1 97 13 ≤ 400) : SI M1 F0 := by
  unfold SI at *; rw [e0, e1, e21, e27]
  exact SIv.push hs h1 h2 hv (by unfold AO; omega)
theorem SI.leaf {M M1 : Mm} {F0 : Int} (hs : SI M F0) (e0 : M1 110 = M 110) (e1 : M1 111 = M 111) (e21 : M1 97 21 = M 97 21 + 1) (e27 : M1 97 27 = M 97 27) (h1 : M 97 13 < M1 97 13) (h2 : M1 97 13 ≤ 400) : SI M1 F0 := by
  unfold SI at *; rw [e0, e1, e27]
  exact SIv.emit hs h1 h2 e21
theorem HI.ao {M M1 : Mm} {F0 v : Int} (hs : SI M F0) (hh : HI M F0 1) (hv : v = 28 ∨ v = 29) (e8 : M1 108 = ms (M 108) (M 97 21).toNat v) (e9 : M1 109 = ms (M 109) (M 97 21).toNat 0) (e0 : M1 110 = ms (M 110) (M 97 27).toNat v) (e1 : M1 111 = ms (M 111) (M 97 27).toNat (M 97 21)) (e21 : M1 97 21 = M 97 21 + 1) (e27 : M1 97 27 = M 97 27 + 1) : HI M1 F0 0 := by
  unfold HI at *; rw [e8, e9, e0, e1, e21, e27]
  exact HIv.ao hs hh hv
theorem SI.ao {M M1 : Mm} {F0 v : Int} (hs : SI M F0) (hv : v = 28 ∨ v = 29) (e0 : M1 110 = ms (M 110) (M 97 27).toNat v) (e1 : M1 111 = ms (M 111) (M 97 27).toNat (M 97 21)) (e21 : M1 97 21 = M 97 21 + 1) (e27 : M1 97 27 = M 97 27 + 1) (h1 : M 97 13 < M1 97 13) (h2 : M1 97 13 ≤ 400) : SI M1 F0 := by
  unfold SI at *; rw [e0, e1, e21, e27]
  exact SIv.ao hs h1 h2 hv
theorem SI.drop {M M1 : Mm} {F0 : Int} (h : SI M F0) (hp : 1 ≤ M 97 27) (e27 : M1 97 27 = M 97 27 - 1) (e0 : M1 110 = M 110) (e1 : M1 111 = M 111) (e13 : M1 97 13 = M 97 13) (e21 : M1 97 21 = M 97 21) : SI M1 F0 := h.pop hp e27 e0 e1 e13 (Or.inr e21)
theorem HI.drop {M M1 : Mm} {F0 q : Int} (hh : HI M F0 q) (hp : 1 ≤ M 97 27) (hb : 30 ≤ M 110 (M 97 27 - 1).toNat) (e8 : M1 108 = M 108) (e9 : M1 109 = M 109) (e0 : M1 110 = M 110) (e1 : M1 111 = M 111) (e21 : M1 97 21 = M 97 21) (e27 : M1 97 27 = M 97 27 - 1) : HI M1 F0 q := by
  unfold HI at *; rw [e8, e9, e0, e1, e21]
  exact HIv.drop hh hp e27 (by rw [e27]; exact hb)
theorem HI.arg {M M1 : Mm} {F0 q w : Int} {k0 : Nat} (hh : HI M F0 q) (ho : 0 ≤ M 108 k0 ∧ M 108 k0 ≤ 4) (hw : 0 ≤ w ∧ w ≤ 23) (e8 : M1 108 = M 108) (e9 : M1 109 = ms (M 109) k0 w) (e0 : M1 110 = M 110) (e1 : M1 111 = M 111) (e21 : M1 97 21 = M 97 21) (e27 : M1 97 27 = M 97 27) : HI M1 F0 q := by
  unfold HI at *; rw [e8, e9, e0, e1, e21, e27]
  exact HIv.arg hh ho hw
theorem bndE {a r : Int} (h : (30 ≤ a → r = 0) ∧ (a = 29 → r = 1) ∧ (a = 28 → r = 2) ∧ (a = 27 → r = 3) ∧ (24 ≤ a → a ≤ 26 → r = 4) ∧ (22 ≤ a → a ≤ 23 → r = 6) ∧ (a ≤ 21 → r = 5)) : r = bnd a ∧ 0 ≤ r ∧ r ≤ 6 := by
  unfold bnd
  repeat' split
  all_goals omega
theorem SI.lt {M : Mm} {F0 v i : Int} (h : SI M F0) (hp : 1 ≤ M 97 27) (hi : i = M 97 27 - 1) (e : v = M 110 i.toNat) (hv : 20 ≤ v ∧ v ≤ 27) : M 97 21 + 1 ≤ M 97 13 := by
  have e0 := cn_s (P := pe) (f := M 110) (n := i.toNat) (m := (M 97 27).toNat) (by omega)
  have := e0.1 (pe_t (by rw [← e]; exact hv))
  have := (cn_nn pe (M 110) i.toNat).1
  have := h.2.2.1
  omega
/-- settle writes no more than it takes off the pile -/
def SX (M M1 : Mm) : Prop := M1 97 21 + cn pe (M 110) (M1 97 27).toNat ≤ M 97 21 + cn pe (M 110) (M 97 27).toNat
theorem SX.rf (M : Mm) : SX M M := Int.le_refl _
theorem SX.pop {M M1 M2 : Mm} (h : SX M M1) (hp : 1 ≤ M1 97 27) (e27 : M2 97 27 = M1 97 27 - 1) (hv : 20 ≤ M 110 (M1 97 27 - 1).toNat ∧ M 110 (M1 97 27 - 1).toNat ≤ 27) (e21 : M2 97 21 = M1 97 21 + 1) : SX M M2 := by
  unfold SX at *
  have e0 := cn_s (P := pe) (f := M 110) (n := (M1 97 27 - 1).toNat) (m := (M1 97 27).toNat) (by omega)
  rw [e0.1 (pe_t hv)] at h
  rw [e27]; omega
theorem SX.drop {M M1 M2 : Mm} (h : SX M M1) (hp : 1 ≤ M1 97 27) (e27 : M2 97 27 = M1 97 27 - 1) (e21 : M2 97 21 = M1 97 21) : SX M M2 := by
  unfold SX at *
  have e0 := cn_s (P := pe) (f := M 110) (n := (M1 97 27 - 1).toNat) (m := (M1 97 27).toNat) (by omega)
  rw [e27]
  by_cases z : pe (M 110 (M1 97 27 - 1).toNat) = true
  · rw [e0.1 z] at h; omega
  · rw [e0.2 (by simpa using z)] at h; omega
