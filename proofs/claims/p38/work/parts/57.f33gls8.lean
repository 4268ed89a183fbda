/-! a spooning as a function -/
def E25 (m m' : Nat → Int) : Prop := ∀ j : Nat, j < 25 → m' j = m j
theorem E25.rf (m : Nat → Int) : E25 m m := fun _ _ => rfl
theorem E25.tr {a b c : Nat → Int} (h : E25 a b) (g : E25 b c) : E25 a c := fun j hj => (g j hj).trans (h j hj)
theorem E25.sy {a b : Nat → Int} (h : E25 a b) : E25 b a := fun j hj => (h j hj).symm
def spD (m : Nat → Int) (g k w : Int) : Int := gF (shr m (flm m g.toNat) g k w) (m 24 * flm m g.toNat) 24
def spR (m z : Nat → Int) (g k w : Int) : Int := if g ≠ k ∧ w ≤ flm m g.toNat ∧ (k = -1 ∨ w ≤ z k.toNat - flm m k.toNat) then (if 100000000000000 * spD m g k w < m 24 * flm m g.toNat then -5 else 0) else -3
def spM (m z : Nat → Int) (g k w : Int) : Nat → Int := fun j => if spR m z g k w = 0 then (if j = 24 then m 24 * flm m g.toNat / spD m g k w else shr m (flm m g.toNat) g k w j / spD m g k w) else m j
theorem spo_F {m z : Nat → Int} {g k w : Int} (hd : spR m z g k w = 0 → 1 ≤ m 24 * flm m g.toNat) : SPO m z g k w (spR m z g k w) (spM m z g k w) := by
  by_cases c : g ≠ k ∧ w ≤ flm m g.toNat ∧ (k = -1 ∨ w ≤ z k.toNat - flm m k.toNat)
  · by_cases d : 100000000000000 * spD m g k w < m 24 * flm m g.toNat
    · have e : spR m z g k w = -5 := by unfold spR; rw [if_pos c, if_pos d]
      refine ⟨fun q => absurd c q, fun _ => Or.inr ⟨e, fun j hj => ?_, d⟩⟩
      unfold spM
      rw [if_neg (by omega)]
    · have e : spR m z g k w = 0 := by unfold spR; rw [if_pos c, if_neg d]
      have dv := gF_dvd (p := shr m (flm m g.toNat) g k w) (d := m 24 * flm m g.toNat) 24
      have dp := gF_pos (p := shr m (flm m g.toNat) g k w) (hd e) 24
      have e24 : spM m z g k w 24 = m 24 * flm m g.toNat / spD m g k w := by unfold spM; rw [if_pos e, if_pos rfl]
      have x24 : m 24 * flm m g.toNat = spM m z g k w 24 * spD m g k w := by rw [e24]; unfold spD; rw [Int.ediv_mul_cancel dv.1]
      refine ⟨fun q => absurd c q, fun _ => Or.inl ⟨e, ?_, spD m g k w, rfl, fun j hj => ?_, x24⟩⟩
      · by_cases q : spM m z g k w 24 ≤ 100000000000000
        · exact q
        · have : (100000000000000 + 1) * spD m g k w ≤ spM m z g k w 24 * spD m g k w := Int.mul_le_mul_of_nonneg_right (by omega) (by unfold spD; omega)
          have dd : 1 ≤ spD m g k w := dp
          omega
      · have : spM m z g k w j = shr m (flm m g.toNat) g k w j / spD m g k w := by unfold spM; rw [if_pos e, if_neg (by omega)]
        rw [this]
        unfold spD
        rw [Int.ediv_mul_cancel (dv.2 j hj)]
  · have e : spR m z g k w = -3 := by unfold spR; rw [if_neg c]
    refine ⟨fun _ => ⟨e, fun j hj => ?_⟩, fun q => absurd q c⟩
    unfold spM
    rw [if_neg (by omega)]
theorem SPO.det {m z m1 m2 : Nat → Int} {g k w r r2 : Int} (h1 : SPO m z g k w r m1) (h2 : SPO m z g k w r2 m2) (hp : g ≠ k ∧ w ≤ flm m g.toNat ∧ (k = -1 ∨ w ≤ z k.toNat - flm m k.toNat) → 1 ≤ m 24 * flm m g.toNat) : r = r2 ∧ E25 m1 m2 := by
  by_cases c : g ≠ k ∧ w ≤ flm m g.toNat ∧ (k = -1 ∨ w ≤ z k.toNat - flm m k.toNat)
  · have dp := gF_pos (p := shr m (flm m g.toNat) g k w) (hp c) 24
    have no : ∀ (x : Nat → Int), x 24 ≤ 100000000000000 → m 24 * flm m g.toNat = x 24 * gF (shr m (flm m g.toNat) g k w) (m 24 * flm m g.toNat) 24 → ¬ 100000000000000 * gF (shr m (flm m g.toNat) g k w) (m 24 * flm m g.toNat) 24 < m 24 * flm m g.toNat := by
      intro x a b
      have := Int.mul_le_mul_of_nonneg_right a (show 0 ≤ gF (shr m (flm m g.toNat) g k w) (m 24 * flm m g.toNat) 24 by omega)
      omega
    rcases h1.2 c with ⟨a1, a2, d, a3, a4, a5⟩ | ⟨a1, a2, a3⟩ <;> rcases h2.2 c with ⟨b1, b2, e, b3, b4, b5⟩ | ⟨b1, b2, b3⟩
    · refine ⟨by omega, fun j hj => ?_⟩
      subst a3; subst b3
      refine Int.eq_of_mul_eq_mul_right (a := gF (shr m (flm m g.toNat) g k w) (m 24 * flm m g.toNat) 24) (by omega) ?_
      by_cases q : j = 24
      · rw [q, ← a5, ← b5]
      · rw [← a4 j (by omega), ← b4 j (by omega)]
    · exact absurd b3 (no m1 a2 (a3 ▸ a5))
    · exact absurd a3 (no m2 b2 (b3 ▸ b5))
    · exact ⟨by omega, fun j hj => (b2 j hj).trans (a2 j hj).symm⟩
  · obtain ⟨a1, a2⟩ := h1.1 c
    obtain ⟨b1, b2⟩ := h2.1 c
    exact ⟨by omega, fun j hj => (b2 j hj).trans (a2 j hj).symm⟩
theorem flm_cg {m m' : Nat → Int} (e : E25 m m') {g : Nat} (hg : g < 6) : flm m' g = flm m g := by
  unfold flm sm4
  rw [e _ (by omega), e _ (by omega), e _ (by omega), e _ (by omega), e 24 (by omega)]
theorem shr_cg {m m' : Nat → Int} (e : E25 m m') {f g k w : Int} (hg : 0 ≤ g ∧ g ≤ 5) {j : Nat} (hj : j < 24) : shr m' f g k w j = shr m f g k w j := by
  unfold shr
  rw [e j (by omega), e (4 * g.toNat + j % 4) (by omega)]
/-- what is read off 25 places -/
theorem SPO.cg {m m' z m1 : Nat → Int} {g k w r : Int} (h : SPO m z g k w r m1) (e : E25 m m') (hg : 0 ≤ g ∧ g ≤ 5) (hk : -1 ≤ k ∧ k ≤ 5) : SPO m' z g k w r m1 := by
  have f1 := flm_cg e (g := g.toNat) (by omega)
  have f2 := flm_cg e (g := k.toNat) (by omega)
  have g1 : gF (shr m' (flm m g.toNat) g k w) (m 24 * flm m g.toNat) 24 = gF (shr m (flm m g.toNat) g k w) (m 24 * flm m g.toNat) 24 := gF_cg 24 (fun j hj => shr_cg e hg hj)
  unfold SPO
  rw [f1, f2, e 24 (by omega), g1]
  refine ⟨fun c => ⟨(h.1 c).1, fun j hj => ((h.1 c).2 j hj).trans (e j hj).symm⟩, fun c => ?_⟩
  rcases h.2 c with ⟨a1, a2, d, a3, a4, a5⟩ | ⟨a1, a2, a3⟩
  · exact Or.inl ⟨a1, a2, d, a3, fun j hj => (shr_cg e hg hj).trans (a4 j hj), a5⟩
  · exact Or.inr ⟨a1, fun j hj => (a2 j hj).trans (e j hj).symm, a3⟩
theorem pi_f {m : Nat → Int} {g : Nat} (pi : PI m) (hg : g < 6) : 0 ≤ flm m g ∧ flm m g ≤ 60 := by
  obtain ⟨f, hf, hs⟩ := pi.2.2 g hg
  rw [flm_at (f := f) pi.1.1 (by unfold sm4; exact hs.symm)]
  exact hf
theorem pi_m {m : Nat → Int} {g w : Int} (pi : PI m) (hg : 0 ≤ g ∧ g ≤ 5) (hw : 1 ≤ w) (h : w ≤ flm m g.toNat) : 1 ≤ m 24 * flm m g.toNat := by
  have := Int.mul_le_mul pi.1.1 (show 1 ≤ flm m g.toNat by omega) (by omega) (by have := pi.1.1; omega)
  omega
/-- the reference's spooning is the function's -/
theorem SPO.F {m m' z m1 : Nat → Int} {g k w r : Int} (h : SPO m z g k w r m1) (e : E25 m m') (pi : PI m') (hg : 0 ≤ g ∧ g ≤ 5) (hk : -1 ≤ k ∧ k ≤ 5) (hw : 1 ≤ w) : r = spR m' z g k w ∧ E25 (spM m' z g k w) m1 := by
  have h' := h.cg e hg hk
  have hc : ∀ c : g ≠ k ∧ w ≤ flm m' g.toNat ∧ (k = -1 ∨ w ≤ z k.toNat - flm m' k.toNat), 1 ≤ m' 24 * flm m' g.toNat := fun c => pi_m pi hg hw c.2.1
  have s := spo_F (m := m') (z := z) (g := g) (k := k) (w := w) (fun q => hc (by
    by_cases c : g ≠ k ∧ w ≤ flm m' g.toNat ∧ (k = -1 ∨ w ≤ z k.toNat - flm m' k.toNat)
    · exact c
    · unfold spR at q
      rw [if_neg c] at q
      omega))
  obtain ⟨a, b⟩ := h'.det s hc
  exact ⟨a, b.sy⟩
theorem spo_of {m z : Nat → Int} {g k w : Int} (pi : PI m) (hg : 0 ≤ g ∧ g ≤ 5) (hw : 1 ≤ w) : SPO m z g k w (spR m z g k w) (spM m z g k w) := spo_F (fun q => pi_m pi hg hw (by
  by_cases c : g ≠ k ∧ w ≤ flm m g.toNat ∧ (k = -1 ∨ w ≤ z k.toNat - flm m k.toNat)
  · exact c.2.1
  · unfold spR at q
    rw [if_neg c] at q
    omega))
/-- it stays a row of glasses -/
theorem SPO.pi {m z m1 : Nat → Int} {g k w r : Int} (h : SPO m z g k w r m1) (pi : PI m) (hg : 0 ≤ g ∧ g ≤ 5) (hk : -1 ≤ k ∧ k ≤ 5) (hw : 1 ≤ w) (hz : ∀ j : Nat, j < 6 → z j ≤ 60) : PI m1 := by
  by_cases c : g ≠ k ∧ w ≤ flm m g.toNat ∧ (k = -1 ∨ w ≤ z k.toNat - flm m k.toNat)
  · rcases h.2 c with ⟨a1, a2, d, a3, a4, a5⟩ | ⟨a1, a2, a3⟩
    · have f1 := pi_f pi (g := g.toNat) (by omega)
      have hp := pi_m pi hg hw c.2.1
      have dp := gF_pos (p := shr m (flm m g.toNat) g k w) hp 24
      rw [← a3] at dp
      obtain ⟨fg, hfg, hsg⟩ := pi.2.2 g.toNat (by omega)
      have eg := flm_at (f := fg) pi.1.1 (by unfold sm4; exact hsg.symm)
      rw [eg] at a4 a5 c
      -- the row before it is lessened
      have q : PIw 6000000000000000 (fun j => if j = 24 then m 24 * fg else shr m fg g k w j) := by
        refine PIw.spoon (m := m) (g := g.toNat) (t := k) (a := w) (had := fg) pi (by omega) hk (by omega) (by omega) (by omega) hsg (fun k0 => ?_) rfl (fun s hs => ?_) (fun k0 s hs => ?_) (fun j hj h1 h2 => ?_)
        · obtain ⟨fk, hfk, hsk⟩ := pi.2.2 k.toNat (by omega)
          have ek := flm_at (f := fk) pi.1.1 (by unfold sm4; exact hsk.symm)
          have := hz k.toNat (by omega)
          exact ⟨fk, by omega, hsk⟩
        · show (if 4 * g.toNat + s = 24 then _ else _) = _
          rw [if_neg (by omega)]
          unfold shr
          rw [if_pos (by omega), if_neg (by omega)]
          omega
        · show (if 4 * k.toNat + s = 24 then _ else _) = _
          rw [if_neg (by omega)]
          unfold shr
          rw [if_neg (by omega), if_pos (by omega), show (4 * k.toNat + s) % 4 = s by omega]
          omega
        · show (if j = 24 then _ else _) = _
          rw [if_neg (by omega)]
          unfold shr
          have := h2
          rw [if_neg (by omega), if_neg (fun z => by have := h2 (by omega); omega)]
          omega
      have dv : ∀ j : Nat, j < 25 → (if j = 24 then m 24 * fg else shr m fg g k w j) = m1 j * d := fun j hj => by
        by_cases y : j = 24
        · rw [if_pos y, y]; exact a5
        · rw [if_neg y]; exact a4 j (by omega)
      have q2 := PIw.div (m' := m1) (d := d) q dp (fun j hj => by show d ∣ (if j = 24 then _ else _); rw [dv j hj]; exact Int.dvd_mul_left _ _) (fun j hj => by show _ = (if j = 24 then _ else _) / d; rw [dv j hj, Int.mul_ediv_cancel _ (by omega)])
      exact q2.up a2
    · exact PIw.cg pi a2
  · exact PIw.cg pi (h.1 c).2
theorem PAP.sp {n L L1 g k w r : Int} {P P1 F F1 Z m z : Nat → Int} (h : PAP n P L F Z m z) (hz : ∀ j : Nat, j < 6 → z j ≤ 60) (hg : 0 ≤ g ∧ g < n) (hk : k = -1 ∨ (0 ≤ k ∧ k < n)) (hw : 1 ≤ w ∧ w ≤ 60) (c : CARR (CANk n F Z g k w) n P L F g k w r P1 L1 F1) : r = spR m z g k w ∧ PAP n P1 L1 F1 Z (spM m z g k w) z := by
  have hn := h.1
  have s := spo_of (m := m) (z := z) (g := g) (k := k) (w := w) h.2.2.2.1 (by omega) hw.1
  exact h.carry (s.pi h.2.2.2.1 (by omega) (by omega) hw.1 hz) hg hk hw c s
