/-! the glasses of both sides -/
def PAP (n : Int) (P : Nat → Int) (L : Int) (F Z m z : Nat → Int) : Prop := (0 ≤ n ∧ n ≤ 6) ∧ ERl n P L F m ∧ ZR n m ∧ PI m ∧ ∀ g : Nat, (g : Int) < n → Z g = z g ∧ 0 ≤ z g ∧ z g ≤ 60
def PUB (n : Int) (P : Nat → Int) (L : Int) (F Z m z : Nat → Int) : Prop := PAP n P L F Z m z ∧ L = m 24
def RSP (m z : Nat → Int) (n g k w r : Int) (m1 : Nat → Int) : Prop := (¬ (1 ≤ w ∧ w ≤ 60) → r = -1 ∧ ∀ j : Nat, j < 25 → m1 j = m j) ∧ ((1 ≤ w ∧ w ≤ 60) → ¬ ((0 ≤ g ∧ g < n) ∧ (0 ≤ k ∧ k < n)) → r = -2 ∧ ∀ j : Nat, j < 25 → m1 j = m j) ∧ ((1 ≤ w ∧ w ≤ 60) → ((0 ≤ g ∧ g < n) ∧ (0 ≤ k ∧ k < n)) → ∃ r0 : Int, SPO m z g k w r0 m1 ∧ ((r0 < 0 ∧ r = r0) ∨ (0 ≤ r0 ∧ r = flm m1 k.toNat)))
def RLK (m z : Nat → Int) (n g w r : Int) (m1 : Nat → Int) : Prop := (¬ (1 ≤ w ∧ w ≤ 60) → r = -1 ∧ ∀ j : Nat, j < 25 → m1 j = m j) ∧ ((1 ≤ w ∧ w ≤ 60) → ¬ (0 ≤ g ∧ g < n) → r = -2 ∧ ∀ j : Nat, j < 25 → m1 j = m j) ∧ ((1 ≤ w ∧ w ≤ 60) → (0 ≤ g ∧ g < n) → ∃ r0 : Int, SPO m z g (-1) w r0 m1 ∧ ((r0 < 0 ∧ r = r0) ∨ (0 ≤ r0 ∧ r = flm m1 g.toNat)))
def RFI (m z : Nat → Int) (n g s w r : Int) (m1 : Nat → Int) : Prop := (¬ ((0 ≤ s ∧ s ≤ 3) ∧ (1 ≤ w ∧ w ≤ 60)) → r = -1 ∧ ∀ j : Nat, j < 25 → m1 j = m j) ∧ (((0 ≤ s ∧ s ≤ 3) ∧ (1 ≤ w ∧ w ≤ 60)) → ¬ (0 ≤ g ∧ g < n) → r = -2 ∧ ∀ j : Nat, j < 25 → m1 j = m j) ∧ (((0 ≤ s ∧ s ≤ 3) ∧ (1 ≤ w ∧ w ≤ 60)) → (0 ≤ g ∧ g < n) → ∃ r0 : Int, FIL m z g s w r0 m1 ∧ ((r0 < 0 ∧ r = -3) ∨ (0 ≤ r0 ∧ r = flm m1 g.toNat)))
def REM (m : Nat → Int) (n g r : Int) (m1 : Nat → Int) : Prop := (¬ (0 ≤ g ∧ g < n) → r = -2 ∧ ∀ j : Nat, j < 25 → m1 j = m j) ∧ ((0 ≤ g ∧ g < n) → r = flm m g.toNat ∧ ∃ m0 : Nat → Int, (∀ j : Nat, j < 25 → m0 j = if (j : Int) / 4 = g then 0 else m j) ∧ LSQ m0 m1)
/-- the class's table stands for the reference's parts -/
def PB (M : Mm) (t : Nat) (n : Int) (m z : Nat → Int) : Prop := ∃ (a b : Nat) (P : Nat → Int) (L : Int) (F Z : Nat → Int), TV M t a b n P L F Z ∧ PUB n P L F Z m z
def PQ_ (M : Mm) (t : Nat) (n : Int) (m z : Nat → Int) : Prop := ∃ (a b : Nat) (P : Nat → Int) (L : Int) (F Z : Nat → Int), TV M t a b n P L F Z ∧ PAP n P L F Z m z
section PBs
variable {n L L1 L2 g k s w r r' : Int} {P P1 P2 F F1 Z m m1 z : Nat → Int}
theorem PAP.ct (h : PAP n P L F Z m z) : CT n P L F Z := h.2.1.ct h.2.2.2.1 h.1 h.2.2.2.2
theorem PAP.cg (h : PAP n P L F Z m z) (e : ∀ j : Nat, j < 25 → m1 j = m j) : PAP n P L F Z m1 z := ⟨h.1, h.2.1.cg h.1.2 e, h.2.2.1.cg e, PIw.cg h.2.2.2.1 e, h.2.2.2.2⟩
theorem PUB.cg (h : PUB n P L F Z m z) (e : ∀ j : Nat, j < 25 → m1 j = m j) : PUB n P L F Z m1 z := ⟨h.1.cg e, by rw [e 24 (by omega)]; exact h.2⟩
theorem CARR.can {c1 c2 : Prop} (h : CARR c1 n P L F g k w r P1 L1 F1) (e : c1 ↔ c2) : CARR c2 n P L F g k w r P1 L1 F1 := ⟨fun z => h.1 (fun q => z (e.mp q)), fun z => h.2 (e.mpr z)⟩
theorem PAP.carry (h : PAP n P L F Z m z) (pi1 : PI m1) (hg : 0 ≤ g ∧ g < n) (hk : k = -1 ∨ (0 ≤ k ∧ k < n)) (hw : 1 ≤ w ∧ w ≤ 60) (c : CARR (CANk n F Z g k w) n P L F g k w r P1 L1 F1) (s : SPO m z g k w r' m1) : r = r' ∧ PAP n P1 L1 F1 Z m1 z := by
  obtain ⟨h1, h2, h3, h4, h5⟩ := h
  obtain ⟨a, b, c⟩ := CS h1 h2 h3 h4 (fun j hj => (h5 j hj).1) hg hk hw c s
  exact ⟨a, h1, b, c, pi1, h5⟩
theorem PAP.pour (h : PAP n P L F Z m z) (pi1 : PI m1) (hg : 0 ≤ g ∧ g < n) (hs : 0 ≤ s ∧ s ≤ 3) (hw : 1 ≤ w ∧ w ≤ 60) (c : POU n P L F Z g s w r P1 F1) (f : FIL m z g s w r' m1) : r = r' ∧ PAP n P1 L F1 Z m1 z := by
  obtain ⟨h1, h2, h3, h4, h5⟩ := h
  obtain ⟨a, b, c⟩ := PF h1 h2 h3 h4 (fun j hj => (h5 j hj).1) hg hs hw c f
  exact ⟨a, h1, b, c, pi1, h5⟩
theorem PAP.low (h : PAP n P L F Z m z) (d : DVD P P1 (gF P L (4 * n).toNat) n) (l : L = L1 * gF P L (4 * n).toNat) : PUB n P1 L1 F Z m z := by
  obtain ⟨h1, h2, h3, h4, h5⟩ := h
  obtain ⟨a, b⟩ := LOW h1 h2 h3 h4 d l
  exact ⟨⟨h1, a, h3, h4, h5⟩, b⟩
theorem PAP.full (h : PAP n P L F Z m z) {i : Nat} (hi : (i : Int) < n) : flm m i = F i := h.2.1.full h.2.2.2.1 hi
theorem POU.lower (pub : PUB n P L F Z m z) (h : PAP n P1 L F1 Z m1 z) (e : m1 24 = m 24) : PUB n P1 L F1 Z m1 z := ⟨h, by rw [e]; exact pub.2⟩
theorem FIL.e24 (h : FIL m z g s w r m1) (hg : 0 ≤ g ∧ g ≤ 5) (hs : 0 ≤ s ∧ s ≤ 3) : m1 24 = m 24 := by
  by_cases c : w ≤ z g.toNat - flm m g.toNat
  · rw [(h.1 c).2]; exact ms_ne _ _ (by omega)
  · rw [(h.2 c).2]
/-! public moves -/
theorem SPN.bad (pub : PUB n P L F Z m z) (hw : ¬ (1 ≤ w ∧ w ≤ 60)) (h : RSP m z n g k w r' m1) : -1 = r' ∧ PUB n P L F Z m1 z := ⟨(h.1 hw).1.symm, pub.cg (h.1 hw).2⟩
theorem SPN.none (pub : PUB n P L F Z m z) (hw : 1 ≤ w ∧ w ≤ 60) (hg : ¬ ((0 ≤ g ∧ g < n) ∧ (0 ≤ k ∧ k < n))) (h : RSP m z n g k w r' m1) : -2 = r' ∧ PUB n P L F Z m1 z := ⟨(h.2.1 hw hg).1.symm, pub.cg (h.2.1 hw hg).2⟩
theorem SPN.no (pub : PUB n P L F Z m z) (pi1 : PI m1) (hw : 1 ≤ w ∧ w ≤ 60) (hg : (0 ≤ g ∧ g < n) ∧ (0 ≤ k ∧ k < n)) (c : CARR (CANk n F Z g k w ∧ 0 ≤ k) n P L F g k w r P1 L1 F1) (hr : r < 0) (h : RSP m z n g k w r' m1) : r = r' ∧ PUB n P1 L1 F1 Z m1 z := by
  obtain ⟨r0, s, q⟩ := h.2.2 hw hg
  have c' := c.can (c2 := CANk n F Z g k w) ⟨fun x => x.1, fun x => ⟨x, hg.2.1⟩⟩
  obtain ⟨a, b⟩ := pub.1.carry pi1 hg.1 (Or.inr hg.2) hw c' s
  refine ⟨by omega, b, ?_⟩
  -- nothing has changed
  have s' : ∀ j : Nat, j < 25 → m1 j = m j := by
    by_cases y : g ≠ k ∧ w ≤ flm m g.toNat ∧ (k = -1 ∨ w ≤ z k.toNat - flm m k.toNat)
    · rcases s.2 y with x | x
      · omega
      · exact x.2.1
    · exact (s.1 y).2
  have e : L1 = L := by
    by_cases y : CANk n F Z g k w ∧ 0 ≤ k
    · rcases c.2 y with x | x
      · omega
      · exact x.2.2.1
    · exact (c.1 y).2.2.1
  rw [e, s' 24 (by omega)]
  exact pub.2
theorem SPN.yes (pub : PUB n P L F Z m z) (pi1 : PI m1) (hw : 1 ≤ w ∧ w ≤ 60) (hg : (0 ≤ g ∧ g < n) ∧ (0 ≤ k ∧ k < n)) (c : CARR (CANk n F Z g k w ∧ 0 ≤ k) n P L F g k w r P1 L1 F1) (hr : 0 ≤ r) (d : DVD P1 P2 (gF P1 L1 (4 * n).toNat) n) (l : L1 = L2 * gF P1 L1 (4 * n).toNat) (h : RSP m z n g k w r' m1) : F1 k.toNat = r' ∧ PUB n P2 L2 F1 Z m1 z := by
  obtain ⟨r0, s, q⟩ := h.2.2 hw hg
  have c' := c.can (c2 := CANk n F Z g k w) ⟨fun x => x.1, fun x => ⟨x, hg.2.1⟩⟩
  obtain ⟨a, b⟩ := pub.1.carry pi1 hg.1 (Or.inr hg.2) hw c' s
  have f := b.full (i := k.toNat) (by omega)
  exact ⟨by omega, b.low d l⟩
theorem LKN.bad (pub : PUB n P L F Z m z) (hw : ¬ (1 ≤ w ∧ w ≤ 60)) (h : RLK m z n g w r' m1) : -1 = r' ∧ PUB n P L F Z m1 z := ⟨(h.1 hw).1.symm, pub.cg (h.1 hw).2⟩
theorem LKN.none (pub : PUB n P L F Z m z) (hw : 1 ≤ w ∧ w ≤ 60) (hg : ¬ (0 ≤ g ∧ g < n)) (h : RLK m z n g w r' m1) : -2 = r' ∧ PUB n P L F Z m1 z := ⟨(h.2.1 hw hg).1.symm, pub.cg (h.2.1 hw hg).2⟩
theorem LKN.no (pub : PUB n P L F Z m z) (pi1 : PI m1) (hw : 1 ≤ w ∧ w ≤ 60) (hg : 0 ≤ g ∧ g < n) (c : CARR (CANk n F Z g (-1) w) n P L F g (-1) w r P1 L1 F1) (hr : r < 0) (h : RLK m z n g w r' m1) : r = r' ∧ PUB n P1 L1 F1 Z m1 z := by
  obtain ⟨r0, s, q⟩ := h.2.2 hw hg
  obtain ⟨a, b⟩ := pub.1.carry pi1 hg (Or.inl rfl) hw c s
  refine ⟨by omega, b, ?_⟩
  have s' : ∀ j : Nat, j < 25 → m1 j = m j := by
    by_cases y : g ≠ -1 ∧ w ≤ flm m g.toNat ∧ ((-1 : Int) = -1 ∨ w ≤ z (-1 : Int).toNat - flm m (-1 : Int).toNat)
    · rcases s.2 y with x | x
      · omega
      · exact x.2.1
    · exact (s.1 y).2
  have e : L1 = L := by
    by_cases y : CANk n F Z g (-1) w
    · rcases c.2 y with x | x
      · omega
      · exact x.2.2.1
    · exact (c.1 y).2.2.1
  rw [e, s' 24 (by omega)]
  exact pub.2
theorem LKN.yes (pub : PUB n P L F Z m z) (pi1 : PI m1) (hw : 1 ≤ w ∧ w ≤ 60) (hg : 0 ≤ g ∧ g < n) (c : CARR (CANk n F Z g (-1) w) n P L F g (-1) w r P1 L1 F1) (hr : 0 ≤ r) (d : DVD P1 P2 (gF P1 L1 (4 * n).toNat) n) (l : L1 = L2 * gF P1 L1 (4 * n).toNat) (h : RLK m z n g w r' m1) : F1 g.toNat = r' ∧ PUB n P2 L2 F1 Z m1 z := by
  obtain ⟨r0, s, q⟩ := h.2.2 hw hg
  obtain ⟨a, b⟩ := pub.1.carry pi1 hg (Or.inl rfl) hw c s
  have f := b.full (i := g.toNat) (by omega)
  exact ⟨by omega, b.low d l⟩
theorem FIN.bad (pub : PUB n P L F Z m z) (hw : ¬ ((0 ≤ s ∧ s ≤ 3) ∧ (1 ≤ w ∧ w ≤ 60))) (h : RFI m z n g s w r' m1) : -1 = r' ∧ PUB n P L F Z m1 z := ⟨(h.1 hw).1.symm, pub.cg (h.1 hw).2⟩
theorem FIN.none (pub : PUB n P L F Z m z) (hw : (0 ≤ s ∧ s ≤ 3) ∧ (1 ≤ w ∧ w ≤ 60)) (hg : ¬ (0 ≤ g ∧ g < n)) (h : RFI m z n g s w r' m1) : -2 = r' ∧ PUB n P L F Z m1 z := ⟨(h.2.1 hw hg).1.symm, pub.cg (h.2.1 hw hg).2⟩
theorem FIN.go (pub : PUB n P L F Z m z) (pi1 : PI m1) (hw : (0 ≤ s ∧ s ≤ 3) ∧ (1 ≤ w ∧ w ≤ 60)) (hg : 0 ≤ g ∧ g < n) (c : POU n P L F Z g s w r P1 F1) (h : RFI m z n g s w r' m1) : (if r < 0 then r else F1 g.toNat) = r' ∧ PUB n P1 L F1 Z m1 z := by
  have hn := pub.1.1
  obtain ⟨r0, f, q⟩ := h.2.2 hw hg
  obtain ⟨a, b⟩ := pub.1.pour pi1 hg hw.1 hw.2 c f
  have fu := b.full (i := g.toNat) (by omega)
  have r3 : r = -3 ∨ r = 0 := by
    by_cases y : (1 ≤ w ∧ w ≤ 60) ∧ (0 ≤ s ∧ s ≤ 3) ∧ (0 ≤ g ∧ g < n) ∧ w ≤ Z g.toNat - F g.toNat
    · exact Or.inr (c.2 y).1
    · exact Or.inl (c.1 y).1
  refine ⟨?_, POU.lower pub b (f.e24 (by omega) hw.1)⟩
  split <;> omega
theorem EMN.none (pub : PUB n P L F Z m z) (hg : ¬ (0 ≤ g ∧ g < n)) (h : REM m n g r' m1) : -2 = r' ∧ PUB n P L F Z m1 z := ⟨(h.1 hg).1.symm, pub.cg (h.1 hg).2⟩
theorem EMN.yes (pub : PUB n P L F Z m z) (pi1 : PI m1) (hg : 0 ≤ g ∧ g < n) (c : CLR P P1 F F1 g) (d : DVD P1 P2 (gF P1 L (4 * n).toNat) n) (l : L = L2 * gF P1 L (4 * n).toNat) (h : REM m n g r' m1) : F g.toNat = r' ∧ PUB n P2 L2 F1 Z m1 z := by
  obtain ⟨e, m0, q1, q2⟩ := h.2 hg
  have f := pub.1.full (i := g.toNat) (by omega)
  obtain ⟨h1, h2, h3, h4, h5⟩ := pub.1
  obtain ⟨x, y⟩ := CE h1 h2 h3 h4 hg c q1 q2
  exact ⟨by omega, PAP.low ⟨h1, x, y, pi1, h5⟩ d l⟩
theorem CLR.ct (pub : PUB n P L F Z m z) (hg : 0 ≤ g ∧ g < n) (c : CLR P P1 F F1 g) : CT n P1 L F1 Z := by
  obtain ⟨h1, h2, h3, h4⟩ := pub.1.ct
  obtain ⟨c1, c2, c3⟩ := c
  refine ⟨h1, h2, fun k hk => ?_, fun i hi => ?_⟩
  · by_cases q : (k : Int) / 4 = g
    · rw [c2 k q]; omega
    · rw [c1 k q]; exact h3 k hk
  · obtain ⟨a1, a2, a3⟩ := h4 i hi
    rw [c3]
    by_cases q : i = g.toNat
    · unfold sm4
      rw [q, ms_at, c2 (4 * g.toNat) (by omega), c2 (4 * g.toNat + 1) (by omega), c2 (4 * g.toNat + 2) (by omega), c2 (4 * g.toNat + 3) (by omega)]
      rw [q] at a2
      exact ⟨by omega, a2, by omega⟩
    · rw [ms_ne _ _ q]
      refine ⟨a1, a2, ?_⟩
      rw [← a3]
      unfold sm4
      rw [c1 _ (by omega), c1 _ (by omega), c1 _ (by omega), c1 _ (by omega)]
theorem CARR.ct (h : PAP n P L F Z m z) (c : CARR (CANk n F Z g k w) n P L F g k w r P1 L1 F1) (hr : 0 ≤ r) : CT n P1 L1 F1 Z := by
  have can : CANk n F Z g k w := by
    by_cases y : CANk n F Z g k w
    · exact y
    · have := (c.1 y).1; omega
  obtain ⟨x1, ⟨d, y1, y2, y3⟩, x3, x4⟩ := (c.2 can).resolve_right (fun q => by omega)
  obtain ⟨⟨w1, w2⟩, gk, hg, wF, hk⟩ := can
  obtain ⟨h1, h2, h3, h4⟩ := h.ct
  refine ⟨h1, x3, fun j hj => ?_, fun i hi => ?_⟩
  · have q := shr_nn (k := k) h.ct hg ⟨w1, wF⟩ hj
    rw [y2 j hj] at q
    by_cases y : P1 j < 0
    · have := Int.mul_neg_of_neg_of_pos y (show 0 < d by omega)
      omega
    · omega
  · obtain ⟨a1, a2, a3⟩ := h4 i hi
    obtain ⟨b1, b2, b3⟩ := h4 g.toNat (by omega)
    have sm := shr_sm (m := P) (f := F g.toNat) (k := k) (w := w) (i := i) hg.1 gk
    have sl : sm4 (shr P (F g.toNat) g k w) i = sm4 P1 i * d := by
      unfold sm4
      rw [y2 _ (by omega), y2 _ (by omega), y2 _ (by omega), y2 _ (by omega), Int.add_mul, Int.add_mul, Int.add_mul]
    have key : sm4 P1 i = shF F g k w i * L1 := by
      refine Int.eq_of_mul_eq_mul_right (a := d) (by omega) ?_
      rw [← sl, sm, Int.mul_assoc, ← y3]
      unfold shF
      by_cases c1 : (i : Int) = g
      · have : i = g.toNat := by omega
        subst this
        rw [if_pos c1, if_pos c1, a3]
        ac_rfl
      · rw [if_neg c1, if_neg c1]
        by_cases c2 : (i : Int) = k
        · rw [if_pos c2, if_pos c2, a3, b3, Int.add_mul]
          have t1 : F i * (L * F g.toNat) = F i * L * F g.toNat := by ac_rfl
          have t2 : w * (L * F g.toNat) = F g.toNat * L * w := by ac_rfl
          rw [t1, t2]
        · rw [if_neg c2, if_neg c2, a3]
          ac_rfl
    rw [x4]
    refine ⟨?_, a2, key⟩
    unfold shF
    by_cases c1 : (i : Int) = g
    · rw [if_pos c1]
      have : i = g.toNat := by omega
      subst this
      omega
    · rw [if_neg c1]
      by_cases c2 : (i : Int) = k
      · rw [if_pos c2]
        rcases hk with q | ⟨q1, q2⟩
        · omega
        · have : i = k.toNat := by omega
          subst this
          omega
      · rw [if_neg c2]; exact a1
end PBs
/-! refusals -/
def inc (x : Int) : Int := (x + 1).bmod 4294967296
def ngv (a : Int) : Int := if a < 0 then a else 0
def ansF (R : Nat → Int) (a : Int) : Nat → Int := if a = -1 then ms R 0 (inc (R 0)) else if a = -2 then ms R 1 (inc (R 1)) else if a = -3 then ms R 2 (inc (R 2)) else if a = -5 then ms R 3 (inc (R 3)) else if a = -6 then ms R 4 (inc (R 4)) else R
def telF (R : Nat → Int) (a : Int) : Nat → Int := if a < 0 then ms R (-a).toNat (inc (R (-a).toNat)) else R
def RFR (M : Mm) : Prop := M 0 10 = M 97 1 ∧ M 96 0 = M 98 1 ∧ M 96 1 = M 98 2 ∧ M 96 2 = M 98 3 ∧ M 96 3 = M 98 5 ∧ M 96 4 = M 98 6
theorem ansF_at {R : Nat → Int} {a : Int} {i : Nat} (h : (a = -1 ∧ i = 0) ∨ (a = -2 ∧ i = 1) ∨ (a = -3 ∧ i = 2) ∨ (a = -5 ∧ i = 3) ∨ (a = -6 ∧ i = 4)) : ansF R a = ms R i (inc (R i)) := by
  unfold ansF
  rcases h with ⟨x, y⟩ | ⟨x, y⟩ | ⟨x, y⟩ | ⟨x, y⟩ | ⟨x, y⟩ <;> subst x <;> subst y <;> rfl
theorem ansF_no {R : Nat → Int} {a : Int} (h : a ≠ -1 ∧ a ≠ -2 ∧ a ≠ -3 ∧ a ≠ -5 ∧ a ≠ -6) : ansF R a = R := by
  unfold ansF
  rw [if_neg h.1, if_neg h.2.1, if_neg h.2.2.1, if_neg h.2.2.2.1, if_neg h.2.2.2.2]
theorem RFR.st {M M2 : Mm} {a : Int} (h : RFR M) (ha : -6 ≤ a) (e0 : M2 0 10 = ngv a) (e1 : M2 97 1 = ngv a) (r1 : M2 96 = ansF (M 96) a) (r2 : M2 98 = telF (M 98) a) : RFR M2 := by
  obtain ⟨h0, h1, h2, h3, h4, h5⟩ := h
  refine ⟨by rw [e0, e1], ?_⟩
  rw [r1, r2]
  by_cases c : a < 0
  · rcases (show a = -1 ∨ a = -2 ∨ a = -3 ∨ a = -4 ∨ a = -5 ∨ a = -6 by omega) with x | x | x | x | x | x <;> subst x
    · simp [ansF, telF, ms, h1, h2, h3, h4, h5]
    · simp [ansF, telF, ms, h1, h2, h3, h4, h5]
    · simp [ansF, telF, ms, h1, h2, h3, h4, h5]
    · simp [ansF, telF, ms, h1, h2, h3, h4, h5]
    · simp [ansF, telF, ms, h1, h2, h3, h4, h5]
    · simp [ansF, telF, ms, h1, h2, h3, h4, h5]
  · rw [ansF_no (by omega)]
    unfold telF
    rw [if_neg c]
    exact ⟨h1, h2, h3, h4, h5⟩
