/-! glasses: common divisors -/
def gF (p : Nat → Int) (d : Int) : Nat → Int
  | 0 => d
  | j + 1 => ((Int.gcd (p j) (gF p d j) : Nat) : Int)
theorem gF_pos {p : Nat → Int} {d : Int} (hd : 1 ≤ d) : ∀ j : Nat, 1 ≤ gF p d j
  | 0 => hd
  | j + 1 => (gcd1 (gF_pos hd j)).1
theorem gF_dvd {p : Nat → Int} {d : Int} : ∀ j : Nat, gF p d j ∣ d ∧ ∀ k, k < j → gF p d j ∣ p k
  | 0 => ⟨Int.dvd_refl d, fun k hk => absurd hk (by omega)⟩
  | j + 1 => by
    obtain ⟨h1, h2⟩ := gF_dvd (p := p) (d := d) j
    have a : gF p d (j + 1) ∣ p j := Int.gcd_dvd_left _ _
    have b : gF p d (j + 1) ∣ gF p d j := Int.gcd_dvd_right _ _
    refine ⟨Int.dvd_trans b h1, fun k hk => ?_⟩
    by_cases c : k = j
    · rw [c]; exact a
    · exact Int.dvd_trans b (h2 k (by omega))
theorem gF_gr {p : Nat → Int} {d e : Int} (hd : e ∣ d) : ∀ j : Nat, (∀ k, k < j → e ∣ p k) → e ∣ gF p d j
  | 0, _ => hd
  | j + 1, h => Int.dvd_coe_gcd (h j (by omega)) (gF_gr hd j (fun k hk => h k (by omega)))
theorem gF_cg {p q : Nat → Int} {d : Int} : ∀ j : Nat, (∀ k, k < j → p k = q k) → gF p d j = gF q d j
  | 0, _ => rfl
  | j + 1, h => by
    unfold gF
    rw [h j (by omega), gF_cg j (fun k hk => h k (by omega))]
theorem gF_sc {p : Nat → Int} {d c : Int} (hc : 0 ≤ c) : ∀ j : Nat, gF (fun k => p k * c) (d * c) j = gF p d j * c
  | 0 => rfl
  | j + 1 => by
    show ((Int.gcd (p j * c) (gF (fun k => p k * c) (d * c) j) : Nat) : Int) = ((Int.gcd (p j) (gF p d j) : Nat) : Int) * c
    rw [gF_sc hc j, Int.gcd_mul_right, Int.natCast_mul, Int.natAbs_of_nonneg hc]
theorem gF_z {p : Nat → Int} {d : Int} (hd : 1 ≤ d) {j : Nat} : ∀ i : Nat, (∀ k, j ≤ k → k < j + i → p k = 0) → gF p d (j + i) = gF p d j
  | 0, _ => rfl
  | i + 1, h => by
    have ih := gF_z hd i (fun k a b => h k a (by omega))
    have hp := gF_pos (p := p) hd j
    show ((Int.gcd (p (j + i)) (gF p d (j + i)) : Nat) : Int) = _
    rw [h (j + i) (by omega) (by omega), Int.gcd_zero_left, ih, Int.natAbs_of_nonneg (by omega)]
theorem gF_1 {p : Nat → Int} {d : Int} {j : Nat} (h : gF p d j = 1) : ∀ i : Nat, gF p d (j + i) = 1
  | 0 => h
  | i + 1 => by
    show ((Int.gcd (p (j + i)) (gF p d (j + i)) : Nat) : Int) = 1
    rw [gF_1 h i, Int.gcd_one]
    rfl
theorem gF_U {p q : Nat → Int} {L R : Int} {j : Nat} (hL : 1 ≤ L) (hR : 1 ≤ R) (h : ∀ k, k < j → p k * R = q k * L) (g : gF q R j = 1) : gF p L j * R = L := by
  have a := gF_sc (p := p) (d := L) (c := R) (by omega) j
  have b := gF_sc (p := q) (d := R) (c := L) (by omega) j
  rw [gF_cg (p := fun k => p k * R) (q := fun k => q k * L) j h, Int.mul_comm L R, b, g, Int.one_mul] at a
  exact a.symm
theorem gF_dv {p p1 : Nat → Int} {L L1 D : Int} {j : Nat} (hL : 1 ≤ L) (hD : gF p L j = D) (h : ∀ k, k < j → p k = p1 k * D) (hl : L = L1 * D) : gF p1 L1 j = 1 := by
  have hd := gF_pos (p := p) hL j
  rw [hD] at hd
  have a := gF_sc (p := p1) (d := L1) (c := D) (by omega) j
  rw [← hl, gF_cg (p := fun k => p1 k * D) (q := p) j (fun k hk => (h k hk).symm), hD] at a
  refine Int.eq_of_mul_eq_mul_right (a := D) (by omega) ?_
  rw [Int.one_mul]
  exact a.symm
/-- all of a row over its common divisor -/
theorem dvq {a d : Int} (hd : 1 ≤ d) (ha : 0 ≤ a) (h : d ∣ a) : a = a.tdiv d * d ∧ 0 ≤ a.tdiv d ∧ a.tdiv d ≤ a := by
  obtain ⟨q, rfl⟩ := h
  have hq : 0 ≤ q := by
    by_cases z : q < 0
    · have := Int.mul_neg_of_pos_of_neg (show 0 < d by omega) z
      omega
    · omega
  rw [Int.mul_tdiv_cancel_left _ (by omega)]
  have e : q * 1 ≤ q * d := Int.mul_le_mul_of_nonneg_left hd hq
  rw [Int.mul_comm d q]
  exact ⟨rfl, hq, by omega⟩
/-- quotients of like fractions -/
theorem tdv {a b c d : Int} (ha : 0 ≤ a) (hb : 1 ≤ b) (hc : 0 ≤ c) (hd : 1 ≤ d) (h : a * d = c * b) : a.tdiv b = c.tdiv d := by
  rw [← Int.mul_tdiv_mul_of_pos_left a b (show 0 < d by omega), h, Int.mul_comm b d, Int.mul_tdiv_mul_of_pos_left c d (show 0 < b by omega)]
def sm4 (m : Nat → Int) (g : Nat) : Int := m (4 * g) + m (4 * g + 1) + m (4 * g + 2) + m (4 * g + 3)
def CT (n : Int) (P : Nat → Int) (L : Int) (F Z : Nat → Int) : Prop := (0 ≤ n ∧ n ≤ 6) ∧ (1 ≤ L ∧ L ≤ 100000000000000) ∧ (∀ k : Nat, (k : Int) < 4 * n → 0 ≤ P k) ∧ ∀ g : Nat, (g : Int) < n → (0 ≤ F g ∧ F g ≤ 60) ∧ (0 ≤ Z g ∧ Z g ≤ 60) ∧ sm4 P g = F g * L
theorem CT.pb {n L : Int} {P F Z : Nat → Int} (h : CT n P L F Z) {k : Nat} (hk : (k : Int) < 4 * n) : 0 ≤ P k ∧ P k ≤ F (k / 4) * L ∧ P k ≤ 6000000000000000 := by
  obtain ⟨hn, hL, h0, h1⟩ := h
  obtain ⟨⟨f0, f6⟩, -, hs⟩ := h1 (k / 4) (by omega)
  have a0 := h0 (4 * (k / 4)) (by omega)
  have a1 := h0 (4 * (k / 4) + 1) (by omega)
  have a2 := h0 (4 * (k / 4) + 2) (by omega)
  have a3 := h0 (4 * (k / 4) + 3) (by omega)
  have hm := mul60 f0 f6 hL.1 hL.2
  have hc : k = 4 * (k / 4) ∨ k = 4 * (k / 4) + 1 ∨ k = 4 * (k / 4) + 2 ∨ k = 4 * (k / 4) + 3 := by omega
  unfold sm4 at hs
  have key : 0 ≤ P k ∧ P k ≤ F (k / 4) * L := by
    generalize k / 4 = q at *
    rcases hc with rfl | rfl | rfl | rfl <;> omega
  exact ⟨key.1, key.2, by omega⟩
/-! a spooning, on paper -/
def shr (P : Nat → Int) (f g k w : Int) (j : Nat) : Int := P j * f - (if (j : Int) / 4 = g then P j * w else 0) + (if (j : Int) / 4 = k then P (4 * g.toNat + j % 4) * w else 0)
def shF (F : Nat → Int) (g k w : Int) (j : Nat) : Int := if (j : Int) = g then F j - w else if (j : Int) = k then F j + w else F j
def CANk (n : Int) (F Z : Nat → Int) (g k w : Int) : Prop := (1 ≤ w ∧ w ≤ 60) ∧ g ≠ k ∧ (0 ≤ g ∧ g < n) ∧ w ≤ F g.toNat ∧ (k = -1 ∨ ((0 ≤ k ∧ k < n) ∧ w ≤ Z k.toNat - F k.toNat))
def CARR (can : Prop) (n : Int) (P : Nat → Int) (L : Int) (F : Nat → Int) (g k w r : Int) (P1 : Nat → Int) (L1 : Int) (F1 : Nat → Int) : Prop :=
  (¬ can → r = -3 ∧ P1 = P ∧ L1 = L ∧ F1 = F) ∧ (can →
    (r = 0 ∧ (∃ d : Int, 1 ≤ d ∧ (∀ j : Nat, (j : Int) < 4 * n → shr P (F g.toNat) g k w j = P1 j * d) ∧ L * F g.toNat = L1 * d) ∧ (1 ≤ L1 ∧ L1 ≤ 100000000000000) ∧ F1 = shF F g k w) ∨
    (r = -5 ∧ P1 = P ∧ L1 = L ∧ F1 = F ∧ 100000000000000 * gF (shr P (F g.toNat) g k w) (L * F g.toNat) (4 * n).toNat < L * F g.toNat))
def flm (m : Nat → Int) (g : Nat) : Int := (sm4 m g).tdiv (m 24)
def SPO (m z : Nat → Int) (g k w r : Int) (m1 : Nat → Int) : Prop :=
  (¬ (g ≠ k ∧ w ≤ flm m g.toNat ∧ (k = -1 ∨ w ≤ z k.toNat - flm m k.toNat)) → r = -3 ∧ ∀ j : Nat, j < 25 → m1 j = m j) ∧
  ((g ≠ k ∧ w ≤ flm m g.toNat ∧ (k = -1 ∨ w ≤ z k.toNat - flm m k.toNat)) →
    (r = 0 ∧ m1 24 ≤ 100000000000000 ∧ ∃ d : Int, d = gF (shr m (flm m g.toNat) g k w) (m 24 * flm m g.toNat) 24 ∧ (∀ j : Nat, j < 24 → shr m (flm m g.toNat) g k w j = m1 j * d) ∧ m 24 * flm m g.toNat = m1 24 * d) ∨
    (r = -5 ∧ (∀ j : Nat, j < 25 → m1 j = m j) ∧ 100000000000000 * gF (shr m (flm m g.toNat) g k w) (m 24 * flm m g.toNat) 24 < m 24 * flm m g.toNat))
/-- the class's numbers stand for the reference's -/
def ERl (n : Int) (P : Nat → Int) (L : Int) (F m : Nat → Int) : Prop := (1 ≤ L ∧ L ≤ 100000000000000) ∧ (∀ k : Nat, (k : Int) < 4 * n → P k * m 24 = m k * L) ∧ ∀ g : Nat, (g : Int) < n → F g * m 24 = sm4 m g
def ZR (n : Int) (m : Nat → Int) : Prop := (∀ k : Nat, 4 * n ≤ (k : Int) → k < 24 → m k = 0) ∧ gF m (m 24) 24 = 1
theorem flm_at {m : Nat → Int} {g : Nat} {f : Int} (hR : 1 ≤ m 24) (h : f * m 24 = sm4 m g) : flm m g = f := by
  unfold flm
  rw [← h]
  exact Int.mul_tdiv_cancel _ (by omega)
theorem ERl.full {n L : Int} {P F m : Nat → Int} (h : ERl n P L F m) (hp : PI m) {g : Nat} (hg : (g : Int) < n) : flm m g = F g := flm_at hp.1.1 (h.2.2 g hg)
theorem ERl.fb {n L : Int} {P F m : Nat → Int} (h : ERl n P L F m) (hp : PI m) (hn : n ≤ 6) {g : Nat} (hg : (g : Int) < n) : 0 ≤ F g ∧ F g ≤ 60 := by
  obtain ⟨f, hf, hs⟩ := hp.2.2 g (by omega)
  have e := h.2.2 g hg
  have e2 : F g = f := Int.eq_of_mul_eq_mul_right (a := m 24) (by have := hp.1.1; omega) (e.trans hs)
  omega
theorem ERl.ct {n L : Int} {P F Z m z : Nat → Int} (h : ERl n P L F m) (hp : PI m) (hn : 0 ≤ n ∧ n ≤ 6) (hz : ∀ g : Nat, (g : Int) < n → Z g = z g ∧ 0 ≤ z g ∧ z g ≤ 60) : CT n P L F Z := by
  have hR := hp.1.1
  refine ⟨hn, h.1, fun k hk => ?_, fun g hg => ⟨h.fb hp hn.2 hg, by have := hz g hg; omega, ?_⟩⟩
  · have e := h.2.1 k hk
    have m0 := hp.2.1 k (by omega)
    have mL := Int.mul_nonneg m0 (show 0 ≤ L by have := h.1; omega)
    by_cases z : P k < 0
    · have := Int.mul_neg_of_neg_of_pos z (show 0 < m 24 by omega)
      omega
    · omega
  · have e0 := h.2.1 (4 * g) (by omega)
    have e1 := h.2.1 (4 * g + 1) (by omega)
    have e2 := h.2.1 (4 * g + 2) (by omega)
    have e3 := h.2.1 (4 * g + 3) (by omega)
    have es := h.2.2 g hg
    unfold sm4 at es ⊢
    refine Int.eq_of_mul_eq_mul_right (a := m 24) (by omega) ?_
    rw [Int.add_mul, Int.add_mul, Int.add_mul, e0, e1, e2, e3, ← Int.add_mul, ← Int.add_mul, ← Int.add_mul, ← es, Int.mul_assoc, Int.mul_assoc, Int.mul_comm L (m 24)]
theorem ERl.cg {n L : Int} {P F m m1 : Nat → Int} (h : ERl n P L F m) (hn : n ≤ 6) (e : ∀ j : Nat, j < 25 → m1 j = m j) : ERl n P L F m1 := by
  refine ⟨h.1, fun k hk => ?_, fun g hg => ?_⟩
  · rw [e 24 (by omega), e k (by omega)]; exact h.2.1 k hk
  · unfold sm4
    rw [e 24 (by omega), e _ (by omega), e _ (by omega), e _ (by omega), e _ (by omega)]; exact h.2.2 g hg
theorem ZR.cg {n : Int} {m m1 : Nat → Int} (h : ZR n m) (e : ∀ j : Nat, j < 25 → m1 j = m j) : ZR n m1 := by
  refine ⟨fun k h1 h2 => by rw [e k (by omega)]; exact h.1 k h1 h2, ?_⟩
  rw [e 24 (by omega), gF_cg 24 (fun k hk => e k (by omega))]
  exact h.2
/-- the divisor needs no more than the glasses that are there -/
theorem ZR.n {n : Int} {m : Nat → Int} (h : ZR n m) (hn : 0 ≤ n ∧ n ≤ 6) (hR : 1 ≤ m 24) : gF m (m 24) (4 * n).toNat = 1 := by
  have e := gF_z (p := m) hR (j := (4 * n).toNat) (24 - (4 * n).toNat) (fun k a b => h.1 k (by omega) (by omega))
  rw [show (4 * n).toNat + (24 - (4 * n).toNat) = 24 by omega, h.2] at e
  exact e.symm
theorem ERl.U {n L : Int} {P F m : Nat → Int} (h : ERl n P L F m) (z : ZR n m) (hn : 0 ≤ n ∧ n ≤ 6) (hR : 1 ≤ m 24) : gF P L (4 * n).toNat * m 24 = L := gF_U h.1.1 hR (fun k hk => h.2.1 k (by omega)) (z.n hn hR)
/-- a spooning keeps the likeness -/
theorem shr_sc {P m : Nat → Int} {R L f g k w : Int} {n : Int} (hP : ∀ j : Nat, (j : Int) < 4 * n → P j * R = m j * L) (hg : 0 ≤ g ∧ g < n) {j : Nat} (hj : (j : Int) < 4 * n) : shr P f g k w j * R = shr m f g k w j * L := by
  have h1 := hP j hj
  have h2 := hP (4 * g.toNat + j % 4) (by omega)
  unfold shr
  have e1 : P j * f * R = m j * f * L := by rw [Int.mul_right_comm, h1, Int.mul_right_comm]
  have e2 : P j * w * R = m j * w * L := by rw [Int.mul_right_comm, h1, Int.mul_right_comm]
  have e3 : P (4 * g.toNat + j % 4) * w * R = m (4 * g.toNat + j % 4) * w * L := by rw [Int.mul_right_comm, h2, Int.mul_right_comm]
  rw [Int.add_mul, Int.sub_mul, Int.add_mul, Int.sub_mul, e1]
  split <;> split <;> simp only [Int.zero_mul, e2, e3]
theorem shr_0 {m : Nat → Int} {f g k w n : Int} (h0 : ∀ j : Nat, 4 * n ≤ (j : Int) → j < 24 → m j = 0) (hg : g < n) (hk : k < n) {j : Nat} (h1 : 4 * n ≤ (j : Int)) (h2 : j < 24) : shr m f g k w j = 0 := by
  unfold shr
  rw [h0 j h1 h2, if_neg (by omega), if_neg (by omega)]
  omega
theorem shr_sm {m : Nat → Int} {f g k w : Int} {i : Nat} (hg : 0 ≤ g) (hgk : g ≠ k) : sm4 (shr m f g k w) i = if (i : Int) = g then sm4 m i * (f - w) else if (i : Int) = k then sm4 m i * f + sm4 m g.toNat * w else sm4 m i * f := by
  have a : ∀ s : Nat, s < 4 → shr m f g k w (4 * i + s) = m (4 * i + s) * f - (if (i : Int) = g then m (4 * i + s) * w else 0) + (if (i : Int) = k then m (4 * g.toNat + s) * w else 0) := by
    intro s hs
    unfold shr
    rw [show (((4 * i + s : Nat) : Int) / 4) = (i : Int) by omega, show (4 * i + s) % 4 = s by omega]
  have a0 := a 0 (by omega)
  rw [Nat.add_zero, Nat.add_zero] at a0
  unfold sm4
  rw [a0, a 1 (by omega), a 2 (by omega), a 3 (by omega)]
  by_cases c1 : (i : Int) = g
  · rw [if_pos c1, if_pos c1, if_pos c1, if_pos c1, if_pos c1, if_neg (by omega), if_neg (by omega), if_neg (by omega), if_neg (by omega), Int.mul_sub, Int.add_mul, Int.add_mul, Int.add_mul, Int.add_mul, Int.add_mul, Int.add_mul]
    omega
  · rw [if_neg c1, if_neg c1, if_neg c1, if_neg c1, if_neg c1]
    by_cases c2 : (i : Int) = k
    · rw [if_pos c2, if_pos c2, if_pos c2, if_pos c2, if_pos c2, Int.add_mul, Int.add_mul, Int.add_mul, Int.add_mul, Int.add_mul, Int.add_mul]
      omega
    · rw [if_neg c2, if_neg c2, if_neg c2, if_neg c2, if_neg c2, Int.add_mul, Int.add_mul, Int.add_mul]
      omega
theorem CS {n P L F Z m z g k w r r' P1 L1 F1 m1} (hn : 0 ≤ n ∧ n ≤ 6) (er : ERl n P L F m) (zr : ZR n m) (pi : PI m) (hz : ∀ j : Nat, (j : Int) < n → Z j = z j) (hg : 0 ≤ g ∧ g < n) (hk : k = -1 ∨ (0 ≤ k ∧ k < n)) (hw : 1 ≤ w ∧ w ≤ 60) (c : CARR (CANk n F Z g k w) n P L F g k w r P1 L1 F1) (s : SPO m z g k w r' m1) : r = r' ∧ ERl n P1 L1 F1 m1 ∧ ZR n m1 := by
  have hR := pi.1.1
  have eg : flm m g.toNat = F g.toNat := er.full pi (by omega)
  have ek : (0 ≤ k ∧ k < n) → flm m k.toNat = F k.toNat ∧ Z k.toNat = z k.toNat := fun q => ⟨er.full pi (by omega), hz _ (by omega)⟩
  obtain ⟨c1, c2⟩ := c
  obtain ⟨s1, s2⟩ := s
  rw [eg] at s1 s2
  by_cases can : CANk n F Z g k w
  · have rc : g ≠ k ∧ w ≤ F g.toNat ∧ (k = -1 ∨ w ≤ z k.toNat - flm m k.toNat) := by
      obtain ⟨-, b1, -, b2, b3⟩ := can
      refine ⟨b1, b2, ?_⟩
      rcases b3 with b | ⟨b, d⟩
      · exact Or.inl b
      · have := ek b; right; omega
    have fb := er.fb pi hn.2 (g := g.toNat) (by omega)
    have hf1 : 1 ≤ F g.toNat := by have := rc.2.1; omega
    have hRf : 1 ≤ m 24 * F g.toNat := by
      have := Int.mul_le_mul hR hf1 (by omega) (by omega)
      omega
    have hLf : 1 ≤ L * F g.toNat := by
      have := Int.mul_le_mul er.1.1 hf1 (by omega) (by have := er.1; omega)
      omega
    have prop : ∀ j : Nat, (j : Int) < 4 * n → shr P (F g.toNat) g k w j * (m 24 * F g.toNat) = shr m (F g.toNat) g k w j * (L * F g.toNat) := fun j hj => by
      rw [← Int.mul_assoc, shr_sc er.2.1 hg hj, Int.mul_assoc]
    -- the reference's row in lowest terms
    have low : ∀ (x : Nat → Int) (d : Int), d = gF (shr m (F g.toNat) g k w) (m 24 * F g.toNat) 24 → (∀ j : Nat, j < 24 → shr m (F g.toNat) g k w j = x j * d) → m 24 * F g.toNat = x 24 * d → 1 ≤ d ∧ 1 ≤ x 24 ∧ ZR n x := by
      intro x d hd hx h24
      have d1 := gF_pos (p := shr m (F g.toNat) g k w) hRf 24
      rw [← hd] at d1
      have x1 : 1 ≤ x 24 := by
        by_cases q : x 24 ≤ 0
        · have := Int.mul_nonpos_of_nonpos_of_nonneg q (show 0 ≤ d by omega)
          omega
        · omega
      refine ⟨d1, x1, fun j h1 h2 => ?_, gF_dv hRf hd.symm hx h24⟩
      have e := hx j h2
      rw [shr_0 zr.1 hg.2 (by omega) h1 h2] at e
      rcases Int.mul_eq_zero.mp e.symm with q | q
      · exact q
      · omega
    rcases c2 can with ⟨x1, ⟨d, y1, y2, y3⟩, x3, x4⟩ | ⟨x1, x2, x3, x4, x5⟩
    · -- the class goes
      have clike : ∀ (x : Nat → Int) (e : Int), 1 ≤ e → (∀ j : Nat, j < 24 → shr m (F g.toNat) g k w j = x j * e) → m 24 * F g.toNat = x 24 * e → ∀ j : Nat, (j : Int) < 4 * n → P1 j * x 24 = x j * L1 := by
        intro x e he hx h24 j hj
        have q := prop j hj
        rw [y2 j hj, hx j (by omega), h24, y3] at q
        refine Int.eq_of_mul_eq_mul_right (a := d * e) (Int.mul_ne_zero (by omega) (by omega)) ?_
        have l1 : P1 j * x 24 * (d * e) = P1 j * d * (x 24 * e) := by ac_rfl
        have l2 : x j * L1 * (d * e) = x j * e * (L1 * d) := by ac_rfl
        rw [l1, l2]
        exact q
      rcases s2 rc with ⟨a1, a2, d', b1, b2, b3⟩ | ⟨a1, a2, a3⟩
      · obtain ⟨d1, e1, zr1⟩ := low m1 d' b1 b2 b3
        refine ⟨by omega, ⟨x3, clike m1 d' d1 b2 b3, fun i hi => ?_⟩, zr1⟩
        have sm := shr_sm (m := m) (f := F g.toNat) (k := k) (w := w) (i := i) hg.1 rc.1
        have sl : sm4 (shr m (F g.toNat) g k w) i = sm4 m1 i * d' := by
          unfold sm4
          rw [b2 _ (by omega), b2 _ (by omega), b2 _ (by omega), b2 _ (by omega), Int.add_mul, Int.add_mul, Int.add_mul]
        refine Int.eq_of_mul_eq_mul_right (a := d') (by omega) ?_
        rw [← sl, sm, Int.mul_assoc, ← b3, x4]
        have fi := er.2.2 i hi
        have fg := er.2.2 g.toNat (by omega)
        unfold shF
        by_cases c1 : (i : Int) = g
        · have : i = g.toNat := by omega
          subst this
          rw [if_pos c1, if_pos c1, ← fi]
          ac_rfl
        · rw [if_neg c1, if_neg c1]
          by_cases c2 : (i : Int) = k
          · rw [if_pos c2, if_pos c2, ← fi, ← fg, Int.add_mul]
            have t1 : F i * (m 24 * F g.toNat) = F i * m 24 * F g.toNat := by ac_rfl
            have t2 : w * (m 24 * F g.toNat) = F g.toNat * m 24 * w := by ac_rfl
            rw [t1, t2]
          · rw [if_neg c2, if_neg c2, ← fi]
            ac_rfl
      · -- the reference can't: no
        exfalso
        have d1 := gF_pos (p := shr m (F g.toNat) g k w) hRf 24
        have dv := gF_dvd (p := shr m (F g.toNat) g k w) (d := m 24 * F g.toNat) 24
        let x : Nat → Int := fun j => if j = 24 then (m 24 * F g.toNat) / gF (shr m (F g.toNat) g k w) (m 24 * F g.toNat) 24 else shr m (F g.toNat) g k w j / gF (shr m (F g.toNat) g k w) (m 24 * F g.toNat) 24
        have hx : ∀ j : Nat, j < 24 → shr m (F g.toNat) g k w j = x j * gF (shr m (F g.toNat) g k w) (m 24 * F g.toNat) 24 := fun j hj => by
          show _ = (if j = 24 then _ else _) * _
          rw [if_neg (by omega), Int.ediv_mul_cancel (dv.2 j hj)]
        have h24 : m 24 * F g.toNat = x 24 * gF (shr m (F g.toNat) g k w) (m 24 * F g.toNat) 24 := by
          show _ = (if 24 = 24 then _ else _) * _
          rw [if_pos rfl, Int.ediv_mul_cancel dv.1]
        obtain ⟨-, e1, zr1⟩ := low x _ rfl hx h24
        have u := gF_U (p := P1) (q := x) (L := L1) (R := x 24) (j := (4 * n).toNat) x3.1 e1 (fun j hj => clike x _ d1 hx h24 j (by omega)) (zr1.n hn e1)
        have g1 := gF_pos (p := P1) x3.1 (4 * n).toNat
        have q1 : 1 * x 24 ≤ gF P1 L1 (4 * n).toNat * x 24 := Int.mul_le_mul_of_nonneg_right g1 (by omega)
        have q2 : x 24 ≤ 100000000000000 := by omega
        have q3 : x 24 * gF (shr m (F g.toNat) g k w) (m 24 * F g.toNat) 24 ≤ 100000000000000 * gF (shr m (F g.toNat) g k w) (m 24 * F g.toNat) 24 := Int.mul_le_mul_of_nonneg_right q2 (by omega)
        omega
    · -- the class has no room
      rw [x2, x3, x4]
      rcases s2 rc with ⟨a1, a2, d', b1, b2, b3⟩ | ⟨a1, a2, a3⟩
      · exfalso
        obtain ⟨d1, e1, zr1⟩ := low m1 d' b1 b2 b3
        have u := gF_U (p := shr P (F g.toNat) g k w) (q := m1) (L := L * F g.toNat) (R := m1 24) (j := (4 * n).toNat) hLf e1 (fun j hj => by
          have q := prop j (by omega)
          rw [b2 j (by omega), b3] at q
          refine Int.eq_of_mul_eq_mul_right (a := d') (by omega) ?_
          rw [Int.mul_assoc, q]
          ac_rfl) (zr1.n hn e1)
        have g1 := gF_pos (p := shr P (F g.toNat) g k w) hLf (4 * n).toNat
        have q3 : gF (shr P (F g.toNat) g k w) (L * F g.toNat) (4 * n).toNat * m1 24 ≤ gF (shr P (F g.toNat) g k w) (L * F g.toNat) (4 * n).toNat * 100000000000000 := Int.mul_le_mul_of_nonneg_left a2 (by omega)
        omega
      · exact ⟨by omega, er.cg hn.2 a2, zr.cg a2⟩
  · obtain ⟨x1, x2, x3, x4⟩ := c1 can
    have rc : ¬ (g ≠ k ∧ w ≤ F g.toNat ∧ (k = -1 ∨ w ≤ z k.toNat - flm m k.toNat)) := fun ⟨b1, b2, b3⟩ => can ⟨hw, b1, hg, b2, by
      rcases b3 with b | b
      · exact Or.inl b
      · rcases hk with q | q
        · exact Or.inl q
        · have := ek q; right; exact ⟨q, by omega⟩⟩
    obtain ⟨y1, y2⟩ := s1 rc
    rw [x2, x3, x4]
    exact ⟨by omega, er.cg hn.2 y2, zr.cg y2⟩
