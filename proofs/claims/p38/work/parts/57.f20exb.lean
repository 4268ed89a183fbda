/-! numbers that both sides reckon alike -/
/-- how far Euclid's steps are -/
def EU (i : Nat) (u v : Int) : Prop := 0 ≤ u ∧ 0 ≤ v ∧ u ≤ 9223372036854775807 ∧ v ≤ 9223372036854775807 ∧ (1 ≤ i → v < u ∧ u * v * 2 ^ (i - 1) < 85070591730234615865843651857942052864)
theorem EU.init {a b : Int} (ha : inL a) (hb : inL b) (pa : 0 ≤ a) (pb : 0 ≤ b) : EU (Int.toNat 0) a b := ⟨pa, pb, ha.2, hb.2, fun h => absurd h (by decide)⟩
theorem EU.step {i : Nat} {u v : Int} (h : EU i u v) (hv : v ≠ 0) : EU (i + 1) v (u.tmod v) := by
  obtain ⟨h1, h2, h3, h4, h5⟩ := h
  have hv' : 0 < v := by omega
  have e : u.tmod v = u % v := Int.tmod_eq_emod_of_nonneg h1
  have m1 : 0 ≤ u % v := Int.emod_nonneg u hv
  have m2 : u % v < v := Int.emod_lt_of_pos u hv'
  rw [e]
  refine ⟨h2, m1, h4, by omega, fun _ => ⟨m2, ?_⟩⟩
  rw [Nat.add_sub_cancel]
  cases i with
  | zero =>
    have q : v * (u % v) ≤ 9223372036854775807 * 9223372036854775807 := Int.mul_le_mul h4 (by omega) m1 (by omega)
    rw [Int.pow_zero, Int.mul_one]
    omega
  | succ i =>
    obtain ⟨h6, h7⟩ := h5 (by omega)
    rw [Nat.add_sub_cancel] at h7
    have q1 : 1 ≤ u / v := Int.le_ediv_of_mul_le hv' (by omega)
    have q2 := Int.emod_add_mul_ediv u v
    have q3 : v * 1 ≤ v * (u / v) := Int.mul_le_mul_of_nonneg_left q1 (by omega)
    have q4 : 2 * (u % v) ≤ u := by omega
    have q5 : v * (2 * (u % v)) ≤ v * u := Int.mul_le_mul_of_nonneg_left q4 (by omega)
    have p : (0 : Int) < 2 ^ i := Int.pow_pos (by decide)
    have q6 : v * (2 * (u % v)) * 2 ^ i ≤ v * u * 2 ^ i := Int.mul_le_mul_of_nonneg_right q5 (by omega)
    have q7 : v * (u % v) * 2 ^ (i + 1) = v * (2 * (u % v)) * 2 ^ i := by rw [Int.pow_succ]; ac_rfl
    have q8 : u * v * 2 ^ i = v * u * 2 ^ i := by ac_rfl
    omega
theorem EU.last {i : Nat} {u v : Int} (h : EU i u v) (hi : i = 200) : v = 0 := by
  obtain ⟨h1, h2, h3, h4, h5⟩ := h
  obtain ⟨h6, h7⟩ := h5 (by omega)
  rw [hi] at h7
  by_cases hv : v = 0
  · exact hv
  · have q1 : u * 1 ≤ u * v := Int.mul_le_mul_of_nonneg_left (by omega) h1
    have q2 : 1 * 2 ^ 199 ≤ u * v * 2 ^ 199 := Int.mul_le_mul_of_nonneg_right (by omega) (by decide)
    have q3 : (85070591730234615865843651857942052864 : Int) < 1 * 2 ^ 199 := by decide
    have h8 : u * v * 2 ^ 199 < 85070591730234615865843651857942052864 := h7
    exact absurd (Int.lt_of_lt_of_le q3 q2) (Int.not_lt.mpr (Int.le_of_lt h8))
theorem gcdS {u v : Int} (h1 : 0 ≤ u) (h2 : 0 < v) : Int.gcd v (u.tmod v) = Int.gcd u v := by
  obtain ⟨a, rfl⟩ := Int.eq_ofNat_of_zero_le h1
  obtain ⟨b, rfl⟩ := Int.eq_ofNat_of_zero_le (Int.le_of_lt h2)
  show Nat.gcd b (a % b) = Nat.gcd a b
  rw [Nat.gcd_comm a b, Nat.gcd_rec b a, Nat.gcd_comm]
theorem gcdE {u v a b : Int} (hg : Int.gcd u v = Int.gcd a b) (h0 : 0 ≤ u) (hv : v = 0) : u = ((Int.gcd a b : Nat) : Int) := by
  rw [← hg, hv, Int.gcd_zero_right]
  omega
theorem gcd1 {a b : Int} (hb : 1 ≤ b) : 1 ≤ ((Int.gcd a b : Nat) : Int) ∧ ((Int.gcd a b : Nat) : Int) ≤ b := by
  have h := Int.gcd_le_right a (show 0 < b by omega)
  have h2 : Int.gcd a b ≠ 0 := fun z => by
    have := (Int.gcd_eq_zero_iff.mp z).2
    omega
  omega
def fst7 (P : Int → Prop) (r : Int) : Prop := (r = -1 ∧ ∀ k : Int, 0 ≤ k → k ≤ 6 → ¬ P k) ∨ (0 ≤ r ∧ r ≤ 6 ∧ P r ∧ ∀ k : Int, 0 ≤ k → k < r → ¬ P k)
theorem fst7.det {P : Int → Prop} {r s : Int} (h : fst7 P r) (g : fst7 P s) : r = s := by
  rcases h with ⟨h1, h2⟩ | ⟨h1, h2, h3, h4⟩ <;> rcases g with ⟨g1, g2⟩ | ⟨g1, g2, g3, g4⟩
  · omega
  · exact absurd g3 (h2 s g1 g2)
  · exact absurd h3 (g2 r h1 h2)
  · by_cases c1 : r < s
    · exact absurd h3 (g4 r h1 c1)
    · by_cases c2 : s < r
      · exact absurd g3 (h4 s g1 c2)
      · omega
def roP (a b h k : Int) : Prop := (100 * (a - b) ^ k.toNat).bmod 18446744073709551616 ≤ (h * (a + b) ^ k.toNat).bmod 18446744073709551616
def guP (a b h k : Int) : Prop := (100 * (a - b) ^ k.toNat).bmod 18446744073709551616 < (h * a ^ k.toNat).bmod 18446744073709551616
def roQ (a b h r : Int) : Prop := (1 ≤ a ∧ a ≤ 60 ∧ 1 ≤ b ∧ b ≤ a - 1 ∧ 0 ≤ h ∧ h ≤ 100 → fst7 (roP a b h) r) ∧ (¬ (1 ≤ a ∧ a ≤ 60 ∧ 1 ≤ b ∧ b ≤ a - 1 ∧ 0 ≤ h ∧ h ≤ 100) → r = -1)
def guQ (a b h r : Int) : Prop := (1 ≤ a ∧ a ≤ 60 ∧ 0 ≤ b ∧ b ≤ a ∧ 0 ≤ h ∧ h ≤ 100 → fst7 (guP a b h) r) ∧ (¬ (1 ≤ a ∧ a ≤ 60 ∧ 0 ≤ b ∧ b ≤ a ∧ 0 ≤ h ∧ h ≤ 100) → r = -1)
theorem roQ.det {a b h r s : Int} (p : roQ a b h r) (q : roQ a b h s) : r = s := by
  by_cases c : 1 ≤ a ∧ a ≤ 60 ∧ 1 ≤ b ∧ b ≤ a - 1 ∧ 0 ≤ h ∧ h ≤ 100
  · exact (p.1 c).det (q.1 c)
  · rw [p.2 c, q.2 c]
theorem guQ.det {a b h r s : Int} (p : guQ a b h r) (q : guQ a b h s) : r = s := by
  by_cases c : 1 ≤ a ∧ a ≤ 60 ∧ 0 ≤ b ∧ b ≤ a ∧ 0 ≤ h ∧ h ≤ 100
  · exact (p.1 c).det (q.1 c)
  · rw [p.2 c, q.2 c]
/-! choices -/
/-! rinsing -/
