/-! numbers that both sides reckon alike -/
def lowT (u l c : Int) : Int := if c = 0 then u.tdiv (Int.gcd u l) else if c = 1 then l.tdiv (Int.gcd u l) else -1
theorem lowT0 {u l c : Int} (h : c = 0) : lowT u l c = u.tdiv (Int.gcd u l) := by unfold lowT; rw [if_pos h]
theorem lowT1 {u l c : Int} (h : c = 1) : lowT u l c = l.tdiv (Int.gcd u l) := by unfold lowT; rw [if_neg (by omega), if_pos h]
theorem lowTn {u l c : Int} (h : c ≠ 0) (h2 : c ≠ 1) : lowT u l c = -1 := by unfold lowT; rw [if_neg h, if_neg h2]
/-- how far Euclid's steps are -/
def EU (i : Nat) (u v : Int) : Prop := 0 ≤ u ∧ 0 ≤ v ∧ u ≤ 9223372036854775807 ∧ v ≤ 9223372036854775807 ∧ (1 ≤ i → v < u ∧ u * v * 2 ^ (i - 1) < 85070591730234615865843651857942052864)
theorem EU.init {a b : Int} (ha : inL a) (hb : inL b) (pa : 0 ≤ a) (pb : 0 ≤ b) : EU (Int.toNat 0) a b := ⟨pa, pb, ha.2, hb.2, fun h => absurd h (by decide)⟩
theorem EU.step {i : Nat} {u v : Int} (h : EU i u v) (hv : v ≠ 0) : EU (i + 1) v (u.tmod v) := by
  obtain ⟨h1, h2, h3, h4, h5⟩ := h
  have hv' : 0 < v := by omega
  have e : u.tmod v = u % v := Int.tmod_eq_emod_of_nonneg h1
  have m1 : 0 ≤ u % v := Int.emod_nonneg u hv
  have m2 : u % v < v := Int.emod_lt_of_pos u hv'
  rw [e]
  refine ⟨h2, m1, h4, by omega, fun _ => ⟨m2, ?_⟩⟩
  rw [Nat.add_sub_cancel]
  cases i with
  | zero =>
    have q : v * (u % v) ≤ 9223372036854775807 * 9223372036854775807 := Int.mul_le_mul h4 (by omega) m1 (by omega)
    rw [Int.pow_zero, Int.mul_one]
    omega
  | succ i =>
    obtain ⟨h6, h7⟩ := h5 (by omega)
    rw [Nat.add_sub_cancel] at h7
    have q1 : 1 ≤ u / v := Int.le_ediv_of_mul_le hv' (by omega)
    have q2 := Int.emod_add_mul_ediv u v
    have q3 : v * 1 ≤ v * (u / v) := Int.mul_le_mul_of_nonneg_left q1 (by omega)
    have q4 : 2 * (u % v) ≤ u := by omega
    have q5 : v * (2 * (u % v)) ≤ v * u := Int.mul_le_mul_of_nonneg_left q4 (by omega)
    have p : (0 : Int) < 2 ^ i := Int.pow_pos (by decide)
    have q6 : v * (2 * (u % v)) * 2 ^ i ≤ v * u * 2 ^ i := Int.mul_le_mul_of_nonneg_right q5 (by omega)
    have q7 : v * (u % v) * 2 ^ (i + 1) = v * (2 * (u % v)) * 2 ^ i := by rw [Int.pow_succ]; ac_rfl
    have q8 : u * v * 2 ^ i = v * u * 2 ^ i := by ac_rfl
    omega
theorem EU.last {i : Nat} {u v : Int} (h : EU i u v) (hi : i = 200) : v = 0 := by
  obtain ⟨h1, h2, h3, h4, h5⟩ := h
  obtain ⟨h6, h7⟩ := h5 (by omega)
  rw [hi] at h7
  by_cases hv : v = 0
  · exact hv
  · have q1 : u * 1 ≤ u * v := Int.mul_le_mul_of_nonneg_left (by omega) h1
    have q2 : 1 * 2 ^ 199 ≤ u * v * 2 ^ 199 := Int.mul_le_mul_of_nonneg_right (by omega) (by decide)
    have q3 : (85070591730234615865843651857942052864 : Int) < 1 * 2 ^ 199 := by decide
    have h8 : u * v * 2 ^ 199 < 85070591730234615865843651857942052864 := h7
    exact absurd (Int.lt_of_lt_of_le q3 q2) (Int.not_lt.mpr (Int.le_of_lt h8))
theorem gcdS {u v : Int} (h1 : 0 ≤ u) (h2 : 0 < v) : Int.gcd v (u.tmod v) = Int.gcd u v := by
  obtain ⟨a, rfl⟩ := Int.eq_ofNat_of_zero_le h1
  obtain ⟨b, rfl⟩ := Int.eq_ofNat_of_zero_le (Int.le_of_lt h2)
  show Nat.gcd b (a % b) = Nat.gcd a b
  rw [Nat.gcd_comm a b, Nat.gcd_rec b a, Nat.gcd_comm]
theorem gcdE {u v a b : Int} (hg : Int.gcd u v = Int.gcd a b) (h0 : 0 ≤ u) (hv : v = 0) : u = ((Int.gcd a b : Nat) : Int) := by
  rw [← hg, hv, Int.gcd_zero_right]
  omega
theorem gcd1 {a b : Int} (hb : 1 ≤ b) : 1 ≤ ((Int.gcd a b : Nat) : Int) ∧ ((Int.gcd a b : Nat) : Int) ≤ b := by
  have h := Int.gcd_le_right a (show 0 < b by omega)
  have h2 : Int.gcd a b ≠ 0 := fun z => by
    have := (Int.gcd_eq_zero_iff.mp z).2
    omega
  omega
def wrp (x : Int) : Int := x.bmod 18446744073709551616
def bothF (a b n w : Int) : Int := if 1 ≤ a ∧ a ≤ 60 ∧ 1 ≤ b ∧ b ≤ a - 1 ∧ 0 ≤ n ∧ n ≤ 6 then lowT ((a - b) ^ n.toNat) ((a + b) ^ n.toNat) w else -1
theorem bothF_p {a b n w : Int} (h : 1 ≤ a ∧ a ≤ 60 ∧ 1 ≤ b ∧ b ≤ a - 1 ∧ 0 ≤ n ∧ n ≤ 6) : bothF a b n w = lowT ((a - b) ^ n.toNat) ((a + b) ^ n.toNat) w := by unfold bothF; rw [if_pos h]
theorem bothF_n {a b n w : Int} (h : ¬ (1 ≤ a ∧ a ≤ 60 ∧ 1 ≤ b ∧ b ≤ a - 1 ∧ 0 ≤ n ∧ n ≤ 6 ∧ 0 ≤ w ∧ w ≤ 1)) : bothF a b n w = -1 := by
  unfold bothF
  split
  · exact lowTn (by omega) (by omega)
  · rfl
def caskF (a b n w : Int) : Int := if 1 ≤ a ∧ a ≤ 60 ∧ 0 ≤ b ∧ b ≤ a ∧ 0 ≤ n ∧ n ≤ 6 then lowT ((a - b) ^ n.toNat) (a ^ n.toNat) w else -1
theorem caskF_p {a b n w : Int} (h : 1 ≤ a ∧ a ≤ 60 ∧ 0 ≤ b ∧ b ≤ a ∧ 0 ≤ n ∧ n ≤ 6) : caskF a b n w = lowT ((a - b) ^ n.toNat) (a ^ n.toNat) w := by unfold caskF; rw [if_pos h]
theorem caskF_n {a b n w : Int} (h : ¬ (1 ≤ a ∧ a ≤ 60 ∧ 0 ≤ b ∧ b ≤ a ∧ 0 ≤ n ∧ n ≤ 6 ∧ 0 ≤ w ∧ w ≤ 1)) : caskF a b n w = -1 := by
  unfold caskF
  split
  · exact lowTn (by omega) (by omega)
  · rfl
def fst7 (P : Int → Prop) (r : Int) : Prop := (r = -1 ∧ ∀ k : Int, 0 ≤ k → k ≤ 6 → ¬ P k) ∨ (0 ≤ r ∧ r ≤ 6 ∧ P r ∧ ∀ k : Int, 0 ≤ k → k < r → ¬ P k)
theorem fst7.det {P : Int → Prop} {r s : Int} (h : fst7 P r) (g : fst7 P s) : r = s := by
  rcases h with ⟨h1, h2⟩ | ⟨h1, h2, h3, h4⟩ <;> rcases g with ⟨g1, g2⟩ | ⟨g1, g2, g3, g4⟩
  · omega
  · exact absurd g3 (h2 s g1 g2)
  · exact absurd h3 (g2 r h1 h2)
  · by_cases c1 : r < s
    · exact absurd h3 (g4 r h1 c1)
    · by_cases c2 : s < r
      · exact absurd g3 (h4 s g1 c2)
      · omega
def roP (a b h k : Int) : Prop := (100 * (a - b) ^ k.toNat).bmod 18446744073709551616 ≤ (h * (a + b) ^ k.toNat).bmod 18446744073709551616
def guP (a b h k : Int) : Prop := (100 * (a - b) ^ k.toNat).bmod 18446744073709551616 < (h * a ^ k.toNat).bmod 18446744073709551616
def roQ (a b h r : Int) : Prop := (1 ≤ a ∧ a ≤ 60 ∧ 1 ≤ b ∧ b ≤ a - 1 ∧ 0 ≤ h ∧ h ≤ 100 → fst7 (roP a b h) r) ∧ (¬ (1 ≤ a ∧ a ≤ 60 ∧ 1 ≤ b ∧ b ≤ a - 1 ∧ 0 ≤ h ∧ h ≤ 100) → r = -1)
def guQ (a b h r : Int) : Prop := (1 ≤ a ∧ a ≤ 60 ∧ 0 ≤ b ∧ b ≤ a ∧ 0 ≤ h ∧ h ≤ 100 → fst7 (guP a b h) r) ∧ (¬ (1 ≤ a ∧ a ≤ 60 ∧ 0 ≤ b ∧ b ≤ a ∧ 0 ≤ h ∧ h ≤ 100) → r = -1)
theorem roQ.det {a b h r s : Int} (p : roQ a b h r) (q : roQ a b h s) : r = s := by
  by_cases c : 1 ≤ a ∧ a ≤ 60 ∧ 1 ≤ b ∧ b ≤ a - 1 ∧ 0 ≤ h ∧ h ≤ 100
  · exact (p.1 c).det (q.1 c)
  · rw [p.2 c, q.2 c]
theorem guQ.det {a b h r s : Int} (p : guQ a b h r) (q : guQ a b h s) : r = s := by
  by_cases c : 1 ≤ a ∧ a ≤ 60 ∧ 0 ≤ b ∧ b ≤ a ∧ 0 ≤ h ∧ h ≤ 100
  · exact (p.1 c).det (q.1 c)
  · rw [p.2 c, q.2 c]
theorem ro_n {a b h : Int} (c : ¬ (1 ≤ a ∧ a ≤ 60 ∧ 1 ≤ b ∧ b ≤ a - 1 ∧ 0 ≤ h ∧ h ≤ 100)) : roQ a b h (-1) := ⟨fun z => absurd z c, fun _ => rfl⟩
theorem gu_n {a b h : Int} (c : ¬ (1 ≤ a ∧ a ≤ 60 ∧ 0 ≤ b ∧ b ≤ a ∧ 0 ≤ h ∧ h ≤ 100)) : guQ a b h (-1) := ⟨fun z => absurd z c, fun _ => rfl⟩
theorem ro_e {a b h i : Int} (c : 1 ≤ a ∧ a ≤ 60 ∧ 1 ≤ b ∧ b ≤ a - 1 ∧ 0 ≤ h ∧ h ≤ 100) (hi : 6 < i) (hP : ∀ k : Int, 0 ≤ k → k < i → ¬ roP a b h k) : roQ a b h (-1) := ⟨fun _ => Or.inl ⟨rfl, fun k h0 h1 => hP k h0 (by omega)⟩, fun z => absurd c z⟩
theorem gu_e {a b h i : Int} (c : 1 ≤ a ∧ a ≤ 60 ∧ 0 ≤ b ∧ b ≤ a ∧ 0 ≤ h ∧ h ≤ 100) (hi : 6 < i) (hP : ∀ k : Int, 0 ≤ k → k < i → ¬ guP a b h k) : guQ a b h (-1) := ⟨fun _ => Or.inl ⟨rfl, fun k h0 h1 => hP k h0 (by omega)⟩, fun z => absurd c z⟩
theorem ro_y {a b h i v1 v2 z1 z2 : Int} (c : 1 ≤ a ∧ a ≤ 60 ∧ 1 ≤ b ∧ b ≤ a - 1 ∧ 0 ≤ h ∧ h ≤ 100) (hi : 0 ≤ i ∧ i ≤ 6) (hP : ∀ k : Int, 0 ≤ k → k < i → ¬ roP a b h k) (e1 : z1 = (a - b) ^ i.toNat) (e2 : z2 = (a + b) ^ i.toNat) (f1 : v1 = (100 * z1).bmod 18446744073709551616) (f2 : v2 = (h * z2).bmod 18446744073709551616) (hc : v1 ≤ v2) : roQ a b h i :=
  ⟨fun _ => Or.inr ⟨hi.1, hi.2, by unfold roP; rw [← e1, ← e2, ← f1, ← f2]; exact hc, hP⟩, fun z => absurd c z⟩
theorem gu_y {a b h i v1 v2 z1 z2 : Int} (c : 1 ≤ a ∧ a ≤ 60 ∧ 0 ≤ b ∧ b ≤ a ∧ 0 ≤ h ∧ h ≤ 100) (hi : 0 ≤ i ∧ i ≤ 6) (hP : ∀ k : Int, 0 ≤ k → k < i → ¬ guP a b h k) (e1 : z1 = (a - b) ^ i.toNat) (e2 : z2 = a ^ i.toNat) (f1 : v1 = (100 * z1).bmod 18446744073709551616) (f2 : v2 = (h * z2).bmod 18446744073709551616) (hc : v1 < v2) : guQ a b h i :=
  ⟨fun _ => Or.inr ⟨hi.1, hi.2, by unfold guP; rw [← e1, ← e2, ← f1, ← f2]; exact hc, hP⟩, fun z => absurd c z⟩
theorem ro_m {a b h i v1 v2 z1 z2 : Int} (hP : ∀ k : Int, 0 ≤ k → k < i → ¬ roP a b h k) (e1 : z1 = (a - b) ^ i.toNat) (e2 : z2 = (a + b) ^ i.toNat) (f1 : v1 = (100 * z1).bmod 18446744073709551616) (f2 : v2 = (h * z2).bmod 18446744073709551616) (hc : v2 < v1) : ∀ k : Int, 0 ≤ k → k < i + 1 → ¬ roP a b h k := by
  intro k h0 h1
  by_cases g : k < i
  · exact hP k h0 g
  · have : k = i := by omega
    subst this
    unfold roP
    rw [← e1, ← e2, ← f1, ← f2]
    omega
theorem gu_m {a b h i v1 v2 z1 z2 : Int} (hP : ∀ k : Int, 0 ≤ k → k < i → ¬ guP a b h k) (e1 : z1 = (a - b) ^ i.toNat) (e2 : z2 = a ^ i.toNat) (f1 : v1 = (100 * z1).bmod 18446744073709551616) (f2 : v2 = (h * z2).bmod 18446744073709551616) (hc : v2 ≤ v1) : ∀ k : Int, 0 ≤ k → k < i + 1 → ¬ guP a b h k := by
  intro k h0 h1
  by_cases g : k < i
  · exact hP k h0 g
  · have : k = i := by omega
    subst this
    unfold guP
    rw [← e1, ← e2, ← f1, ← f2]
    omega
/-! choices -/
def chL (n k : Int) : Nat → Int
  | 0 => 1
  | i + 1 => ((chL n k i * (n - k + ((i : Int) + 1))).bmod 18446744073709551616).tdiv ((i : Int) + 1) |>.bmod 18446744073709551616
def chF (n k : Int) : Int := if n < k then 0 else chL n k k.toNat
theorem chF_0 {n k : Int} (h : n < k) : chF n k = 0 := by unfold chF; rw [if_pos h]
theorem chF_l {n k i res : Int} (h : ¬ n < k) (hi : i = k + 1) (hr : res = chL n k (i - 1).toNat) : res = chF n k := by
  unfold chF; rw [if_neg h, hr, hi, show k + 1 - 1 = k by omega]
theorem ch_s {n k i res n1 n2 : Int} (hi : 1 ≤ i) (hr : res = chL n k (i - 1).toNat) (e1 : n1 = (res * (n - k + i)).bmod 18446744073709551616) (e2 : n2 = (n1.tdiv i).bmod 18446744073709551616) : n2 = chL n k (i + 1 - 1).toNat := by
  rw [show (i + 1 - 1).toNat = (i - 1).toNat + 1 by omega]
  show n2 = (((chL n k (i - 1).toNat * (n - k + (((i - 1).toNat : Int) + 1))).bmod 18446744073709551616).tdiv (((i - 1).toNat : Int) + 1)).bmod 18446744073709551616
  rw [← hr, show (((i - 1).toNat : Int) + 1) = i by omega, ← e1]
  exact e2
def cardF (a b c j w : Int) : Int := if 0 ≤ a ∧ a ≤ 20 ∧ 0 ≤ b ∧ b ≤ 20 ∧ 0 ≤ c ∧ c ≤ a ∧ 0 ≤ j ∧ j ≤ c ∧ 0 ≤ w ∧ w ≤ 1 then (if w = 1 then (chF a c * chF (b + c) c).bmod 18446744073709551616 else (chF a c * chF c j * chF b j).bmod 18446744073709551616) else -1
theorem cardF_n {a b c j w : Int} (h : ¬ (0 ≤ a ∧ a ≤ 20 ∧ 0 ≤ b ∧ b ≤ 20 ∧ 0 ≤ c ∧ c ≤ a ∧ 0 ≤ j ∧ j ≤ c ∧ 0 ≤ w ∧ w ≤ 1)) : cardF a b c j w = -1 := by unfold cardF; rw [if_neg h]
theorem cardF_1 {a b c j w z1 z2 n : Int} (h : 0 ≤ a ∧ a ≤ 20 ∧ 0 ≤ b ∧ b ≤ 20 ∧ 0 ≤ c ∧ c ≤ a ∧ 0 ≤ j ∧ j ≤ c ∧ 0 ≤ w ∧ w ≤ 1) (hw : w = 1) (e1 : z1 = chF a c) (e2 : z2 = chF (b + c) c) (en : n = (z1 * z2).bmod 18446744073709551616) : n = cardF a b c j w := by
  unfold cardF; rw [if_pos h, if_pos hw, ← e1, ← e2]; exact en
theorem cardF_x {a b c j w z1 z2 z3 n1 n2 : Int} (h : 0 ≤ a ∧ a ≤ 20 ∧ 0 ≤ b ∧ b ≤ 20 ∧ 0 ≤ c ∧ c ≤ a ∧ 0 ≤ j ∧ j ≤ c ∧ 0 ≤ w ∧ w ≤ 1) (hw : w ≠ 1) (e1 : z1 = chF a c) (e2 : z2 = chF c j) (e3 : z3 = chF b j) (en : n1 = (z1 * z2).bmod 18446744073709551616) (em : n2 = (n1 * z3).bmod 18446744073709551616) : n2 = cardF a b c j w := by
  unfold cardF; rw [if_pos h, if_neg hw, ← e1, ← e2, ← e3, em, en, Int.bmod_mul_bmod]
theorem cardF_m {a b c j w z1 z2 z3 n1 n2 : Int} (h : 0 ≤ a ∧ a ≤ 20 ∧ 0 ≤ b ∧ b ≤ 20 ∧ 0 ≤ c ∧ c ≤ a ∧ 0 ≤ j ∧ j ≤ c ∧ 0 ≤ w ∧ w ≤ 1) (hw : w ≠ 1) (e1 : z1 = chF a c) (e2 : z2 = chF c j) (e3 : z3 = chF b j) (en : n1 = (z2 * z3).bmod 18446744073709551616) (em : n2 = (z1 * n1).bmod 18446744073709551616) : n2 = cardF a b c j w := by
  unfold cardF; rw [if_pos h, if_neg hw, ← e1, ← e2, ← e3, em, en, Int.mul_bmod_bmod, Int.mul_assoc]
/-! rinsing -/
def rinF (a b c w : Int) : Int := if 1 ≤ a ∧ a ≤ 9 ∧ 0 ≤ b ∧ b ≤ 60 ∧ 1 ≤ c ∧ c ≤ 6 ∧ 0 ≤ w ∧ w ≤ 1 + c then (if 2 ≤ w then (if w - 2 < c - b.tmod c then b.tdiv c else b.tdiv c + 1) else lowT (a ^ c.toNat) ((a + b.tdiv c) ^ (c - b.tmod c).toNat * (a + b.tdiv c + 1) ^ (b.tmod c).toNat) w) else -1
theorem rinF_n {a b c w : Int} (h : ¬ (1 ≤ a ∧ a ≤ 9 ∧ 0 ≤ b ∧ b ≤ 60 ∧ 1 ≤ c ∧ c ≤ 6 ∧ 0 ≤ w ∧ w ≤ 1 + c)) : rinF a b c w = -1 := by unfold rinF; rw [if_neg h]
theorem rinF_l {a b c w : Int} (h : 1 ≤ a ∧ a ≤ 9 ∧ 0 ≤ b ∧ b ≤ 60 ∧ 1 ≤ c ∧ c ≤ 6 ∧ 0 ≤ w ∧ w ≤ 1 + c) (h2 : 2 ≤ w) (h3 : w - 2 < c - b.tmod c) : rinF a b c w = b.tdiv c := by unfold rinF; rw [if_pos h, if_pos h2, if_pos h3]
theorem rinF_m {a b c w : Int} (h : 1 ≤ a ∧ a ≤ 9 ∧ 0 ≤ b ∧ b ≤ 60 ∧ 1 ≤ c ∧ c ≤ 6 ∧ 0 ≤ w ∧ w ≤ 1 + c) (h2 : 2 ≤ w) (h3 : ¬ w - 2 < c - b.tmod c) : rinF a b c w = b.tdiv c + 1 := by unfold rinF; rw [if_pos h, if_pos h2, if_neg h3]
theorem rinF_q {a b c w z1 z2 z3 r : Int} (h : 1 ≤ a ∧ a ≤ 9 ∧ 0 ≤ b ∧ b ≤ 60 ∧ 1 ≤ c ∧ c ≤ 6 ∧ 0 ≤ w ∧ w ≤ 1 + c) (h2 : w < 2) (e1 : z1 = a ^ c.toNat) (e2 : z2 = (a + b.tdiv c) ^ (c - b.tmod c).toNat) (e3 : z3 = (a + b.tdiv c + 1) ^ (b.tmod c).toNat) (hr : r = lowT z1 (z2 * z3) w) : r = rinF a b c w := by unfold rinF; rw [if_pos h, if_neg (by omega), ← e1, ← e2, ← e3]; exact hr
