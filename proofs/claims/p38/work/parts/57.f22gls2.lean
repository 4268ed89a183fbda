/-! a Table as it stands in memory -/
def TV (M : Mm) (t a b : Nat) (n : Int) (P : Nat → Int) (L : Int) (F Z : Nat → Int) : Prop := (M t 2 = (a : Int) ∧ M t 3 = (b : Int)) ∧ ((a = t + 3 ∧ b = t + 4) ∨ (a = t + 4 ∧ b = t + 3)) ∧ M t 5 = n ∧ M a = P ∧ M t 4 = L ∧ M (t + 2) = F ∧ M (t + 1) = Z
theorem TV.of {M : Mm} {t : Nat} (h : okT M t) : TV M t (M t 2).toNat (M t 3).toNat (M t 5) (M (M t 2).toNat) (M t 4) (M (t + 2)) (M (t + 1)) := by
  refine ⟨?_, ?_, rfl, rfl, rfl, rfl, rfl⟩
  · rcases h.2.2 with ⟨h1, h2⟩ | ⟨h1, h2⟩ <;> omega
  · rcases h.2.2 with ⟨h1, h2⟩ | ⟨h1, h2⟩ <;> omega
theorem TV.ok {M : Mm} {t a b : Nat} {n L : Int} {P F Z : Nat → Int} (h : TV M t a b n P L F Z) (hn : 0 ≤ n ∧ n ≤ 6) : okT M t := by
  obtain ⟨⟨h2, h3⟩, hab, h5, -⟩ := h
  refine ⟨by omega, by omega, ?_⟩
  rcases hab with ⟨x, y⟩ | ⟨x, y⟩ <;> omega
theorem TV.fr {M M1 : Mm} {t a b : Nat} {n L : Int} {P F Z : Nat → Int} {Q : Nat → Prop} (h : TV M t a b n P L F Z) (f : Fr Q M M1) (h0 : ¬ Q t) (h1 : ¬ Q (t + 1)) (h2 : ¬ Q (t + 2)) (ha : ¬ Q a) : TV M1 t a b n P L F Z := by
  unfold TV
  rw [f t h0, f (t + 1) h1, f (t + 2) h2, f a ha]
  exact h
theorem TV.far {M M1 : Mm} {t a b : Nat} {n L : Int} {P F Z : Nat → Int} {Q : Nat → Prop} (h : TV M t a b n P L F Z) (f : Fr Q M M1) (hq : ∀ c, Q c → ¬ inT t c) : TV M1 t a b n P L F Z := by
  have hab := h.2.1
  refine h.fr f (fun z => hq _ z ?_) (fun z => hq _ z ?_) (fun z => hq _ z ?_) (fun z => hq _ z ?_) <;> (unfold inT; omega)
theorem mulG {x y : Int} (h0 : 0 ≤ x) (h1 : x ≤ 6000000000000000) (h2 : 0 ≤ y) (h3 : y ≤ 60) : 0 ≤ x * y ∧ x * y ≤ 360000000000000000 := by
  refine ⟨Int.mul_nonneg h0 h2, ?_⟩
  have := Int.mul_le_mul h1 h3 h2 (by omega)
  omega
theorem wst {M1 M2 : Mm} {b k : Nat} {i v : Int} {Q : Nat → Int} (h : ∀ j : Nat, (j : Int) < i → M1 b j = Q j) (e : M2 = mu M1 b k v) (hk : k = i.toNat) (h0 : 0 ≤ i) (hv : v = Q i.toNat) : ∀ j : Nat, (j : Int) < i + 1 → M2 b j = Q j := by
  intro j hj
  subst e; subst hk
  by_cases c : j = i.toNat
  · subst c; rw [mu_at]; exact hv
  · rw [mu_ne _ _ (fun _ => c)]; exact h j (by omega)
def shS (P : Nat → Int) (f g k w s : Int) (j : Nat) : Int := P j * f - (if (j : Int) / 4 = g ∧ (j : Int) % 4 < s then P j * w else 0) + (if (j : Int) / 4 = k ∧ (j : Int) % 4 < s then P (4 * g.toNat + j % 4) * w else 0)
theorem shS_0 (P : Nat → Int) (f g k w : Int) (j : Nat) : shS P f g k w 0 j = P j * f := by
  unfold shS
  rw [if_neg (by omega), if_neg (by omega)]
  omega
theorem shS_4 (P : Nat → Int) (f g k w s : Int) (hs : s = 4) (j : Nat) : shS P f g k w s j = shr P f g k w j := by
  unfold shS shr
  subst hs
  by_cases c1 : (j : Int) / 4 = g
  · rw [if_pos ⟨c1, by omega⟩, if_pos c1]
    by_cases c2 : (j : Int) / 4 = k
    · rw [if_pos ⟨c2, by omega⟩, if_pos c2]
    · rw [if_neg (fun z => c2 z.1), if_neg c2]
  · rw [if_neg (fun z => c1 z.1), if_neg c1]
    by_cases c2 : (j : Int) / 4 = k
    · rw [if_pos ⟨c2, by omega⟩, if_pos c2]
    · rw [if_neg (fun z => c2 z.1), if_neg c2]
/-- what lies at a place whose turn it is -/
theorem shS_t {P : Nat → Int} {f g k w s : Int} {j : Nat} (h : (j : Int) % 4 = s) : shS P f g k w s j = P j * f := by
  unfold shS
  rw [if_neg (by omega), if_neg (by omega)]
  omega
theorem shS_u {P : Nat → Int} {f g k w s : Int} {j : Nat} (h : (j : Int) % 4 ≠ s) : shS P f g k w (s + 1) j = shS P f g k w s j := by
  unfold shS
  have e1 : ((j : Int) / 4 = g ∧ (j : Int) % 4 < s + 1) ↔ ((j : Int) / 4 = g ∧ (j : Int) % 4 < s) := by omega
  have e2 : ((j : Int) / 4 = k ∧ (j : Int) % 4 < s + 1) ↔ ((j : Int) / 4 = k ∧ (j : Int) % 4 < s) := by omega
  simp only [e1, e2]
theorem shS_v {P : Nat → Int} {f g k w s : Int} {j : Nat} (h : (j : Int) % 4 = s) : shS P f g k w (s + 1) j = P j * f - (if (j : Int) / 4 = g then P j * w else 0) + (if (j : Int) / 4 = k then P (4 * g.toNat + j % 4) * w else 0) := by
  unfold shS
  have e1 : ((j : Int) / 4 = g ∧ (j : Int) % 4 < s + 1) ↔ ((j : Int) / 4 = g) := by omega
  have e2 : ((j : Int) / 4 = k ∧ (j : Int) % 4 < s + 1) ↔ ((j : Int) / 4 = k) := by omega
  simp only [e1, e2]
theorem shS_m1 {M1 M2 : Mm} {b x : Nat} {P : Nat → Int} {f g k w s n u v : Int} (h : ∀ j : Nat, (j : Int) < 4 * n → M1 b j = shS P f g k w s j) (e : M2 = mu M1 b x (u - v)) (hx : (x : Int) = g * 4 + s) (hs : 0 ≤ s ∧ s < 4) (hg : 0 ≤ g ∧ g < n) (hk : k = -1) (hu : u = M1 b x) (hv : v = P x * w) : ∀ j : Nat, (j : Int) < 4 * n → M2 b j = shS P f g k w (s + 1) j := by
  intro j hj
  subst e
  by_cases c : j = x
  · subst c
    rw [mu_at, shS_v (by omega), if_pos (by omega), if_neg (by omega), hu, h j hj, shS_t (by omega), hv]
    omega
  · rw [mu_ne _ _ (fun _ => c), h j hj]
    by_cases y : (j : Int) % 4 = s
    · rw [shS_v y, shS_t y, if_neg (by omega), if_neg (by omega)]
      omega
    · rw [shS_u y]
theorem shS_m2 {M1 M2 M3 : Mm} {b x y : Nat} {P : Nat → Int} {f g k w s n u v q : Int} (h : ∀ j : Nat, (j : Int) < 4 * n → M1 b j = shS P f g k w s j) (e : M2 = mu M1 b x (u - v)) (e3 : M3 = mu M2 b y (q + v)) (hx : (x : Int) = g * 4 + s) (hy : (y : Int) = k * 4 + s) (hs : 0 ≤ s ∧ s < 4) (hg : 0 ≤ g ∧ g < n) (hk : 0 ≤ k ∧ k < n) (hgk : g ≠ k) (hu : u = M1 b x) (hv : v = P x * w) (hq : q = M2 b y) : ∀ j : Nat, (j : Int) < 4 * n → M3 b j = shS P f g k w (s + 1) j := by
  intro j hj
  subst e3
  by_cases c : j = y
  · subst c
    rw [mu_at, hq, e, mu_ne _ _ (fun _ => by omega), h j hj, shS_t (by omega), shS_v (by omega), if_neg (by omega), if_pos (by omega), hv, show 4 * g.toNat + j % 4 = x by omega]
    omega
  · rw [mu_ne _ _ (fun _ => c), e]
    by_cases c2 : j = x
    · subst c2
      rw [mu_at, shS_v (by omega), if_pos (by omega), if_neg (by omega), hu, h j hj, shS_t (by omega), hv]
      omega
    · rw [mu_ne _ _ (fun _ => c2), h j hj]
      by_cases z : (j : Int) % 4 = s
      · rw [shS_v z, shS_t z, if_neg (by omega), if_neg (by omega)]
        omega
      · rw [shS_u z]
theorem shr_nn {n L : Int} {P F Z : Nat → Int} {g k w : Int} (ct : CT n P L F Z) (hg : 0 ≤ g ∧ g < n) (hw : 1 ≤ w ∧ w ≤ F g.toNat) {j : Nat} (hj : (j : Int) < 4 * n) : 0 ≤ shr P (F g.toNat) g k w j := by
  have p1 := ct.2.2.1 j hj
  have p2 := ct.2.2.1 (4 * g.toNat + j % 4) (by omega)
  have a : 0 ≤ P j * (F g.toNat - w) := Int.mul_nonneg p1 (by omega)
  rw [Int.mul_sub] at a
  have c : 0 ≤ P j * F g.toNat := Int.mul_nonneg p1 (by omega)
  have d : 0 ≤ P (4 * g.toNat + j % 4) * w := Int.mul_nonneg p2 (by omega)
  unfold shr
  split <;> split <;> omega
/-! divisors of a row, step by step -/
theorem gF_end {p : Nat → Int} {x u i N : Int} (hu : u = gF p x i.toNat) (hi : 0 ≤ i ∧ i ≤ N) (h : i = N ∨ u = 1) : u = gF p x N.toNat := by
  rcases h with z | z
  · rw [← z]; exact hu
  · rw [z] at hu
    have := gF_1 hu.symm (N.toNat - i.toNat)
    rw [show i.toNat + (N.toNat - i.toNat) = N.toNat by omega] at this
    rw [z, this]
theorem gF_st {p : Nat → Int} {x u i v r : Int} (hu : u = gF p x i.toNat) (hi : 0 ≤ i) (hv : v = p i.toNat) (hr : r = ((Int.gcd v u : Nat) : Int)) : r = gF p x (i + 1).toNat := by
  rw [show (i + 1).toNat = i.toNat + 1 by omega, hr, hv, hu]
  rfl
/-- a row divided: so far -/
def DVp (A A1 : Nat → Int) (x i n : Int) : Prop := (∀ j : Nat, (j : Int) < i → A j = A1 j * x ∧ 0 ≤ A1 j) ∧ ∀ j : Nat, i ≤ (j : Int) → A1 j = A j
theorem DVp.z (A : Nat → Int) (x n : Int) : DVp A A x 0 n := ⟨fun j hj => by omega, fun j hj => rfl⟩
theorem DVp.s {A A1 A2 : Nat → Int} {x i n v : Int} (h : DVp A A1 x i n) (hi : 0 ≤ i) (hx : 1 ≤ x) (hd : x ∣ A i.toNat) (h0 : 0 ≤ A i.toNat) (hv : v = A1 i.toNat) (e : A2 = ms A1 i.toNat (v.tdiv x)) : DVp A A2 x (i + 1) n := by
  subst e
  have ev : v = A i.toNat := by rw [hv]; exact h.2 _ (by omega)
  have q := dvq hx h0 hd
  refine ⟨fun j hj => ?_, fun j hj => ?_⟩
  · by_cases c : j = i.toNat
    · subst c
      rw [ms_at, ev]
      exact ⟨q.1, q.2.1⟩
    · rw [ms_ne _ _ c]
      exact h.1 j (by omega)
  · rw [ms_ne _ _ (by omega)]
    exact h.2 j (by omega)
def DVD (A A1 : Nat → Int) (x n : Int) : Prop := ∀ j : Nat, (j : Int) < 4 * n → A j = A1 j * x ∧ 0 ≤ A1 j
theorem DVp.e {A A1 : Nat → Int} {x i n : Int} (h : DVp A A1 x i n) (hx : 1 ≤ x) (h0 : ∀ j : Nat, (j : Int) < 4 * n → 0 ≤ A j) (hi : 4 * n ≤ i ∨ x ≤ 1) : DVD A A1 x n := by
  intro j hj
  by_cases c : (j : Int) < i
  · exact h.1 j c
  · have x1 : x = 1 := by omega
    rw [h.2 j (by omega), x1, Int.mul_one]
    exact ⟨rfl, h0 j hj⟩
def szQ (n : Int) (Z : Nat → Int) (g r : Int) : Prop := ((0 ≤ g ∧ g < n) ∧ r = Z g.toNat) ∨ ((g < 0 ∨ n ≤ g) ∧ r = 0)
def tsO (n : Int) (P : Nat → Int) (L : Int) (F : Nat → Int) (g s : Int) : Int := if (0 ≤ g ∧ g < n) ∧ (0 ≤ s ∧ s ≤ 3) ∧ 1 ≤ F g.toNat then (100 * P (g * 4 + s).toNat).tdiv (L * F g.toNat) else 0
theorem tsO_y {n L g s : Int} {P F : Nat → Int} (h : (0 ≤ g ∧ g < n) ∧ (0 ≤ s ∧ s ≤ 3)) (hf : 1 ≤ F g.toNat) : tsO n P L F g s = (100 * P (g * 4 + s).toNat).tdiv (L * F g.toNat) := if_pos ⟨h.1, h.2, hf⟩
theorem tsO_n {n L g s : Int} {P F : Nat → Int} (h : ¬ ((0 ≤ g ∧ g < n) ∧ (0 ≤ s ∧ s ≤ 3) ∧ 1 ≤ F g.toNat)) : tsO n P L F g s = 0 := if_neg h
theorem ts_b {p a : Int} (h0 : 0 ≤ p) (h1 : p ≤ a) (ha : 1 ≤ a) : 0 ≤ (100 * p).tdiv a ∧ (100 * p).tdiv a ≤ 100 := by
  rw [Int.tdiv_eq_ediv_of_nonneg (by omega)]
  refine ⟨Int.ediv_nonneg (by omega) (by omega), ?_⟩
  have := Int.ediv_le_ediv (show 0 < a by omega) (show 100 * p ≤ 100 * a by omega)
  rw [Int.mul_ediv_cancel _ (by omega)] at this
  exact this
def AST (P F : Nat → Int) (g k s : Int) : Prop := P (g * 4 + s).toNat * (if F k.toNat = 0 then 1 else F k.toNat) = P (k * 4 + s).toNat * (if F g.toNat = 0 then 1 else F g.toNat)
theorem CT.p0 {n L : Int} {P F Z : Nat → Int} (h : CT n P L F Z) {g s : Int} (hg : 0 ≤ g ∧ g < n) (hs : 0 ≤ s ∧ s ≤ 3) : 0 ≤ P (g * 4 + s).toNat ∧ P (g * 4 + s).toNat ≤ F g.toNat * L ∧ P (g * 4 + s).toNat ≤ 6000000000000000 := by
  have q := h.pb (k := (g * 4 + s).toNat) (by omega)
  rw [show (g * 4 + s).toNat / 4 = g.toNat by omega] at q
  exact q
theorem AST0 {n L : Int} {P F Z : Nat → Int} {g k s : Int} (ct : CT n P L F Z) (hg : 0 ≤ g ∧ g < n) (hk : 0 ≤ k ∧ k < n) (hs : 0 ≤ s ∧ s ≤ 3) (h : F g.toNat = 0 ∨ F k.toNat = 0) : AST P F g k s ↔ P (g * 4 + s).toNat = P (k * 4 + s).toNat := by
  have a := ct.p0 hg hs
  have b := ct.p0 hk hs
  unfold AST
  by_cases c : F g.toNat = 0
  · rw [c, Int.zero_mul] at a
    rw [if_pos c, show P (g * 4 + s).toNat = 0 by omega, Int.zero_mul, Int.mul_one]
  · have c2 : F k.toNat = 0 := by omega
    rw [c2, Int.zero_mul] at b
    rw [if_pos c2, if_neg c, show P (k * 4 + s).toNat = 0 by omega, Int.zero_mul, Int.mul_one]
