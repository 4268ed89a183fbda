/-! tokens -/
/-- a word's worth: its letters to base 32; -1 beyond ten -/
def wv (T : Nat → Int) (s : Nat) : Nat → Int
  | 0 => 0
  | n + 1 => if n < 10 then wv T s n * 32 + T (s + n) - 96 else -1
/-- a number's worth: it grows no more beyond a million -/
def nv (T : Nat → Int) (s : Nat) : Nat → Int
  | 0 => 0
  | n + 1 => if 1000000 < nv T s n then nv T s n else nv T s n * 10 + T (s + n) - 48
theorem wv_cg {T U : Nat → Int} {s u : Nat} : ∀ n : Nat, (∀ k, k < n → T (s + k) = U (u + k)) → wv T s n = wv U u n
  | 0, _ => rfl
  | n + 1, h => by
    unfold wv
    rw [wv_cg n (fun k hk => h k (by omega)), h n (by omega)]
theorem wv_b {T : Nat → Int} {s : Nat} : ∀ n : Nat, n ≤ 10 → (∀ k, k < n → 97 ≤ T (s + k) ∧ T (s + k) ≤ 122) → 0 ≤ wv T s n ∧ (0 < n → 0 < wv T s n)
  | 0, _, _ => ⟨Int.le_refl 0, fun z => absurd z (by omega)⟩
  | n + 1, h, hl => by
    have ih := wv_b n (by omega) (fun k hk => hl k (by omega))
    have hn := hl n (by omega)
    unfold wv
    rw [if_pos (by omega)]
    omega
theorem wv_in {T U : Nat → Int} {s u : Nat} : ∀ n m : Nat, n ≤ 10 → m ≤ 10 → (∀ k, k < n → 97 ≤ T (s + k) ∧ T (s + k) ≤ 122) → (∀ k, k < m → 97 ≤ U (u + k) ∧ U (u + k) ≤ 122) → wv T s n = wv U u m → n = m ∧ ∀ k, k < n → T (s + k) = U (u + k)
  | 0, 0, _, _, _, _, _ => ⟨rfl, fun k hk => absurd hk (by omega)⟩
  | 0, m + 1, _, hm, _, hU, e => by
    have := (wv_b (m + 1) hm hU).2 (by omega)
    have e' : (0 : Int) = wv U u (m + 1) := e
    omega
  | n + 1, 0, hn, _, hT, _, e => by
    have := (wv_b (n + 1) hn hT).2 (by omega)
    have e' : wv T s (n + 1) = 0 := e
    omega
  | n + 1, m + 1, hn, hm, hT, hU, e => by
    have a1 := hT n (by omega)
    have b1 := hU m (by omega)
    unfold wv at e
    rw [if_pos (by omega), if_pos (by omega)] at e
    obtain ⟨i1, i2⟩ := wv_in n m (by omega) (by omega) (fun k hk => hT k (by omega)) (fun k hk => hU k (by omega)) (by omega)
    subst i1
    refine ⟨rfl, fun k hk => ?_⟩
    by_cases c : k = n
    · subst c; omega
    · exact i2 k (by omega)
theorem wv_far {T : Nat → Int} {s n : Nat} (h : 11 ≤ n) : wv T s n = -1 := by
  cases n with
  | zero => omega
  | succ n =>
    unfold wv
    rw [if_neg (by omega)]
theorem nv_b {T : Nat → Int} {s : Nat} : ∀ n : Nat, (∀ k, k < n → 48 ≤ T (s + k) ∧ T (s + k) ≤ 57) → 0 ≤ nv T s n ∧ nv T s n ≤ 10000009
  | 0, _ => ⟨Int.le_refl 0, by show (0 : Int) ≤ _; omega⟩
  | n + 1, h => by
    have ih := nv_b n (fun k hk => h k (by omega))
    have hn := h n (by omega)
    unfold nv
    split <;> omega
/-- the class's value of a number against its worth -/
def cap (v w : Int) : Prop := (w ≤ 1000 → v = w) ∧ (1000 < w → v = 1001)
theorem cap.s {T : Nat → Int} {s n : Nat} {v d v' : Int} (h : cap v (nv T s n)) (h0 : 0 ≤ nv T s n) (hd : d = T (s + n)) (hr : 48 ≤ d ∧ d ≤ 57) (hv : v' = if v * 10 + d - 48 < 1001 then v * 10 + d - 48 else 1001) : cap v' (nv T s (n + 1)) := by
  unfold cap at h ⊢
  unfold nv
  rw [← hd]
  by_cases c : nv T s n ≤ 1000
  · have := h.1 c
    rw [if_neg (by omega)]
    rw [hv]
    refine ⟨fun z => ?_, fun z => ?_⟩
    · rw [if_pos (by omega)]; omega
    · rw [if_neg (by omega)]
  · have := h.2 (by omega)
    rw [hv, if_neg (show ¬ v * 10 + d - 48 < 1001 by omega)]
    refine ⟨fun z => ?_, fun _ => rfl⟩
    split at z <;> omega
def kdO (b : Int) : Int := if 97 ≤ b ∧ b ≤ 122 then 1 else if 48 ≤ b ∧ b ≤ 57 then 2 else 3
/-- a token from s to e, of kind k, worth w -/
def isTk (T : Nat → Int) (n : Int) (k w s e : Int) : Prop := 0 ≤ s ∧ s < e ∧ e ≤ n ∧ T s.toNat ≠ 32 ∧ k = kdO (T s.toNat) ∧
  (k = 3 → e = s + 1 ∧ w = T s.toNat) ∧
  (k = 1 → (∀ j : Nat, s ≤ j → (j : Int) < e → 97 ≤ T j ∧ T j ≤ 122) ∧ (e < n → ¬ (97 ≤ T e.toNat ∧ T e.toNat ≤ 122)) ∧ w = wv T s.toNat (e - s).toNat) ∧
  (k = 2 → (∀ j : Nat, s ≤ j → (j : Int) < e → 48 ≤ T j ∧ T j ≤ 57) ∧ (e < n → ¬ (48 ≤ T e.toNat ∧ T e.toNat ≤ 57)) ∧ w = nv T s.toNat (e - s).toNat)
def isSk (T : Nat → Int) (n p q : Int) : Prop := p ≤ q ∧ q ≤ n ∧ (∀ j : Nat, p ≤ j → (j : Int) < q → T j = 32) ∧ (q < n → T q.toNat ≠ 32)
/-- the stream: m tokens, then the end -/
def TZ (T : Nat → Int) (n : Int) (K W S E : Nat → Int) (m : Nat) : Prop :=
  (∀ i : Nat, i < m → isTk T n (K i) (W i) (S i) (E i)) ∧ (K m = 0 ∧ S m = n) ∧ isSk T n 0 (S 0) ∧ ∀ i : Nat, i < m → isSk T n (E i) (S (i + 1))
theorem isSk.det {T : Nat → Int} {n p q q' : Int} (h0 : 0 ≤ p) (h : isSk T n p q) (g : isSk T n p q') : q = q' := by
  obtain ⟨h1, h2, h3, h4⟩ := h
  obtain ⟨g1, g2, g3, g4⟩ := g
  by_cases c : q < q'
  · have := g3 q.toNat (by omega) (by omega)
    exact absurd this (h4 (by omega))
  · by_cases d : q' < q
    · have := h3 q'.toNat (by omega) (by omega)
      exact absurd this (g4 (by omega))
    · omega
theorem isTk.det {T : Nat → Int} {n k k' w w' s e e' : Int} (h : isTk T n k w s e) (g : isTk T n k' w' s e') : k = k' ∧ w = w' ∧ e = e' := by
  obtain ⟨h1, h2, h3, h4, h5, h6, h7, h8⟩ := h
  obtain ⟨g1, g2, g3, g4, g5, g6, g7, g8⟩ := g
  have ek : k = k' := by rw [h5, g5]
  subst ek
  have hk : k = 1 ∨ k = 2 ∨ k = 3 := by
    rw [h5]
    unfold kdO
    split
    · omega
    · split <;> omega
  rcases hk with c | c | c
  · obtain ⟨a1, a2, a3⟩ := h7 c
    obtain ⟨b1, b2, b3⟩ := g7 c
    have ee : e = e' := by
      by_cases x : e < e'
      · have := b1 e.toNat (by omega) (by omega)
        exact absurd this (a2 (by omega))
      · by_cases y : e' < e
        · have := a1 e'.toNat (by omega) (by omega)
          exact absurd this (b2 (by omega))
        · omega
    subst ee
    exact ⟨rfl, by rw [a3, b3], rfl⟩
  · obtain ⟨a1, a2, a3⟩ := h8 c
    obtain ⟨b1, b2, b3⟩ := g8 c
    have ee : e = e' := by
      by_cases x : e < e'
      · have := b1 e.toNat (by omega) (by omega)
        exact absurd this (a2 (by omega))
      · by_cases y : e' < e
        · have := a1 e'.toNat (by omega) (by omega)
          exact absurd this (b2 (by omega))
        · omega
    subst ee
    exact ⟨rfl, by rw [a3, b3], rfl⟩
  · obtain ⟨a1, a2⟩ := h6 c
    obtain ⟨b1, b2⟩ := g6 c
    exact ⟨rfl, by omega, by omega⟩
