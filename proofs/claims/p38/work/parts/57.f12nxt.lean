/-! the reference's tokens -/
def pw32 : Nat → Int
  | 0 => 1
  | n + 1 => 32 * pw32 n
theorem pw32_b : ∀ n, n < 11 → pw32 n ≤ 1125899906842624 := by decide
theorem wv_u {T : Nat → Int} {s : Nat} : ∀ n : Nat, n ≤ 10 → (∀ k, k < n → 97 ≤ T (s + k) ∧ T (s + k) ≤ 122) → wv T s n + 1 ≤ pw32 n
  | 0, _, _ => by show (0 : Int) + 1 ≤ 1; omega
  | n + 1, h, hl => by
    have ih := wv_u n (by omega) (fun k hk => hl k (by omega))
    have hn := hl n (by omega)
    have e : pw32 (n + 1) = 32 * pw32 n := rfl
    unfold wv
    rw [if_pos (by omega), e]
    omega
def NXT (T : Nat → Int) (n f k w e : Int) : Prop := (f = n → k = 0) ∧ (f < n → T f.toNat ≠ 32 ∧ k = kdO (T f.toNat)) ∧ (0 ≤ f ∧ f ≤ e ∧ e ≤ n) ∧ (k = 3 → e = f + 1 ∧ w = T f.toNat) ∧
  (k = 1 → (∀ j : Nat, f ≤ j → (j : Int) < e → 97 ≤ T j ∧ T j ≤ 122) ∧ w = wv T f.toNat (e - f).toNat) ∧
  (k = 2 → (∀ j : Nat, f ≤ j → (j : Int) < e → 48 ≤ T j ∧ T j ≤ 57) ∧ w = nv T f.toNat (e - f).toNat)
theorem NXT.s0 {T : Nat → Int} {n f k : Int} (h0 : 0 ≤ f) (hn : f ≤ n) (hk : (f = n → k = 0) ∧ (f < n → T f.toNat ≠ 32 ∧ k = kdO (T f.toNat))) (h3 : k ≠ 3) : NXT T n f k 0 f :=
  ⟨hk.1, hk.2, ⟨h0, by omega, hn⟩, fun z => absurd z h3, fun _ => ⟨fun j h1 h2 => by omega, by rw [show (f - f).toNat = 0 by omega]; rfl⟩, fun _ => ⟨fun j h1 h2 => by omega, by rw [show (f - f).toNat = 0 by omega]; rfl⟩⟩
theorem NXT.s3 {T : Nat → Int} {n f w : Int} (h0 : 0 ≤ f) (hn : f < n) (h32 : T f.toNat ≠ 32) (hk : 3 = kdO (T f.toNat)) (hw : w = T f.toNat) : NXT T n f 3 w (f + 1) :=
  ⟨fun z => by omega, fun _ => ⟨h32, hk⟩, ⟨h0, by omega, by omega⟩, fun _ => ⟨rfl, hw⟩, fun z => by omega, fun z => by omega⟩
theorem NXT.word {T : Nat → Int} {n f w e w' : Int} (h : NXT T n f 1 w e) (he : e < n) (ht : 97 ≤ T e.toNat ∧ T e.toNat ≤ 122) (hw : w' = if e - f < 10 then w * 32 + T e.toNat - 96 else -1) : NXT T n f 1 w' (e + 1) := by
  obtain ⟨a, b, c, d, g, i⟩ := h
  obtain ⟨g1, g2⟩ := g rfl
  refine ⟨a, b, ⟨c.1, by omega, by omega⟩, fun z => by omega, fun _ => ⟨fun j h1 h2 => ?_, ?_⟩, fun z => by omega⟩
  · by_cases y : (j : Int) < e
    · exact g1 j h1 y
    · rw [show j = e.toNat by omega]; exact ht
  · rw [show (e + 1 - f).toNat = (e - f).toNat + 1 by omega]
    unfold wv
    rw [hw, g2, show f.toNat + (e - f).toNat = e.toNat by omega]
    by_cases y : e - f < 10
    · rw [if_pos y, if_pos (by omega)]
    · rw [if_neg y, if_neg (by omega)]
theorem NXT.dig {T : Nat → Int} {n f w e w' : Int} (h : NXT T n f 2 w e) (he : e < n) (ht : 48 ≤ T e.toNat ∧ T e.toNat ≤ 57) (hw : w' = if 1000000 < w then w else w * 10 + T e.toNat - 48) : NXT T n f 2 w' (e + 1) := by
  obtain ⟨a, b, c, d, g, i⟩ := h
  obtain ⟨g1, g2⟩ := i rfl
  refine ⟨a, b, ⟨c.1, by omega, by omega⟩, fun z => by omega, fun z => by omega, fun _ => ⟨fun j h1 h2 => ?_, ?_⟩⟩
  · by_cases y : (j : Int) < e
    · exact g1 j h1 y
    · rw [show j = e.toNat by omega]; exact ht
  · rw [show (e + 1 - f).toNat = (e - f).toNat + 1 by omega]
    unfold nv
    rw [hw, g2, show f.toNat + (e - f).toNat = e.toNat by omega]
theorem NXT.k {T : Nat → Int} {n f k w e k' : Int} (h : NXT T n f k w e) (z : k = k') : NXT T n f k' w e := z ▸ h
theorem NXT.wb {T : Nat → Int} {n f w e : Int} (h : NXT T n f 1 w e) (he : e - f < 10) : 0 ≤ w ∧ w ≤ 1125899906842624 := by
  obtain ⟨-, -, c, -, g, -⟩ := h
  obtain ⟨g1, g2⟩ := g rfl
  have hl : ∀ k, k < (e - f).toNat → 97 ≤ T (f.toNat + k) ∧ T (f.toNat + k) ≤ 122 := fun k hk => g1 _ (by omega) (by omega)
  have a := (wv_b (e - f).toNat (by omega) hl).1
  have b := wv_u (e - f).toNat (by omega) hl
  have d := pw32_b (e - f).toNat (by omega)
  rw [g2]
  omega
theorem NXT.nb {T : Nat → Int} {n f w e : Int} (h : NXT T n f 2 w e) : 0 ≤ w ∧ w ≤ 10000009 := by
  obtain ⟨-, -, c, -, -, i⟩ := h
  obtain ⟨g1, g2⟩ := i rfl
  rw [g2]
  exact nv_b _ (fun k hk => g1 _ (by omega) (by omega))
def NXQ (T : Nat → Int) (n p f k w e : Int) : Prop := isSk T n p f ∧ (f < n → isTk T n k w f e) ∧ (f = n → k = 0)
theorem NXT.fin {T : Nat → Int} {n p f k w e : Int} (h : NXT T n f k w e) (hs : isSk T n p f) (x1 : k = 1 → e < n → ¬ (97 ≤ T e.toNat ∧ T e.toNat ≤ 122)) (x2 : k = 2 → e < n → ¬ (48 ≤ T e.toNat ∧ T e.toNat ≤ 57)) : NXQ T n p f k w e ∧ (k ≠ 0 → f < e) ∧ (k = 2 → 0 ≤ w ∧ w ≤ 10000009) ∧ (0 ≤ k ∧ k ≤ 3) := by
  have hnb : k = 2 → 0 ≤ w ∧ w ≤ 10000009 := fun z => (h.k z).nb
  obtain ⟨a, b, c, d, g, i⟩ := h
  have kr : 0 ≤ k ∧ k ≤ 3 := by
    by_cases y : f = n
    · have := a y; omega
    · have q := kdO_c (T f.toNat)
      have := (b (by omega)).2
      omega
  have fe : k ≠ 0 → f < e := fun z => by
    have fn : f < n := by
      by_cases y : f = n
      · exact absurd (a y) z
      · omega
    have q := kdO_c (T f.toNat)
    rw [← (b fn).2] at q
    by_cases y : f < e
    · exact y
    · have ef : e = f := by omega
      rw [ef] at x1 x2 d
      rcases q with q | q | q
      · exact absurd q.2 (x1 q.1 fn)
      · exact absurd q.2 (x2 q.1 fn)
      · have := (d q.1).1; omega
  refine ⟨⟨hs, fun fn => ?_, a⟩, fe, hnb, kr⟩
  have q := kdO_c (T f.toNat)
  rw [← (b fn).2] at q
  exact ⟨c.1, fe (by omega), c.2.2, (b fn).1, (b fn).2, d, fun z => ⟨(g z).1, x1 z, (g z).2⟩, fun z => ⟨(i z).1, x2 z, (i z).2⟩⟩
/-- the token at hand is the i-th -/
def AT (K W S E : Nat → Int) (m : Nat) (M : Mm) (i : Nat) : Prop := i ≤ m ∧ M 97 13 = S i ∧ M 97 15 = K i ∧ (i < m → M 97 14 = E i ∧ M 97 16 = W i) ∧ M 97 17 = -1
def TZM (M : Mm) (K W S E : Nat → Int) (m : Nat) : Prop := TZ (M 106) (M 97 12) K W S E m
theorem TZM.eq {M M1 : Mm} {K W S E : Nat → Int} {m : Nat} (h : TZM M K W S E m) (e0 : M1 106 = M 106) (e1 : M1 97 12 = M 97 12) : TZM M1 K W S E m := by
  unfold TZM
  rw [e0, e1]
  exact h
theorem AT.go {M M1 : Mm} {K W S E : Nat → Int} {m i : Nat} {p : Int} (hz : TZM M K W S E m) (hi : i ≤ m) (hp : 0 ≤ p) (hs : isSk (M 106) (M 97 12) p (S i)) (hq : NXQ (M 106) (M 97 12) p (M1 97 13) (M1 97 15) (M1 97 16) (M1 97 14)) (h17 : M1 97 17 = -1) : AT K W S E m M1 i := by
  obtain ⟨q1, q2, q3⟩ := hq
  have e := isSk.det hp q1 hs
  obtain ⟨z1, ⟨z2, z3⟩, -⟩ := hz
  by_cases y : i < m
  · have t := z1 i y
    have hlt : S i < M 97 12 := by have := t.2.1; have := t.2.2.1; omega
    have d := q2 (by omega)
    rw [e] at d
    obtain ⟨d1, d2, d3⟩ := isTk.det d t
    exact ⟨hi, e, d1, fun _ => ⟨d3, d2⟩, h17⟩
  · have im : i = m := by omega
    subst im
    exact ⟨Nat.le_refl _, e, by rw [q3 (by omega), z2], fun z => absurd z y, h17⟩
theorem AT.nx {M M1 : Mm} {K W S E : Nat → Int} {m i : Nat} (hz : TZM M K W S E m) (h : AT K W S E m M i) (hk : K i ≠ 0) (hq : NXQ (M 106) (M 97 12) (M 97 14) (M1 97 13) (M1 97 15) (M1 97 16) (M1 97 14)) (h17 : M1 97 17 = M 97 17) : AT K W S E m M1 (i + 1) := by
  have hi : i < m := by
    by_cases y : i = m
    · subst y; exact absurd hz.2.1.1 hk
    · have := h.1; omega
  have e := (h.2.2.2.1 hi).1
  rw [e] at hq
  exact AT.go hz (by omega) (by have := (hz.1 i hi).1; have := (hz.1 i hi).2.1; omega) (hz.2.2.2 i hi) hq (h17.trans h.2.2.2.2)
theorem AT.first {M M1 : Mm} {K W S E : Nat → Int} {m : Nat} (hz : TZM M K W S E m) (hq : NXQ (M 106) (M 97 12) 0 (M1 97 13) (M1 97 15) (M1 97 16) (M1 97 14)) (h17 : M1 97 17 = -1) : AT K W S E m M1 0 := AT.go hz (Nat.zero_le _) (Int.le_refl 0) hz.2.2.1 hq h17
theorem AT.w {M : Mm} {K W S E : Nat → Int} {m i : Nat} (hz : TZM M K W S E m) (h : AT K W S E m M i) : M 97 15 = K i ∧ (K i ≠ 0 → M 97 16 = W i ∧ i < m) ∧ M 97 13 = S i ∧ i ≤ m := by
  refine ⟨h.2.2.1, fun hk => ?_, h.2.1, h.1⟩
  have hi : i < m := by
    by_cases y : i = m
    · subst y; exact absurd hz.2.1.1 hk
    · have := h.1; omega
  exact ⟨(h.2.2.2.1 hi).2, hi⟩
theorem AT.eq {M M1 : Mm} {K W S E : Nat → Int} {m i : Nat} (h : AT K W S E m M i) (e3 : M1 97 13 = M 97 13) (e4 : M1 97 14 = M 97 14) (e5 : M1 97 15 = M 97 15) (e6 : M1 97 16 = M 97 16) (e7 : M1 97 17 = M 97 17) : AT K W S E m M1 i := by
  unfold AT
  rw [e3, e4, e5, e6, e7]
  exact h
/-! the pile -/
def PIL (P : Nat → Int) : Nat → List Int → Prop
  | 0, ops => ops = []
  | n + 1, ops => ∃ os : List Int, ops = P n :: os ∧ PIL P n os
theorem PIL.cg {P Q : Nat → Int} : ∀ {n : Nat} {ops : List Int}, PIL P n ops → (∀ k, k < n → Q k = P k) → PIL Q n ops
  | 0, _, h, _ => h
  | n + 1, _, ⟨os, e, h⟩, hq => ⟨os, by rw [hq n (by omega)]; exact e, PIL.cg h (fun k hk => hq k (by omega))⟩
theorem PIL.push {P Q : Nat → Int} {n n' : Nat} {ops : List Int} {v : Int} (h : PIL P n ops) (e : Q = ms P n v) (hn : n' = n + 1) : PIL Q n' (v :: ops) := by
  subst hn
  exact ⟨ops, by rw [e, ms_at], h.cg (fun k hk => by rw [e]; exact ms_ne _ _ (by omega))⟩
theorem PIL.tl {P : Nat → Int} {n : Nat} {ops : List Int} (h : PIL P (n + 1) ops) : PIL P n ops.tail ∧ ∃ os : List Int, ops = P n :: os := by
  obtain ⟨os, e, h'⟩ := h
  rw [e]
  exact ⟨h', os, rfl⟩
theorem PIL.sl_ {P : Nat → Int} {l : Int} : ∀ {n n' : Nat} {ops : List Int} {vs : List Mng}, PIL P n ops → n' ≤ n → (∀ j, n' ≤ j → j < n → l ≤ bnd (P j)) → (n' = 0 ∨ bnd (P (n' - 1)) < l) → PIL P n' (stl l ops vs).1
  | 0, n', ops, vs, h, h1, _, _ => by
    have e : n' = 0 := by omega
    subst e
    have e2 : ops = [] := h
    subst e2
    exact rfl
  | n + 1, n', ops, vs, ⟨os, e, h⟩, h1, h2, h3 => by
    subst e
    by_cases c : n' = n + 1
    · subst c
      have c3 : bnd (P n) < l := by
        rcases h3 with z | z
        · omega
        · exact z
      rw [show stl l (P n :: os) vs = (P n :: os, vs) from if_neg (by omega)]
      exact ⟨os, rfl, h⟩
    · have := h2 n (by omega) (by omega)
      rw [show stl l (P n :: os) vs = stl l os (apO (P n) vs) from if_pos this]
      exact PIL.sl_ h (by omega) (fun j z y => h2 j z (by omega)) h3
theorem PIL.in_ {P : Nat → Int} {r : Int} : ∀ {n : Nat} {ops : List Int}, PIL P n ops → ((r = -1 ∧ ∀ j : Nat, (j : Int) < n → P j < 30) ∨ (30 ≤ r ∧ ∃ j : Nat, (j : Int) < n ∧ P j = r ∧ ∀ j' : Nat, j < j' → (j' : Int) < n → P j' < 30)) → inn ops = r
  | 0, ops, h, hr => by
    have e2 : ops = [] := h
    subst e2
    rcases hr with ⟨a, -⟩ | ⟨-, j, b, -⟩
    · exact a.symm
    · omega
  | n + 1, ops, ⟨os, e, h⟩, hr => by
    subst e
    by_cases c : 30 ≤ P n
    · rw [inn_b c]
      rcases hr with ⟨a, b⟩ | ⟨a, j, b, d, g⟩
      · have := b n (by omega); omega
      · by_cases y : j = n
        · rw [← y]; exact d
        · have := g n (by omega) (by omega); omega
    · rw [inn_c (by omega)]
      refine PIL.in_ h ?_
      rcases hr with ⟨a, b⟩ | ⟨a, j, b, d, g⟩
      · exact Or.inl ⟨a, fun j hj => b j (by omega)⟩
      · refine Or.inr ⟨a, j, ?_, d, fun j' h1 h2 => g j' h1 (by omega)⟩
        by_cases y : j = n
        · subst y; omega
        · omega
/-- is a comparison begun (what lies below k is still to be looked at) -/
def CMP (M : Mm) (k : Int) : Prop := ∀ ops : List Int, PIL (M 110) (M 97 27).toNat ops → ∃ os : List Int, PIL (M 110) (k + 1).toNat os ∧ cmpd ops = cmpd os
theorem CMP.z {M : Mm} {k : Int} (h : k + 1 = M 97 27) : CMP M k := fun ops hp => ⟨ops, by rw [h]; exact hp, rfl⟩
theorem CMP.s {M : Mm} {k v : Int} (h : CMP M k) (h0 : 0 ≤ k) (e : v = M 110 k.toNat) (hv : v ≤ 23) : CMP M (k - 1) := fun ops hp => by
  obtain ⟨os, a, b⟩ := h ops hp
  rw [show (k + 1).toNat = k.toNat + 1 by omega] at a
  obtain ⟨us, c, d⟩ := a
  refine ⟨us, by rw [show k - 1 + 1 = k by omega]; exact d, ?_⟩
  rw [b, c, ← e]
  exact if_pos hv
def CMQ (M : Mm) (r : Int) : Prop := ∀ ops : List Int, PIL (M 110) (M 97 27).toNat ops → (r = 1 ∧ cmpd ops = true) ∨ (r = 0 ∧ cmpd ops = false)
theorem CMP.e {M : Mm} {k : Int} (h : CMP M k) (h0 : k < 0) : CMQ M 0 := fun ops hp => by
  obtain ⟨os, a, b⟩ := h ops hp
  rw [show (k + 1).toNat = 0 by omega] at a
  have c : os = [] := a
  rw [b, c]
  exact Or.inr ⟨rfl, rfl⟩
theorem CMP.t {M : Mm} {k v r : Int} (h : CMP M k) (h0 : 0 ≤ k) (e : v = M 110 k.toNat) (hv : 24 ≤ v) (hr : (r = 1 ∧ v ≤ 26) ∨ (r = 0 ∧ 26 < v)) : CMQ M r := fun ops hp => by
  obtain ⟨os, a, b⟩ := h ops hp
  rw [show (k + 1).toNat = k.toNat + 1 by omega] at a
  obtain ⟨us, c, d⟩ := a
  rw [b, c, ← e, show cmpd (v :: us) = decide (v ≤ 26) from if_neg (by omega)]
  rcases hr with ⟨z, y⟩ | ⟨z, y⟩
  · exact Or.inl ⟨z, decide_eq_true y⟩
  · exact Or.inr ⟨z, decide_eq_false (by omega)⟩
/-! what must and readNumber do -/
def MUQ (M M1 : Mm) (a : Int) : Prop := (M 97 18 = 0 → a ≠ 0 → M1 97 18 = 0 ∧ M1 97 17 = M 97 17 ∧ NXQ (M 106) (M 97 12) (M 97 14) (M1 97 13) (M1 97 15) (M1 97 16) (M1 97 14)) ∧ (M 97 18 = 0 → a = 0 → M1 97 18 ≠ 0 ∧ M1 97 17 = M 97 13) ∧ (M 97 18 ≠ 0 → M1 97 18 ≠ 0 ∧ M1 97 17 = M 97 17)
theorem MUQ.at_ {M M1 : Mm} {a : Int} {K W S E : Nat → Int} {m i : Nat} (h : MUQ M M1 a) (hz : TZM M K W S E m) (ht : AT K W S E m M i) (hb : M 97 18 = 0) (ha : a ≠ 0 → K i ≠ 0) : (M1 97 18 = 0 ∧ a ≠ 0 ∧ AT K W S E m M1 (i + 1)) ∨ (M1 97 18 ≠ 0 ∧ a = 0 ∧ M1 97 17 = S i) := by
  by_cases c : a = 0
  · have := h.2.1 hb c
    exact Or.inr ⟨this.1, c, this.2.trans ht.2.1⟩
  · have := h.1 hb c
    exact Or.inl ⟨this.1, c, AT.nx hz ht (ha c) this.2.2 this.2.1⟩
def RNQ (M M1 : Mm) (a r : Int) : Prop := M 97 18 = 0 → ((M 97 15 = 2 ∧ M 97 16 ≤ a) → M1 97 18 = 0 ∧ r = M 97 16 ∧ M1 97 17 = M 97 17 ∧ NXQ (M 106) (M 97 12) (M 97 14) (M1 97 13) (M1 97 15) (M1 97 16) (M1 97 14)) ∧ (¬ (M 97 15 = 2 ∧ M 97 16 ≤ a) → M1 97 18 ≠ 0 ∧ M1 97 17 = M 97 13)
theorem RNQ.at_ {M M1 : Mm} {a r : Int} {K W S E : Nat → Int} {m i : Nat} (h : RNQ M M1 a r) (hz : TZM M K W S E m) (ht : AT K W S E m M i) (hb : M 97 18 = 0) : (M1 97 18 = 0 ∧ (K i = 2 ∧ W i ≤ a) ∧ r = W i ∧ AT K W S E m M1 (i + 1)) ∨ (M1 97 18 ≠ 0 ∧ ¬ (K i = 2 ∧ W i ≤ a) ∧ M1 97 17 = S i) := by
  have w := ht.w hz
  obtain ⟨h1, h2⟩ := h hb
  by_cases c : M 97 15 = 2 ∧ M 97 16 ≤ a
  · obtain ⟨a1, a2, a3, a4⟩ := h1 c
    exact Or.inl ⟨a1, by omega, by omega, AT.nx hz ht (by omega) a4 a3⟩
  · obtain ⟨a1, a2⟩ := h2 c
    exact Or.inr ⟨a1, by omega, by omega⟩
