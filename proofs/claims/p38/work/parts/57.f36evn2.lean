/-! the reference's machine -/
def rk1 (A B : Nat → Int) (E : Int → Int → Int) (x : Nat × List Int) : Option (Nat × List Int) :=
  if A x.1 < 20 then some (x.1 + 1, (if A x.1 = 0 then B x.1 else E (A x.1) (B x.1)) :: x.2)
  else if A x.1 < 27 then (match x.2 with
    | b :: a :: r => (match opV (A x.1) a b with
      | some v => some (x.1 + 1, v :: r)
      | none => none)
    | _ => none)
  else if A x.1 = 27 then (match x.2 with
    | v :: r => some (x.1 + 1, (1 - v) :: r)
    | [] => none)
  else match x.2 with
    | v :: r => if v = (if A x.1 = 28 then 0 else 1) then some ((B x.1).toNat, v :: r) else some (x.1 + 1, r)
    | [] => none
def RK (A B : Nat → Int) (E : Int → Int → Int) (e : Nat) : Nat → Nat × List Int → Option (Nat × List Int) → Prop
  | 0, x, y => y = some x
  | n + 1, x, y => x.1 < e ∧ ((rk1 A B E x = none ∧ y = none) ∨ ∃ x', rk1 A B E x = some x' ∧ RK A B E e n x' y)
section RKs
variable {A B A2 B2 : Nat → Int} {E : Int → Int → Int} {e e2 s q : Nat} {f g : Mng}
theorem RK.tr : ∀ {n m : Nat} {x y : Nat × List Int} {z : Option (Nat × List Int)}, RK A B E e n x (some y) → RK A B E e m y z → RK A B E e (n + m) x z
  | 0, m, x, y, z, h, k => by
    have : y = x := Option.some.inj h
    rw [Nat.zero_add, ← this]
    exact k
  | n + 1, m, x, y, z, h, k => by
    rw [show n + 1 + m = n + m + 1 by omega]
    refine ⟨h.1, ?_⟩
    rcases h.2 with ⟨-, b⟩ | ⟨x', a, b⟩
    · cases b
    · exact Or.inr ⟨x', a, RK.tr b k⟩
theorem RK.up (he : e ≤ e2) : ∀ {n : Nat} {x : Nat × List Int} {z : Option (Nat × List Int)}, RK A B E e n x z → RK A B E e2 n x z
  | 0, _, _, h => h
  | n + 1, x, z, h => by
    refine ⟨by have := h.1; omega, ?_⟩
    rcases h.2 with h | ⟨x', a, b⟩
    · exact Or.inl h
    · exact Or.inr ⟨x', a, RK.up he b⟩
theorem RK.one {x y : Nat × List Int} (h : x.1 < e) (k : rk1 A B E x = some y) : RK A B E e 1 x (some y) := ⟨h, Or.inr ⟨y, k, rfl⟩⟩
theorem RK.bad {x : Nat × List Int} (h : x.1 < e) (k : rk1 A B E x = none) : RK A B E e 1 x none := ⟨h, Or.inl ⟨k, rfl⟩⟩
/-- a piece of code means f; jumps lead on, and not beyond -/
def MR (A B : Nat → Int) (s e : Nat) (f : Mng) : Prop := s < e ∧ ∀ (A2 B2 : Nat → Int), (∀ j, s ≤ j → j < e → A2 j = A j ∧ B2 j = B j) → ∀ (E : Int → Int → Int) (st : List Int), (∀ v : Int, f E = some v → ∃ n : Nat, RK A2 B2 E e n (s, st) (some (e, v :: st))) ∧ (f E = none → ∃ n : Nat, RK A2 B2 E e n (s, st) none)
theorem MR.cg (h : MR A B s e f) (hc : ∀ j, s ≤ j → j < e → A2 j = A j ∧ B2 j = B j) : MR A2 B2 s e f :=
  ⟨h.1, fun A3 B3 h3 E st => h.2 A3 B3 (fun j a b => ⟨(h3 j a b).1.trans (hc j a b).1, (h3 j a b).2.trans (hc j a b).2⟩) E st⟩
theorem MR.leaf {op arg : Int} (h1 : A s = op) (h2 : B s = arg) (h0 : op < 20) : MR A B s (s + 1) (mLf op arg) := by
  refine ⟨by omega, fun A2 B2 hc E st => ?_⟩
  obtain ⟨ea, eb⟩ := hc s (by omega) (by omega)
  have e1 : rk1 A2 B2 E (s, st) = some (s + 1, (if op = 0 then arg else E op arg) :: st) := by
    unfold rk1
    rw [ea, eb, h1, h2, if_pos h0]
  have em : mLf op arg E = if op = 0 then some arg else some (E op arg) := rfl
  refine ⟨fun v hv => ⟨1, ?_⟩, fun hn => ?_⟩
  · have : v = if op = 0 then arg else E op arg := by
      rw [em] at hv
      split at hv
      · rename_i z; rw [if_pos z]; exact (Option.some.inj hv).symm
      · rename_i z; rw [if_neg z]; exact (Option.some.inj hv).symm
    rw [this]
    exact RK.one (by show s < s + 1; omega) e1
  · rw [em] at hn
    split at hn <;> cases hn
theorem MR.bin {o : Int} (h : MR A B s q f) (k : MR A B q e g) (ho : A e = o) (hr : 20 ≤ o ∧ o < 27) : MR A B s (e + 1) (mBin o f g) := by
  refine ⟨by have := h.1; have := k.1; omega, fun A2 B2 hc E st => ?_⟩
  have hq := h.1
  have he := k.1
  obtain ⟨ea, -⟩ := hc e (by omega) (by omega)
  obtain ⟨f1, f2⟩ := h.2 A2 B2 (fun j a b => hc j (by omega) (by omega)) E st
  have em : mBin o f g E = (match f E with | none => none | some a => match g E with | none => none | some b => opV o a b) := rfl
  cases hf : f E with
  | none =>
    rw [hf] at em
    obtain ⟨n, r⟩ := f2 hf
    exact ⟨fun v hv => (by rw [em] at hv; cases hv), fun _ => ⟨n, r.up (by omega)⟩⟩
  | some a =>
    rw [hf] at em
    obtain ⟨n, r⟩ := f1 a hf
    obtain ⟨g1, g2⟩ := k.2 A2 B2 (fun j a b => hc j (by omega) (by omega)) E (a :: st)
    cases hg : g E with
    | none =>
      rw [hg] at em
      obtain ⟨n2, r2⟩ := g2 hg
      exact ⟨fun v hv => (by rw [em] at hv; cases hv), fun _ => ⟨n + n2, (r.up (by omega)).tr (r2.up (by omega))⟩⟩
    | some b =>
      rw [hg] at em
      have em2 : mBin o f g E = opV o a b := em
      obtain ⟨n2, r2⟩ := g1 b hg
      have e1 : rk1 A2 B2 E (e, b :: a :: st) = (match opV o a b with | some v => some (e + 1, v :: st) | none => none) := by
        unfold rk1
        rw [ea, ho, if_neg (by omega), if_pos hr.2]
      rw [em2]
      cases ho : opV o a b with
      | none =>
        rw [ho] at e1
        exact ⟨fun v hv => (by cases hv), fun _ => ⟨n + n2 + 1, ((r.up (by omega)).tr (r2.up (by omega))).tr (RK.bad (by show e < e + 1; omega) e1)⟩⟩
      | some v0 =>
        rw [ho] at e1
        exact ⟨fun v hv => ⟨n + n2 + 1, by rw [← Option.some.inj hv]; exact ((r.up (by omega)).tr (r2.up (by omega))).tr (RK.one (by show e < e + 1; omega) e1)⟩, fun hn => by cases hn⟩
theorem MR.not_ (h : MR A B s e f) (ho : A e = 27) : MR A B s (e + 1) (mNot f) := by
  refine ⟨by have := h.1; omega, fun A2 B2 hc E st => ?_⟩
  have hq := h.1
  obtain ⟨ea, -⟩ := hc e (by omega) (by omega)
  obtain ⟨f1, f2⟩ := h.2 A2 B2 (fun j a b => hc j (by omega) (by omega)) E st
  have em : mNot f E = (match f E with | none => none | some a => some (1 - a)) := rfl
  cases hf : f E with
  | none =>
    rw [hf] at em
    obtain ⟨n, r⟩ := f2 hf
    exact ⟨fun v hv => (by rw [em] at hv; cases hv), fun _ => ⟨n, r.up (by omega)⟩⟩
  | some a =>
    rw [hf] at em
    have em2 : mNot f E = some (1 - a) := em
    obtain ⟨n, r⟩ := f1 a hf
    have e1 : rk1 A2 B2 E (e, a :: st) = some (e + 1, (1 - a) :: st) := by
      unfold rk1
      rw [ea, ho, if_neg (by omega), if_neg (by omega), if_pos rfl]
    rw [em2]
    exact ⟨fun v hv => ⟨n + 1, by rw [← Option.some.inj hv]; exact (r.up (by omega)).tr (RK.one (by show e < e + 1; omega) e1)⟩, fun hn => by cases hn⟩
theorem MR.ao {o : Int} (h : MR A B s q f) (t : T01 f) (k : MR A B (q + 1) e g) (ho : A q = o) (hr : o = 28 ∨ o = 29) (hb : B q = (e : Int)) : MR A B s e (mAO o f g) := by
  refine ⟨by have := h.1; have := k.1; omega, fun A2 B2 hc E st => ?_⟩
  have hq := h.1
  have he := k.1
  obtain ⟨ea, eb⟩ := hc q (by omega) (by omega)
  obtain ⟨f1, f2⟩ := h.2 A2 B2 (fun j a b => hc j (by omega) (by omega)) E st
  have em : mAO o f g E = (match f E with | none => none | some a => if (o = 28 ∧ a = 0) ∨ (o ≠ 28 ∧ a ≠ 0) then some a else g E) := rfl
  cases hf : f E with
  | none =>
    rw [hf] at em
    obtain ⟨n, r⟩ := f2 hf
    exact ⟨fun v hv => (by rw [em] at hv; cases hv), fun _ => ⟨n, r.up (by omega)⟩⟩
  | some a =>
    rw [hf] at em
    have em2 : mAO o f g E = if (o = 28 ∧ a = 0) ∨ (o ≠ 28 ∧ a ≠ 0) then some a else g E := em
    obtain ⟨n, r⟩ := f1 a hf
    have t0 := t E a hf
    have e1 : rk1 A2 B2 E (q, a :: st) = if a = (if o = 28 then 0 else 1) then some (e, a :: st) else some (q + 1, st) := by
      unfold rk1
      rw [ea, eb, ho, if_neg (by omega), if_neg (by omega), if_neg (by omega), hb, Int.toNat_natCast]
    rw [em2]
    by_cases y : (o = 28 ∧ a = 0) ∨ (o ≠ 28 ∧ a ≠ 0)
    · rw [if_pos (by split <;> omega)] at e1
      rw [if_pos y]
      exact ⟨fun v hv => ⟨n + 1, by rw [← Option.some.inj hv]; exact (r.up (by omega)).tr (RK.one (by show q < e; omega) e1)⟩, fun hn => by cases hn⟩
    · rw [if_neg (by split <;> omega)] at e1
      rw [if_neg y]
      obtain ⟨g1, g2⟩ := k.2 A2 B2 (fun j a b => hc j (by omega) (by omega)) E st
      refine ⟨fun v hv => ?_, fun hn => ?_⟩
      · obtain ⟨n2, r2⟩ := g1 v hv
        exact ⟨n + 1 + n2, ((r.up (by omega)).tr (RK.one (by show q < e; omega) e1)).tr r2⟩
      · obtain ⟨n2, r2⟩ := g2 hn
        exact ⟨n + 1 + n2, ((r.up (by omega)).tr (RK.one (by show q < e; omega) e1)).tr r2⟩
end RKs
