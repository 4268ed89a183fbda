/-! the class's machine for sums and tests, as a function -/
def lvC (E : Int → Int → Int) (c d : Int) : Int := if c = 1 then d else if c = 2 then E 1 (d / 4) else if c = 3 then E 2 (d / 4) else if c = 4 then E 3 (6 * (d % 4) + d / 4) else E 4 0
def psC (v : Int) (st : List Int) : Option (List Int) := if st.length < 50 ∧ (-1000000000 ≤ v ∧ v ≤ 1000000000) then some (v :: st) else none
def wks (E : Int → Int → Int) (c d : Int) (st : List Int) : Option (List Int) :=
  if 1 ≤ c ∧ c ≤ 5 then psC (lvC E c d) st
  else if c = 13 then psC (1 - st.headD 0) st.tail
  else match opV (c + 14) (st.tail.headD 0) (st.headD 0) with
    | some v => psC v st.tail.tail
    | none => none
def wk1 (C D : Nat → Int) (E : Int → Int → Int) (at_ : Nat) (x : Int × List Int) : Option (Int × List Int) :=
  if (at_ : Int) < x.1 then some x
  else if C at_ = 14 ∨ C at_ = 15 then (match x.2 with
    | v :: r => if (C at_ = 15 ∧ v ≠ 0) ∨ (C at_ = 14 ∧ v = 0) then some (D at_, v :: r) else some (x.1, r)
    | [] => some x)
  else match wks E (C at_) (D at_) x.2 with
    | some st => some (x.1, st)
    | none => none
def wkR (C D : Nat → Int) (E : Int → Int → Int) : Nat → Nat → Int × List Int → Option (Int × List Int)
  | 0, _, x => some x
  | k + 1, at_, x => match wk1 C D E at_ x with
    | some y => wkR C D E k (at_ + 1) y
    | none => none
theorem wkR_add (C D : Nat → Int) (E : Int → Int → Int) : ∀ (k l at_ : Nat) (x : Int × List Int), wkR C D E (k + l) at_ x = (match wkR C D E k at_ x with
    | some y => wkR C D E l (at_ + k) y
    | none => none)
  | 0, l, at_, x => by rw [Nat.zero_add]; rfl
  | k + 1, l, at_, x => by
    rw [show k + 1 + l = k + l + 1 by omega]
    show (match wk1 C D E at_ x with | some y => wkR C D E (k + l) (at_ + 1) y | none => none) = _
    show _ = (match (match wk1 C D E at_ x with | some y => wkR C D E k (at_ + 1) y | none => none) with | some y => wkR C D E l (at_ + (k + 1)) y | none => none)
    cases wk1 C D E at_ x with
    | none => rfl
    | some y =>
      show wkR C D E (k + l) (at_ + 1) y = (match wkR C D E k (at_ + 1) y with | some y => wkR C D E l (at_ + (k + 1)) y | none => none)
      rw [wkR_add C D E k l (at_ + 1) y, show at_ + 1 + k = at_ + (k + 1) by omega]
theorem wkR_cg {C D C2 D2 : Nat → Int} {E : Int → Int → Int} : ∀ (k at_ : Nat) (x : Int × List Int), (∀ j, at_ ≤ j → j < at_ + k → C2 j = C j ∧ D2 j = D j) → wkR C2 D2 E k at_ x = wkR C D E k at_ x
  | 0, _, _, _ => rfl
  | k + 1, at_, x, h => by
    have h0 := h at_ (by omega) (by omega)
    show (match wk1 C2 D2 E at_ x with | some y => wkR C2 D2 E k (at_ + 1) y | none => none) = (match wk1 C D E at_ x with | some y => wkR C D E k (at_ + 1) y | none => none)
    have e : wk1 C2 D2 E at_ x = wk1 C D E at_ x := by unfold wk1; rw [h0.1, h0.2]
    rw [e]
    cases wk1 C D E at_ x with
    | none => rfl
    | some y => exact wkR_cg k (at_ + 1) y (fun j h1 h2 => h j (by omega) (by omega))
/-- what is skipped -/
theorem wkR_skip {C D : Nat → Int} {E : Int → Int → Int} : ∀ (k at_ : Nat) (x : Int × List Int), ((at_ + k : Nat) : Int) ≤ x.1 → wkR C D E k at_ x = some x
  | 0, _, _, _ => rfl
  | k + 1, at_, x, h => by
    show (match wk1 C D E at_ x with | some y => wkR C D E k (at_ + 1) y | none => none) = some x
    have e : wk1 C D E at_ x = some x := if_pos (by omega)
    rw [e]
    exact wkR_skip k (at_ + 1) x (by omega)
def EB (E : Int → Int → Int) : Prop := ∀ o a : Int, -1000000000 ≤ E o a ∧ E o a ≤ 1000000000
def T01 (f : Mng) : Prop := ∀ (E : Int → Int → Int) (v : Int), f E = some v → v = 0 ∨ v = 1
/-- the leaves tell glasses and stuffs -/
def CRg (C D : Nat → Int) (s e : Nat) : Prop := ∀ k : Nat, s ≤ k → k < e → 2 ≤ C k → C k ≤ 4 → 0 ≤ D k ∧ D k ≤ 23
/-- a piece of code means f (l leaves) -/
def MC (C D : Nat → Int) (s e : Nat) (l : Int) (f : Mng) : Prop := s < e ∧ 1 ≤ l ∧ CRg C D s e ∧ ∀ (E : Int → Int → Int), EB E → ∀ (go : Int) (st : List Int), go ≤ s → (st.length : Int) + l ≤ 50 →
  (∀ v : Int, f E = some v → ∃ go' : Int, go' ≤ e ∧ wkR C D E (e - s) s (go, st) = some (go', v :: st)) ∧ (f E = none → wkR C D E (e - s) s (go, st) = none)
section MCs
variable {C D C2 D2 : Nat → Int} {s e e2 q : Nat} {l l2 : Int} {f g : Mng}
theorem MC.cg (h : MC C D s e l f) (hc : ∀ j, s ≤ j → j < e → C2 j = C j ∧ D2 j = D j) : MC C2 D2 s e l f := by
  obtain ⟨h1, h2, hx, h3⟩ := h
  refine ⟨h1, h2, fun k a b => by rw [(hc k a b).1, (hc k a b).2]; exact hx k a b, fun E hE go st hg hs => ?_⟩
  have ex := wkR_cg (E := E) (C2 := C2) (D2 := D2) (C := C) (D := D) (e - s) s (go, st) (fun j a b => hc j a (by omega))
  rw [ex]
  exact h3 E hE go st hg hs
theorem wkR_1 {E : Int → Int → Int} {at_ : Nat} {x : Int × List Int} : wkR C D E 1 at_ x = wk1 C D E at_ x := by
  show (match wk1 C D E at_ x with | some y => some y | none => none) = _
  cases wk1 C D E at_ x <;> rfl
theorem wk1_w {E : Int → Int → Int} {at_ : Nat} {go : Int} {st : List Int} (h : go ≤ at_) (h1 : C at_ ≠ 14) (h2 : C at_ ≠ 15) : wk1 C D E at_ (go, st) = (match wks E (C at_) (D at_) st with | some st => some (go, st) | none => none) := by
  unfold wk1
  rw [if_neg (show ¬ (at_ : Int) < go by omega), if_neg (by omega)]
theorem psC_y {v : Int} {st : List Int} (h : (st.length : Int) + 1 ≤ 50) (hv : -1000000000 ≤ v ∧ v ≤ 1000000000) : psC v st = some (v :: st) := if_pos ⟨by omega, hv⟩
theorem MC.leaf {op arg : Int} (hc : 1 ≤ C s ∧ C s ≤ 5) (hv : ∀ E : Int → Int → Int, mLf op arg E = some (lvC E (C s) (D s))) (hb : op = 0 → -1000000000 ≤ arg ∧ arg ≤ 1000000000) (hg2 : 2 ≤ C s → C s ≤ 4 → 0 ≤ D s ∧ D s ≤ 23) : MC C D s (s + 1) 1 (mLf op arg) := by
  refine ⟨by omega, by omega, fun k a b => by rw [show k = s by omega]; exact hg2, fun E hE go st hg hs => ?_⟩
  have e0 := hv E
  rw [show s + 1 - s = 1 by omega, wkR_1, wk1_w hg (by omega) (by omega)]
  have ew : wks E (C s) (D s) st = psC (lvC E (C s) (D s)) st := if_pos hc
  have bd : -1000000000 ≤ lvC E (C s) (D s) ∧ lvC E (C s) (D s) ≤ 1000000000 := by
    have q : mLf op arg E = if op = 0 then some arg else some (E op arg) := rfl
    rw [q] at e0
    by_cases z : op = 0
    · rw [if_pos z] at e0
      have := Option.some.inj e0
      have := hb z
      omega
    · rw [if_neg z] at e0
      have := Option.some.inj e0
      have := hE op arg
      omega
  rw [ew, psC_y hs bd]
  refine ⟨fun v hv2 => ?_, fun hn => ?_⟩
  · rw [e0] at hv2
    rw [Option.some.inj hv2]
    exact ⟨go, by omega, rfl⟩
  · rw [e0] at hn
    cases hn
theorem opV_b {o a b v : Int} (h : opV o a b = some v) : -1000000000 ≤ v ∧ v ≤ 1000000000 := by
  unfold opV okV at h
  split at h
  · split at h
    · have := Option.some.inj h; omega
    · cases h
  · split at h
    · split at h
      · have := Option.some.inj h; omega
      · cases h
    · split at h
      · split at h
        · have := Option.some.inj h; omega
        · cases h
      · split at h
        · split at h
          · cases h
          · split at h
            · have := Option.some.inj h; omega
            · cases h
        · split at h
          · have := Option.some.inj h
            split at this <;> omega
          · split at h
            · have := Option.some.inj h
              split at this <;> omega
            · have := Option.some.inj h
              split at this <;> omega
theorem MC.bin {c : Int} (h : MC C D s e l f) (k : MC C D e e2 l2 g) (hc : C e2 = c) (hr : 6 ≤ c ∧ c ≤ 12) : MC C D s (e2 + 1) (l + l2) (mBin (c + 14) f g) := by
  obtain ⟨h1, h2, hx, h3⟩ := h
  obtain ⟨k1, k2, kx, k3⟩ := k
  refine ⟨by omega, by omega, fun k a b => ?_, fun E hE go st hg hs => ?_⟩
  · by_cases z : k < e
    · exact hx k a z
    · by_cases y : k < e2
      · exact kx k (by omega) y
      · rw [show k = e2 by omega, hc]
        intro u v
        omega
  obtain ⟨ha, hb⟩ := h3 E hE go st hg (by omega)
  rw [show e2 + 1 - s = (e - s) + ((e2 - e) + 1) by omega, wkR_add, show s + (e - s) = e by omega]
  have em : mBin (c + 14) f g E = (match f E with | none => none | some a => match g E with | none => none | some b => opV (c + 14) a b) := rfl
  cases hf : f E with
  | none =>
    rw [hb hf]
    rw [hf] at em
    exact ⟨fun v hv => (by rw [em] at hv; cases hv), fun _ => rfl⟩
  | some a =>
    obtain ⟨go1, g1, w1⟩ := ha a hf
    rw [w1]
    show (∀ v : Int, _ → ∃ go' : Int, go' ≤ _ ∧ wkR C D E ((e2 - e) + 1) e (go1, a :: st) = _) ∧ (_ → wkR C D E ((e2 - e) + 1) e (go1, a :: st) = none)
    obtain ⟨ka, kb⟩ := k3 E hE go1 (a :: st) g1 (by rw [List.length_cons]; omega)
    rw [wkR_add, show e + (e2 - e) = e2 by omega]
    rw [hf] at em
    cases hgE : g E with
    | none =>
      rw [kb hgE]
      rw [hgE] at em
      exact ⟨fun v hv => (by rw [em] at hv; cases hv), fun _ => rfl⟩
    | some b =>
      obtain ⟨go2, g2, w2⟩ := ka b hgE
      rw [w2]
      rw [hgE] at em
      have em2 : mBin (c + 14) f g E = opV (c + 14) a b := em
      show (∀ v : Int, _ → ∃ go' : Int, go' ≤ _ ∧ wkR C D E 1 e2 (go2, b :: a :: st) = _) ∧ (_ → wkR C D E 1 e2 (go2, b :: a :: st) = none)
      rw [wkR_1, wk1_w g2 (by omega) (by omega)]
      have ew : wks E (C e2) (D e2) (b :: a :: st) = (match opV (c + 14) a b with | some v => psC v st | none => none) := by
        unfold wks
        rw [if_neg (by omega), if_neg (by omega), hc]
        try rfl
      rw [ew, em2]
      cases ho : opV (c + 14) a b with
      | none => exact ⟨fun v hv => (by cases hv), fun _ => rfl⟩
      | some v0 =>
        have bd := opV_b ho
        have pp : psC v0 st = some (v0 :: st) := psC_y (by omega) bd
        refine ⟨fun v hv => ⟨go2, by omega, ?_⟩, fun hn => by cases hn⟩
        rw [← Option.some.inj hv]
        show (match psC v0 st with | some st => some (go2, st) | none => none) = _
        rw [pp]
theorem MC.not_ (h : MC C D s e l f) (t : T01 f) (hc : C e = 13) : MC C D s (e + 1) l (mNot f) := by
  obtain ⟨h1, h2, hx, h3⟩ := h
  refine ⟨by omega, h2, fun k a b => ?_, fun E hE go st hg hs => ?_⟩
  · by_cases z : k < e
    · exact hx k a z
    · rw [show k = e by omega, hc]
      intro u v
      omega
  obtain ⟨ha, hb⟩ := h3 E hE go st hg hs
  rw [show e + 1 - s = (e - s) + 1 by omega, wkR_add, show s + (e - s) = e by omega]
  have em : mNot f E = (match f E with | none => none | some a => some (1 - a)) := rfl
  cases hf : f E with
  | none =>
    rw [hb hf]
    rw [hf] at em
    exact ⟨fun v hv => (by rw [em] at hv; cases hv), fun _ => rfl⟩
  | some a =>
    obtain ⟨go1, g1, w1⟩ := ha a hf
    rw [w1]
    rw [hf] at em
    have em2 : mNot f E = some (1 - a) := em
    have t0 := t E a hf
    show (∀ v : Int, _ → ∃ go' : Int, go' ≤ _ ∧ wkR C D E 1 e (go1, a :: st) = _) ∧ (_ → wkR C D E 1 e (go1, a :: st) = none)
    rw [wkR_1, wk1_w g1 (by omega) (by omega)]
    have ew : wks E (C e) (D e) (a :: st) = psC (1 - a) st := by
      unfold wks
      rw [if_neg (by omega), if_pos hc]
      try rfl
    rw [ew, em2, psC_y (by omega) (by omega)]
    exact ⟨fun v hv => ⟨go1, by omega, by rw [Option.some.inj hv]⟩, fun hn => by cases hn⟩
theorem MC.ao {o : Int} (h : MC C D s q l f) (k : MC C D (q + 1) e l2 g) (hc : (C q = 14 ∧ o = 28) ∨ (C q = 15 ∧ o = 29)) (hd : D q = (e : Int)) : MC C D s e (l + l2) (mAO o f g) := by
  obtain ⟨h1, h2, hx, h3⟩ := h
  obtain ⟨k1, k2, kx, k3⟩ := k
  refine ⟨by omega, by omega, fun k a b => ?_, fun E hE go st hg hs => ?_⟩
  · by_cases z : k < q
    · exact hx k a z
    · by_cases y : k = q
      · rw [y]
        intro u v
        omega
      · exact kx k (by omega) b
  obtain ⟨ha, hb⟩ := h3 E hE go st hg (by omega)
  rw [show e - s = (q - s) + (1 + (e - (q + 1))) by omega, wkR_add, show s + (q - s) = q by omega]
  have em : mAO o f g E = (match f E with | none => none | some a => if (o = 28 ∧ a = 0) ∨ (o ≠ 28 ∧ a ≠ 0) then some a else g E) := rfl
  cases hf : f E with
  | none =>
    rw [hb hf]
    rw [hf] at em
    exact ⟨fun v hv => (by rw [em] at hv; cases hv), fun _ => rfl⟩
  | some a =>
    obtain ⟨go1, g1, w1⟩ := ha a hf
    rw [w1]
    rw [hf] at em
    have em2 : mAO o f g E = if (o = 28 ∧ a = 0) ∨ (o ≠ 28 ∧ a ≠ 0) then some a else g E := em
    show (∀ v : Int, _ → ∃ go' : Int, go' ≤ _ ∧ wkR C D E (1 + (e - (q + 1))) q (go1, a :: st) = _) ∧ (_ → wkR C D E (1 + (e - (q + 1))) q (go1, a :: st) = none)
    rw [wkR_add, wkR_1]
    by_cases y : (o = 28 ∧ a = 0) ∨ (o ≠ 28 ∧ a ≠ 0)
    · have e1 : wk1 C D E q (go1, a :: st) = some (D q, a :: st) := by
        unfold wk1
        rw [if_neg (show ¬ (q : Int) < go1 by omega), if_pos (by omega)]
        show (if (C q = 15 ∧ a ≠ 0) ∨ (C q = 14 ∧ a = 0) then some (D q, a :: st) else some (go1, st)) = _
        rw [if_pos (by omega)]
      rw [e1, em2, if_pos y]
      show (∀ v : Int, _ → ∃ go' : Int, go' ≤ _ ∧ wkR C D E (e - (q + 1)) (q + 1) (D q, a :: st) = _) ∧ (_ → wkR C D E (e - (q + 1)) (q + 1) (D q, a :: st) = none)
      rw [wkR_skip _ _ _ (show ((q + 1 + (e - (q + 1)) : Nat) : Int) ≤ D q by omega)]
      exact ⟨fun v hv => ⟨D q, by omega, by rw [Option.some.inj hv]⟩, fun hn => by cases hn⟩
    · have e1 : wk1 C D E q (go1, a :: st) = some (go1, st) := by
        unfold wk1
        rw [if_neg (show ¬ (q : Int) < go1 by omega), if_pos (by omega)]
        show (if (C q = 15 ∧ a ≠ 0) ∨ (C q = 14 ∧ a = 0) then some (D q, a :: st) else some (go1, st)) = _
        rw [if_neg (by omega)]
      rw [e1, em2, if_neg y]
      exact k3 E hE go1 st (by omega) (by omega)
theorem T01.bin {o : Int} (ho : 24 ≤ o) (f g : Mng) : T01 (mBin o f g) := by
  intro E v h
  have em : mBin o f g E = (match f E with | none => none | some a => match g E with | none => none | some b => opV o a b) := rfl
  rw [em] at h
  cases hf : f E with
  | none => rw [hf] at h; cases h
  | some a =>
    rw [hf] at h
    cases hg : g E with
    | none => rw [hg] at h; cases h
    | some b =>
      rw [hg] at h
      have h2 : opV o a b = some v := h
      unfold opV at h2
      rw [if_neg (by omega), if_neg (by omega), if_neg (by omega), if_neg (by omega)] at h2
      split at h2
      · have := Option.some.inj h2
        split at this <;> omega
      · split at h2
        · have := Option.some.inj h2
          split at this <;> omega
        · have := Option.some.inj h2
          split at this <;> omega
theorem T01.not_ (h : T01 f) : T01 (mNot f) := by
  intro E v hv
  have em : mNot f E = (match f E with | none => none | some a => some (1 - a)) := rfl
  rw [em] at hv
  cases hf : f E with
  | none => rw [hf] at hv; cases hv
  | some a =>
    rw [hf] at hv
    have := Option.some.inj hv
    have := h E a hf
    omega
theorem T01.ao {o : Int} (h : T01 f) (k : T01 g) : T01 (mAO o f g) := by
  intro E v hv
  have em : mAO o f g E = (match f E with | none => none | some a => if (o = 28 ∧ a = 0) ∨ (o ≠ 28 ∧ a ≠ 0) then some a else g E) := rfl
  rw [em] at hv
  cases hf : f E with
  | none => rw [hf] at hv; cases hv
  | some a =>
    rw [hf] at hv
    have h2 : (if (o = 28 ∧ a = 0) ∨ (o ≠ 28 ∧ a ≠ 0) then some a else g E) = some v := hv
    split at h2
    · have := Option.some.inj h2
      have := h E a hf
      omega
    · exact k E v h2
end MCs
