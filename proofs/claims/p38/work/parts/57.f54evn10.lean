/-! the reference's machine runs -/
def BVs (k : Int) (st : List Int) : Prop := ∀ v : Int, v ∈ st → -2147483648 - k ≤ v ∧ v ≤ 2147483648 + k
def zOf (E : Int → Int → Int) (e : Nat) (f : Mng) : Option (Nat × List Int) := match f E with
  | some v => some (e, [v])
  | none => none
def RKI (A B : Nat → Int) (E : Int → Int → Int) (e : Nat) (Z : Option (Nat × List Int)) (br k n : Int) (C : Nat → Int) : Prop := (br = 0 ∨ br = 1) ∧ (br = 0 → ∃ (u : Nat) (st : List Int), RK A B E e u (k.toNat, st) Z ∧ PIL C n.toNat st ∧ BVs k st) ∧ (br = 1 → Z = none)
def VLQ (E : Int → Int → Int) (f : Mng) (br v : Int) : Prop := (br = 0 ∨ br = 1) ∧ (∀ x : Int, f E = some x → br = 0 ∧ v = x) ∧ (f E = none → br = 1)
section RNs
variable {A B C C1 : Nat → Int} {E : Int → Int → Int} {e u : Nat} {Z : Option (Nat × List Int)} {st : List Int} {k k1 n n1 v w x a b br br1 : Int} {f : Mng}
theorem BVs.cons (h : BVs k st) (hx : -2147483648 - k1 ≤ x ∧ x ≤ 2147483648 + k1) (hk : k ≤ k1) : BVs k1 (x :: st) := fun v hv => by
  rcases List.mem_cons.mp hv with c | c
  · rw [c]; exact hx
  · have := h v c; omega
theorem BVs.up (h : BVs k st) (hk : k ≤ k1) : BVs k1 st := fun v hv => by have := h v hv; omega
theorem BVs.tl (h : BVs k (x :: st)) : BVs k st := fun v hv => h v (List.mem_cons_of_mem _ hv)
theorem BVs.hd (h : BVs k (x :: st)) : -2147483648 - k ≤ x ∧ x ≤ 2147483648 + k := h x (by simp)
theorem PIL.one_ (h : PIL C n.toNat st) (hn : 1 ≤ n) : ∃ r : List Int, st = C (n - 1).toNat :: r ∧ PIL C (n - 1).toNat r := by
  rw [show n.toNat = (n - 1).toNat + 1 by omega] at h
  exact h
theorem PIL.two (h : PIL C n.toNat st) (hn : 2 ≤ n) : ∃ r : List Int, st = C (n - 1).toNat :: C (n - 2).toNat :: r ∧ PIL C (n - 2).toNat r := by
  obtain ⟨r, e1, h1⟩ := h.one_ (by omega)
  obtain ⟨r2, e2, h2⟩ := h1.one_ (by omega)
  rw [show n - 1 - 1 = n - 2 by omega] at e2 h2
  exact ⟨r2, by rw [e1, e2], h2⟩
theorem RKI.st0 (mr : MR A B k.toNat e f) (hn : n = 0) (hb : br = 0) : RKI A B E e (zOf E e f) br k n C := by
  subst hn hb
  obtain ⟨h1, h2⟩ := mr.2 A B (fun _ _ _ => ⟨rfl, rfl⟩) E []
  refine ⟨Or.inl rfl, fun _ => ?_, fun z => absurd z (by decide)⟩
  unfold zOf
  cases q : f E with
  | some v => obtain ⟨u, g⟩ := h1 v q; exact ⟨u, [], g, rfl, fun v hv => by cases hv⟩
  | none => obtain ⟨u, g⟩ := h2 q; exact ⟨u, [], g, rfl, fun v hv => by cases hv⟩
theorem RK.go (g : RK A B E e u (k.toNat, st) (zOf E e f)) (hk : k.toNat < e) : (rk1 A B E (k.toNat, st) = none ∧ zOf E e f = none) ∨ ∃ x' : Nat × List Int, rk1 A B E (k.toNat, st) = some x' ∧ ∃ u2 : Nat, RK A B E e u2 x' (zOf E e f) := by
  cases u with
  | zero =>
    exfalso
    have g' : zOf E e f = some (k.toNat, st) := g
    unfold zOf at g'
    split at g'
    · have := congrArg Prod.fst (Option.some.inj g')
      have h2 : e = k.toNat := this
      omega
    · cases g'
  | succ u =>
    rcases g.2 with ⟨p, q⟩ | ⟨x', p, q⟩
    · exact Or.inl ⟨p, q⟩
    · exact Or.inr ⟨x', p, u, q⟩
theorem RKI.go1 {y : Nat × List Int} (g : RK A B E e u (k.toNat, st) (zOf E e f)) (hk : k.toNat < e) (e1 : rk1 A B E (k.toNat, st) = some y) : ∃ u2 : Nat, RK A B E e u2 y (zOf E e f) := by
  rcases g.go hk with ⟨p, q⟩ | ⟨x', p, u2, q⟩
  · rw [e1] at p; cases p
  · rw [e1] at p
    rw [Option.some.inj p]
    exact ⟨u2, q⟩
theorem RKI.lf (g : RK A B E e u (k.toNat, st) (zOf E e f)) (pil : PIL C n.toNat st) (bv : BVs k st) (hk : 0 ≤ k ∧ k.toNat < e) (hv : v = A k.toNat) (hw : w = B k.toNat) (h20 : v < 20) (hx : x = if v = 0 then w else E v w) (bx : -2147483648 ≤ x ∧ x ≤ 2147483648) (eC : C1 = ms C n.toNat x) (hn : 0 ≤ n ∧ n1 = n + 1) (hb : br1 = 0) (hk1 : k1 = k + 1) : RKI A B E e (zOf E e f) br1 k1 n1 C1 := by
  have e1 : rk1 A B E (k.toNat, st) = some (k.toNat + 1, x :: st) := by
    unfold rk1
    show (if A k.toNat < 20 then _ else _) = _
    rw [if_pos (by omega), hx, hv, hw]
  obtain ⟨u2, q⟩ := RKI.go1 g hk.2 e1
  exact ⟨Or.inl hb, fun _ => ⟨u2, x :: st, by rw [show k1.toNat = k.toNat + 1 by omega]; exact q, pil.push eC (by omega), bv.cons (by omega) (by omega)⟩, fun z => by omega⟩
theorem RKI.bi {r : List Int} (g : RK A B E e u (k.toNat, st) (zOf E e f)) (es : st = C (n - 1).toNat :: C (n - 2).toNat :: r) (pil : PIL C (n - 2).toNat r) (bv : BVs k st) (hk : 0 ≤ k ∧ k.toNat < e) (hv : v = A k.toNat) (h20 : 20 ≤ v ∧ v < 27) (ha : a = C (n - 2).toNat) (hb : b = C (n - 1).toNat) (hq : (br1 = 0 ∧ opV v a b = some x) ∨ (br1 = 1 ∧ opV v a b = none)) (eC : C1 = ms C (n - 2).toNat x) (hn : 2 ≤ n ∧ n1 = n - 1) (hk1 : k1 = k + 1) : RKI A B E e (zOf E e f) br1 k1 n1 C1 := by
  have e1 : rk1 A B E (k.toNat, st) = (match opV v a b with | some v => some (k.toNat + 1, v :: r) | none => none) := by
    rw [es]
    unfold rk1
    show (if A k.toNat < 20 then _ else if A k.toNat < 27 then (match opV (A k.toNat) (C (n - 2).toNat) (C (n - 1).toNat) with | some v => some (k.toNat + 1, v :: r) | none => none) else _) = _
    rw [if_neg (by omega), if_pos (by omega), ← hv, ← ha, ← hb]
  rcases hq with ⟨h1, h2⟩ | ⟨h1, h2⟩
  · rw [h2] at e1
    obtain ⟨u2, q⟩ := RKI.go1 g hk.2 e1
    have bx := opV_b h2
    rw [es] at bv
    exact ⟨Or.inl h1, fun _ => ⟨u2, x :: r, by rw [show k1.toNat = k.toNat + 1 by omega]; exact q, pil.push eC (by omega), bv.tl.tl.cons (by omega) (by omega)⟩, fun z => by omega⟩
  · rw [h2] at e1
    refine ⟨Or.inr h1, fun z => by omega, fun _ => ?_⟩
    rcases g.go hk.2 with ⟨p, q⟩ | ⟨x', p, u2, q⟩
    · exact q
    · rw [e1] at p; cases p
theorem RKI.no {r : List Int} (g : RK A B E e u (k.toNat, st) (zOf E e f)) (es : st = C (n - 1).toNat :: r) (pil : PIL C (n - 1).toNat r) (bv : BVs k st) (hk : 0 ≤ k ∧ k.toNat < e) (hv : v = A k.toNat) (h27 : v = 27) (hx : x = 1 - C (n - 1).toNat) (eC : C1 = ms C (n - 1).toNat x) (hn : 1 ≤ n ∧ n1 = n) (hb : br1 = 0) (hk1 : k1 = k + 1) : RKI A B E e (zOf E e f) br1 k1 n1 C1 := by
  have e1 : rk1 A B E (k.toNat, st) = some (k.toNat + 1, x :: r) := by
    rw [es]
    unfold rk1
    show (if A k.toNat < 20 then _ else if A k.toNat < 27 then _ else if A k.toNat = 27 then some (k.toNat + 1, (1 - C (n - 1).toNat) :: r) else _) = _
    rw [if_neg (by omega), if_neg (by omega), if_pos (by omega), hx]
  obtain ⟨u2, q⟩ := RKI.go1 g hk.2 e1
  rw [es] at bv
  have b0 := bv.hd
  exact ⟨Or.inl hb, fun _ => ⟨u2, x :: r, by rw [show k1.toNat = k.toNat + 1 by omega]; exact q, pil.push eC (by omega), bv.tl.cons (by omega) (by omega)⟩, fun z => by omega⟩
theorem RKI.ao {r : List Int} (g : RK A B E e u (k.toNat, st) (zOf E e f)) (es : st = C (n - 1).toNat :: r) (hk : 0 ≤ k ∧ k.toNat < e) (hv : v = A k.toNat) (hw : w = B k.toNat) (h28 : 28 ≤ v) (ha : a = C (n - 1).toNat) : ∃ u2 : Nat, RK A B E e u2 (if a = (if v = 28 then 0 else 1) then (w.toNat, st) else (k.toNat + 1, r)) (zOf E e f) := by
  refine RKI.go1 g hk.2 ?_
  rw [es]
  unfold rk1
  show (if A k.toNat < 20 then _ else if A k.toNat < 27 then _ else if A k.toNat = 27 then _ else (if C (n - 1).toNat = (if A k.toNat = 28 then 0 else 1) then some ((B k.toNat).toNat, C (n - 1).toNat :: r) else some (k.toNat + 1, r))) = _
  rw [if_neg (by omega), if_neg (by omega), if_neg (by omega), ← hv, ← hw, ← ha]
  split <;> split <;> rfl
theorem RKI.jy {r : List Int} (g : RK A B E e u (k.toNat, st) (zOf E e f)) (es : st = C (n - 1).toNat :: r) (pil : PIL C n.toNat st) (bv : BVs k st) (hk : 0 ≤ k ∧ k.toNat < e) (hv : v = A k.toNat) (hw : w = B k.toNat) (h28 : 28 ≤ v) (ha : a = C (n - 1).toNat) (hj : (v = 28 ∧ a = 0) ∨ (v ≠ 28 ∧ a = 1)) (hb : br1 = 0) (hk1 : k < w) : RKI A B E e (zOf E e f) br1 w n C := by
  obtain ⟨u2, q⟩ := RKI.ao g es hk hv hw h28 ha
  rw [if_pos (by split <;> omega)] at q
  exact ⟨Or.inl hb, fun _ => ⟨u2, st, q, pil, bv.up (by omega)⟩, fun z => by omega⟩
theorem RKI.jn {r : List Int} (g : RK A B E e u (k.toNat, st) (zOf E e f)) (es : st = C (n - 1).toNat :: r) (pil : PIL C (n - 1).toNat r) (bv : BVs k st) (hk : 0 ≤ k ∧ k.toNat < e) (hv : v = A k.toNat) (hw : w = B k.toNat) (h28 : 28 ≤ v) (ha : a = C (n - 1).toNat) (hj : ¬ ((v = 28 ∧ a = 0) ∨ (v ≠ 28 ∧ a = 1))) (hb : br1 = 0) (hn : n1 = n - 1) (hk1 : k1 = k + 1) : RKI A B E e (zOf E e f) br1 k1 n1 C := by
  obtain ⟨u2, q⟩ := RKI.ao g es hk hv hw h28 ha
  rw [if_neg (by split <;> omega)] at q
  rw [es] at bv
  exact ⟨Or.inl hb, fun _ => ⟨u2, r, by rw [show k1.toNat = k.toNat + 1 by omega]; exact q, by rw [hn]; exact pil, bv.tl.up (by omega)⟩, fun z => by omega⟩
theorem RKI.end_ (h : RKI A B E e (zOf E e f) br k n C) (hk : br ≠ 0 ∨ e ≤ k.toNat) : (br = 0 ∨ br = 1) ∧ (∀ x : Int, f E = some x → br = 0 ∧ n = 1 ∧ C 0 = x) ∧ (f E = none → br = 1) := by
  obtain ⟨h0, h1, h2⟩ := h
  refine ⟨h0, fun x hx => ?_, fun hx => ?_⟩
  · have ez : zOf E e f = some (e, [x]) := by unfold zOf; rw [hx]
    rcases h0 with c | c
    · obtain ⟨u, st, g, pil, bv⟩ := h1 c
      cases u with
      | zero =>
        have g' : zOf E e f = some (k.toNat, st) := g
        rw [ez] at g'
        have es : [x] = st := congrArg Prod.snd (Option.some.inj g')
        rw [← es] at pil
        by_cases n0 : n ≤ 0
        · rw [show n.toNat = 0 by omega] at pil
          cases pil
        · obtain ⟨r, e1, p1⟩ := pil.one_ (by omega)
          injection e1 with e2 e3
          rw [← e3] at p1
          by_cases n1 : n = 1
          · refine ⟨c, n1, ?_⟩
            rw [e2, n1]
            rfl
          · obtain ⟨r, e1, p1⟩ := p1.one_ (by omega)
            cases e1
      | succ u =>
        have := g.1
        have h3 : k.toNat < e := this
        omega
    · rw [h2 c] at ez; cases ez
  · have ez : zOf E e f = none := by unfold zOf; rw [hx]
    rcases h0 with c | c
    · exfalso
      obtain ⟨u, st, g, pil, bv⟩ := h1 c
      cases u with
      | zero =>
        have g' : zOf E e f = some (k.toNat, st) := g
        rw [ez] at g'
        cases g'
      | succ u =>
        have := g.1
        have h3 : k.toNat < e := this
        omega
    · exact c
end RNs
/-! what the machine is told of the glasses -/
section EPs
variable {n d op a g r : Int} {m m1 z : Nat → Int}
theorem evE_p4 (h : op = 4) (hr : r = d) : r = evE n d m z op a := by
  unfold evE
  rw [if_pos h, hr]
theorem evE_p0 (h : op ≠ 4) (hg : g = a % 6) (hn : ¬ g < n) (hr : r = 0) : r = evE n d m z op a := by
  unfold evE
  rw [if_neg h, if_pos (by omega), hr]
theorem evE_p1 (h : op = 1) (ha : 0 ≤ a ∧ a ≤ 23) (hg : g = a % 6) (hn : g < n) (hr : r = flm m g.toNat) : r = evE n d m z op a := by
  unfold evE
  rw [if_neg (by omega), if_neg (by omega), if_pos h, hr, hg]
theorem evE_p2 (h : op = 2) (ha : 0 ≤ a ∧ a ≤ 23) (hg : g = a % 6) (hn : g < n) (hr : r = z g.toNat) : r = evE n d m z op a := by
  unfold evE
  rw [if_neg (by omega), if_neg (by omega), if_neg (by omega), if_pos h, hr, hg]
theorem evE_p3 (h : op ≠ 4 ∧ op ≠ 1 ∧ op ≠ 2) (ha : 0 ≤ a ∧ a ≤ 23) (hg : g = a % 6) (hn : g < n) (hr : r = tsM m g (a / 6)) : r = evE n d m z op a := by
  unfold evE
  rw [if_neg h.1, if_neg (by omega), if_neg h.2.1, if_neg h.2.2, hr, hg]
theorem evE_cg (e : E25 m m1) : evE n d m1 z = evE n d m z := by
  funext o a
  unfold evE
  by_cases c : 0 ≤ a ∧ a ≤ 23 ∧ a % 6 < n
  · have e1 := flm_cg (g := (a % 6).toNat) e (by omega)
    have e2 : tsM m1 (a % 6) (a / 6) = tsM m (a % 6) (a / 6) := by
      unfold tsM
      rw [e1, e _ (by omega), e 24 (by omega)]
    rw [e1, e2]
  · rw [if_pos c, if_pos c]
theorem mulBR {a b : Int} (ha : -2147484648 ≤ a ∧ a ≤ 2147484648) (hb : -2147484648 ≤ b ∧ b ≤ 2147484648) : -4611690313395683904 ≤ a * b ∧ a * b ≤ 4611690313395683904 := by
  have key : ∀ x y : Int, 0 ≤ x → x ≤ 2147484648 → 0 ≤ y → y ≤ 2147484648 → 0 ≤ x * y ∧ x * y ≤ 4611690313395683904 := fun x y h1 h2 h3 h4 => by
    have p := Int.mul_nonneg h1 h3
    have q := Int.mul_le_mul h2 h4 h3 (by omega)
    omega
  by_cases x : 0 ≤ a <;> by_cases y : 0 ≤ b
  · have := key a b x ha.2 y hb.2; omega
  · have := key a (-b) x ha.2 (by omega) (by omega)
    rw [Int.mul_neg] at this; omega
  · have := key (-a) b (by omega) (by omega) y hb.2
    rw [Int.neg_mul] at this; omega
  · have := key (-a) (-b) (by omega) (by omega) (by omega) (by omega)
    rw [Int.neg_mul_neg] at this; omega
theorem tdivBR {a b : Int} (ha : -2147484648 ≤ a ∧ a ≤ 2147484648) : -2147484648 ≤ a.tdiv b ∧ a.tdiv b ≤ 2147484648 := by
  have h := Int.natAbs_tdiv_le_natAbs a b
  omega
end EPs
