/-! mixes: the least price of just so much of just such a strength, and the first row of it -/
/-- what x of a wine and the rest of the wines behind it cost; 1000000 if it can't be -/
def lsV (g : Int → Int → Int) (st pr a s x : Int) : Int := if 0 ≤ s - x * st ∧ s - x * st ≤ 100 * (a - x) then g (a - x) (s - x * st) + x * pr else 1000000
/-- the least over x < k -/
def lsX (g : Int → Int → Int) (st pr a s : Int) : Nat → Int
  | 0 => 1000000
  | k + 1 => if lsV g st pr a s k < lsX g st pr a s k then lsV g st pr a s k else lsX g st pr a s k
/-- where it lies first -/
def lsA (g : Int → Int → Int) (st pr a s : Int) : Nat → Int
  | 0 => -1
  | k + 1 => if lsV g st pr a s k < lsX g st pr a s k then (k : Int) else lsA g st pr a s k
def mK (am a : Int) : Nat := ((if am < a then am else a) + 1).toNat
/-- m wines from w on -/
def ls (r : Nat → Int) : Nat → Nat → Int → Int → Int
  | _, 0 => fun a s => if a = 0 ∧ s = 0 then 0 else 1000000
  | w, m + 1 => fun a s => lsX (ls r (w + 1) m) (r (3 * w)) (r (3 * w + 1)) a s (mK (r (3 * w + 2)) a)
def lsR (r : Nat → Int) : Nat → Nat → Int → Int → Nat → Int
  | _, 0 => fun _ _ _ => 0
  | w, m + 1 => fun a s i => match i with
    | 0 => lsA (ls r (w + 1) m) (r (3 * w)) (r (3 * w + 1)) a s (mK (r (3 * w + 2)) a)
    | i + 1 => lsR r (w + 1) m (a - lsA (ls r (w + 1) m) (r (3 * w)) (r (3 * w + 1)) a s (mK (r (3 * w + 2)) a)) (s - lsA (ls r (w + 1) m) (r (3 * w)) (r (3 * w + 1)) a s (mK (r (3 * w + 2)) a) * r (3 * w)) i
theorem ls_cg {r r' : Nat → Int} : ∀ (m w : Nat), (∀ k, 3 * w ≤ k → k < 3 * (w + m) → r k = r' k) → ls r w m = ls r' w m
  | 0, _, _ => rfl
  | m + 1, w, h => by
    unfold ls
    rw [ls_cg m (w + 1) (fun k h1 h2 => h k (by omega) (by omega)), h (3 * w) (by omega) (by omega), h (3 * w + 1) (by omega) (by omega), h (3 * w + 2) (by omega) (by omega)]
theorem lsR_cg {r r' : Nat → Int} : ∀ (m w : Nat), (∀ k, 3 * w ≤ k → k < 3 * (w + m) → r k = r' k) → lsR r w m = lsR r' w m
  | 0, _, _ => rfl
  | m + 1, w, h => by
    funext a s i
    cases i with
    | zero =>
      show lsA (ls r (w + 1) m) (r (3 * w)) (r (3 * w + 1)) a s (mK (r (3 * w + 2)) a) = lsA (ls r' (w + 1) m) (r' (3 * w)) (r' (3 * w + 1)) a s (mK (r' (3 * w + 2)) a)
      rw [ls_cg m (w + 1) (fun k h1 h2 => h k (by omega) (by omega)), h (3 * w) (by omega) (by omega), h (3 * w + 1) (by omega) (by omega), h (3 * w + 2) (by omega) (by omega)]
    | succ i =>
      show lsR r (w + 1) m (a - lsA (ls r (w + 1) m) (r (3 * w)) (r (3 * w + 1)) a s (mK (r (3 * w + 2)) a)) (s - lsA (ls r (w + 1) m) (r (3 * w)) (r (3 * w + 1)) a s (mK (r (3 * w + 2)) a) * r (3 * w)) i = lsR r' (w + 1) m (a - lsA (ls r' (w + 1) m) (r' (3 * w)) (r' (3 * w + 1)) a s (mK (r' (3 * w + 2)) a)) (s - lsA (ls r' (w + 1) m) (r' (3 * w)) (r' (3 * w + 1)) a s (mK (r' (3 * w + 2)) a) * r' (3 * w)) i
      rw [ls_cg m (w + 1) (fun k h1 h2 => h k (by omega) (by omega)), lsR_cg m (w + 1) (fun k h1 h2 => h k (by omega) (by omega)), h (3 * w) (by omega) (by omega), h (3 * w + 1) (by omega) (by omega), h (3 * w + 2) (by omega) (by omega)]
theorem lsX_le (g : Int → Int → Int) (st pr a s : Int) : ∀ k : Nat, lsX g st pr a s k ≤ 1000000
  | 0 => Int.le_refl _
  | k + 1 => by
    have := lsX_le g st pr a s k
    unfold lsX
    split <;> omega
/-- the wines' numbers are such as can be -/
def wOK (r : Nat → Int) (w m : Nat) : Prop := ∀ j : Nat, w ≤ j → j < w + m → (0 ≤ r (3 * j) ∧ r (3 * j) ≤ 100) ∧ (0 ≤ r (3 * j + 1) ∧ r (3 * j + 1) ≤ 99) ∧ (0 ≤ r (3 * j + 2) ∧ r (3 * j + 2) ≤ 20)
def agA (r : Nat → Int) : Nat → Nat → Int
  | _, 0 => 0
  | w, m + 1 => agA r (w + 1) m + r (3 * w + 2)
def agW (r : Nat → Int) : Nat → Nat → Int
  | _, 0 => 100
  | w, m + 1 => if r (3 * w) < agW r (w + 1) m then r (3 * w) else agW r (w + 1) m
def agS (r : Nat → Int) : Nat → Nat → Int
  | _, 0 => 0
  | w, m + 1 => if agS r (w + 1) m < r (3 * w) then r (3 * w) else agS r (w + 1) m
def agC (r : Nat → Int) : Nat → Nat → Int
  | _, 0 => 99
  | w, m + 1 => if r (3 * w + 1) < agC r (w + 1) m then r (3 * w + 1) else agC r (w + 1) m
theorem ag_b {r : Nat → Int} : ∀ (m w : Nat), wOK r w m → (0 ≤ agA r w m ∧ agA r w m ≤ 20 * m) ∧ (0 ≤ agW r w m ∧ agW r w m ≤ 100) ∧ (0 ≤ agS r w m ∧ agS r w m ≤ 100) ∧ (0 ≤ agC r w m ∧ agC r w m ≤ 99)
  | 0, w, _ => by unfold agA agW agS agC; omega
  | m + 1, w, h => by
    have ih := ag_b m (w + 1) (fun j h1 h2 => h j (by omega) (by omega))
    have hw := h w (by omega) (by omega)
    unfold agA agW agS agC
    refine ⟨by omega, ?_, ?_, ?_⟩ <;> split <;> omega
/-- what the least price tells of the rest -/
def lsF (r : Nat → Int) (w m : Nat) (a s v : Int) : Prop := 0 ≤ v ∧ (v < 1000000 → 0 ≤ a ∧ agW r w m * a ≤ s ∧ s ≤ agS r w m * a ∧ a ≤ agA r w m ∧ agC r w m * a ≤ v ∧ v ≤ 99 * a)
theorem mix3 {p q x y z : Int} (hx : 0 ≤ x) (hy : 0 ≤ y) (hp : z ≤ p) (hq : z ≤ q) : z * (x + y) ≤ p * x + q * y := by
  have h1 := Int.mul_le_mul_of_nonneg_right hp hx
  have h2 := Int.mul_le_mul_of_nonneg_right hq hy
  rw [Int.mul_add]
  omega
theorem mix4 {p q x y z : Int} (hx : 0 ≤ x) (hy : 0 ≤ y) (hp : p ≤ z) (hq : q ≤ z) : p * x + q * y ≤ z * (x + y) := by
  have h1 := Int.mul_le_mul_of_nonneg_right hp hx
  have h2 := Int.mul_le_mul_of_nonneg_right hq hy
  rw [Int.mul_add]
  omega
theorem lsF_V {r : Nat → Int} {w m : Nat} {a s x : Int} (h : wOK r w (m + 1)) (ih : ∀ a s : Int, lsF r (w + 1) m a s (ls r (w + 1) m a s)) (h0 : 0 ≤ x) (h1 : x ≤ r (3 * w + 2)) : lsF r w (m + 1) a s (lsV (ls r (w + 1) m) (r (3 * w)) (r (3 * w + 1)) a s x) := by
  unfold lsV
  split
  · rename_i hc
    have hi := ih (a - x) (s - x * r (3 * w))
    have hw := h w (by omega) (by omega)
    have hm : 0 ≤ x * r (3 * w + 1) := Int.mul_nonneg h0 hw.2.1.1
    have hb := ag_b m (w + 1) (fun j h1 h2 => h j (by omega) (by omega))
    refine ⟨by have := hi.1; omega, fun hv => ?_⟩
    obtain ⟨i1, i2, i3, i4, i5, i6⟩ := hi.2 (by omega)
    have e : a = (a - x) + x := by omega
    refine ⟨by omega, ?_, ?_, ?_, ?_, ?_⟩
    · have k := mix3 (p := agW r (w + 1) m) (q := r (3 * w)) (z := agW r w (m + 1)) i1 h0 (by show (if _ then _ else _) ≤ _; split <;> omega) (by show (if _ then _ else _) ≤ _; split <;> omega)
      rw [← e] at k
      rw [Int.mul_comm (r (3 * w)) x] at k
      omega
    · have k := mix4 (p := agS r (w + 1) m) (q := r (3 * w)) (z := agS r w (m + 1)) i1 h0 (by show _ ≤ (if _ then _ else _); split <;> omega) (by show _ ≤ (if _ then _ else _); split <;> omega)
      rw [← e] at k
      rw [Int.mul_comm (r (3 * w)) x] at k
      omega
    · show a ≤ agA r (w + 1) m + r (3 * w + 2)
      omega
    · have k := mix3 (p := agC r (w + 1) m) (q := r (3 * w + 1)) (z := agC r w (m + 1)) i1 h0 (by show (if _ then _ else _) ≤ _; split <;> omega) (by show (if _ then _ else _) ≤ _; split <;> omega)
      rw [← e] at k
      rw [Int.mul_comm (r (3 * w + 1)) x] at k
      omega
    · have k : x * r (3 * w + 1) ≤ x * 99 := Int.mul_le_mul_of_nonneg_left hw.2.1.2 h0
      omega
  · exact ⟨by omega, fun z => by omega⟩
theorem mK_x {am a : Int} {k : Nat} (h : k < mK am a) : (k : Int) ≤ am ∧ (k : Int) ≤ a := by
  unfold mK at h
  split at h <;> omega
theorem lsF_ls {r : Nat → Int} : ∀ (m w : Nat), wOK r w m → ∀ a s : Int, lsF r w m a s (ls r w m a s)
  | 0, w, _, a, s => by
    unfold ls
    show lsF r w 0 a s (if a = 0 ∧ s = 0 then 0 else 1000000)
    split
    · rename_i h
      refine ⟨by omega, fun _ => ?_⟩
      unfold agW agS agA agC
      omega
    · exact ⟨by omega, fun z => by omega⟩
  | m + 1, w, h, a, s => by
    have ih := lsF_ls m (w + 1) (fun j h1 h2 => h j (by omega) (by omega))
    have key : ∀ k : Nat, k ≤ mK (r (3 * w + 2)) a → lsF r w (m + 1) a s (lsX (ls r (w + 1) m) (r (3 * w)) (r (3 * w + 1)) a s k) := by
      intro k
      induction k with
      | zero => exact fun _ => ⟨by unfold lsX; omega, fun z => by unfold lsX at z; omega⟩
      | succ k ihk =>
        intro hk
        have h1 := ihk (by omega)
        have h2 := lsF_V (a := a) (s := s) h ih (show (0 : Int) ≤ k by omega) (mK_x (am := r (3 * w + 2)) (a := a) (by omega)).1
        unfold lsX
        split
        · exact h2
        · exact h1
    exact key _ (Nat.le_refl _)
theorem lsX_nn {r : Nat → Int} {m w : Nat} (h : wOK r w (m + 1)) (a s : Int) : ∀ k : Nat, k ≤ mK (r (3 * w + 2)) a → 0 ≤ lsX (ls r (w + 1) m) (r (3 * w)) (r (3 * w + 1)) a s k
  | 0, _ => by unfold lsX; omega
  | k + 1, hk => by
    have h1 := lsX_nn h a s k (by omega)
    have h2 := lsF_V (a := a) (s := s) h (lsF_ls m (w + 1) (fun j h1 h2 => h j (by omega) (by omega))) (show (0 : Int) ≤ k by omega) (mK_x (am := r (3 * w + 2)) (a := a) (by omega)).1
    unfold lsX
    split
    · exact h2.1
    · exact h1
theorem ls_le (r : Nat → Int) : ∀ (m w : Nat) (a s : Int), ls r w m a s ≤ 1000000
  | 0, w, a, s => by
    show (if a = 0 ∧ s = 0 then (0 : Int) else 1000000) ≤ 1000000
    split <;> omega
  | m + 1, w, a, s => lsX_le _ _ _ _ _ _
/-! the search: B the best price so far (-1 none), tr the row that is tried, bs the best row; behind it B1, tr1, bs1 -/
def bt (B v : Int) : Prop := v < 1000000 ∧ (B = -1 ∨ v < B)
def TK1 (r : Nat → Int) (w m : Nat) (al sl pr B B1 : Int) (tr tr1 bs bs1 : Nat → Int) : Prop :=
  (∀ i, i < w → tr1 i = tr i) ∧
  (ls r w m al sl < 1000000 → (B = -1 ∨ pr + ls r w m al sl < B) → B1 = pr + ls r w m al sl ∧ (∀ i, i < w → bs1 i = tr i) ∧ (∀ i, i < m → bs1 (w + i) = lsR r w m al sl i)) ∧
  (¬ (ls r w m al sl < 1000000 ∧ (B = -1 ∨ pr + ls r w m al sl < B)) → B1 = B ∧ ∀ i, bs1 i = bs i)
def TKL (r : Nat → Int) (w m : Nat) (al sl pr B B1 : Int) (tr tr1 bs bs1 : Nat → Int) (t : Nat) : Prop :=
  (∀ i, i < w → tr1 i = tr i) ∧
  (lsX (ls r (w + 1) m) (r (3 * w)) (r (3 * w + 1)) al sl t < 1000000 → (B = -1 ∨ pr + lsX (ls r (w + 1) m) (r (3 * w)) (r (3 * w + 1)) al sl t < B) → B1 = pr + lsX (ls r (w + 1) m) (r (3 * w)) (r (3 * w + 1)) al sl t ∧ (∀ i, i < w → bs1 i = tr i) ∧ bs1 w = lsA (ls r (w + 1) m) (r (3 * w)) (r (3 * w + 1)) al sl t ∧ (∀ i, i < m → bs1 (w + 1 + i) = lsR r (w + 1) m (al - lsA (ls r (w + 1) m) (r (3 * w)) (r (3 * w + 1)) al sl t) (sl - lsA (ls r (w + 1) m) (r (3 * w)) (r (3 * w + 1)) al sl t * r (3 * w)) i)) ∧
  (¬ (lsX (ls r (w + 1) m) (r (3 * w)) (r (3 * w + 1)) al sl t < 1000000 ∧ (B = -1 ∨ pr + lsX (ls r (w + 1) m) (r (3 * w)) (r (3 * w + 1)) al sl t < B)) → B1 = B ∧ ∀ i, bs1 i = bs i)
theorem TKL.start (r : Nat → Int) (w m : Nat) (al sl pr B : Int) (tr bs : Nat → Int) : TKL r w m al sl pr B B tr tr bs bs 0 :=
  ⟨fun _ _ => rfl, fun h => absurd h (by unfold lsX; omega), fun _ => ⟨rfl, fun _ => rfl⟩⟩
theorem TKL.done {r : Nat → Int} {w m : Nat} {al sl pr B B1 : Int} {tr tr1 bs bs1 : Nat → Int} {t : Nat} (h : TKL r w m al sl pr B B1 tr tr1 bs bs1 t) (ht : t = mK (r (3 * w + 2)) al) : TK1 r w (m + 1) al sl pr B B1 tr tr1 bs bs1 := by
  subst ht
  obtain ⟨h1, h2, h3⟩ := h
  refine ⟨h1, fun a b => ?_, h3⟩
  obtain ⟨k1, k2, k3, k4⟩ := h2 a b
  refine ⟨k1, k2, fun i hi => ?_⟩
  cases i with
  | zero => exact k3
  | succ i =>
    have := k4 i (by omega)
    rw [show w + (i + 1) = w + 1 + i by omega]
    exact this
theorem TKL.step {r : Nat → Int} {w m : Nat} {al sl pr B B1 B2 : Int} {tr tr1 trT tr2 bs bs1 bs2 : Nat → Int} {t : Nat} (hw : wOK r w (m + 1)) (hal : al ≤ 20) (ht : t < mK (r (3 * w + 2)) al) (hpr : 0 ≤ pr) (h : TKL r w m al sl pr B B1 tr tr1 bs bs1 t) (hT : trT = ms tr1 w (t : Int))
    (k : TK1 r (w + 1) m (al - t) (sl - t * r (3 * w)) (pr + t * r (3 * w + 1)) B1 B2 trT tr2 bs1 bs2) : TKL r w m al sl pr B B2 tr tr2 bs bs2 (t + 1) := by
  obtain ⟨h1, h2, h3⟩ := h
  obtain ⟨k1, k2, k3⟩ := k
  have hF := lsF_ls m (w + 1) (fun j a b => hw j (by omega) (by omega)) (al - t) (sl - t * r (3 * w))
  have hle := ls_le r m (w + 1) (al - t) (sl - t * r (3 * w))
  have hXle := lsX_le (ls r (w + 1) m) (r (3 * w)) (r (3 * w + 1)) al sl t
  have hX0 := lsX_nn hw al sl t (by omega)
  have hb := ag_b m (w + 1) (fun j a b => hw j (by omega) (by omega))
  have hww := hw w (by omega) (by omega)
  have hmx := mK_x ht
  have htc : 0 ≤ (t : Int) * r (3 * w + 1) := Int.mul_nonneg (by omega) hww.2.1.1
  have htc2 : (t : Int) * r (3 * w + 1) ≤ t * 99 := Int.mul_le_mul_of_nonneg_left hww.2.1.2 (by omega)
  have trw : ∀ i, i < w → trT i = tr1 i := fun i hi => by rw [hT]; unfold ms; rw [if_neg (by omega)]
  have trW : trT w = t := by rw [hT]; unfold ms; rw [if_pos rfl]
  -- the value at t
  have hV : (ls r (w + 1) m (al - t) (sl - t * r (3 * w)) < 1000000 → lsV (ls r (w + 1) m) (r (3 * w)) (r (3 * w + 1)) al sl t = ls r (w + 1) m (al - t) (sl - t * r (3 * w)) + t * r (3 * w + 1)) ∧ (¬ ls r (w + 1) m (al - t) (sl - t * r (3 * w)) < 1000000 → 1000000 ≤ lsV (ls r (w + 1) m) (r (3 * w)) (r (3 * w + 1)) al sl t) := by
    refine ⟨fun z => ?_, fun z => ?_⟩
    · obtain ⟨i1, i2, i3, i4, i5, i6⟩ := hF.2 z
      have j1 : 0 ≤ agW r (w + 1) m * (al - t) := Int.mul_nonneg hb.2.1.1 i1
      have j2 : agS r (w + 1) m * (al - t) ≤ 100 * (al - t) := Int.mul_le_mul_of_nonneg_right hb.2.2.1.2 i1
      unfold lsV
      rw [if_pos ⟨by omega, by omega⟩]
    · unfold lsV
      split <;> omega
  generalize hLe : ls r (w + 1) m (al - t) (sl - t * r (3 * w)) = L at k1 k2 k3 hF hle hV
  have hsm : L < 1000000 → L + t * r (3 * w + 1) < 1000000 := fun z => by
    obtain ⟨i1, i2, i3, i4, i5, i6⟩ := hF.2 z
    omega
  refine ⟨fun i hi => by rw [k1 i (by omega), trw i hi]; exact h1 i hi, ?_⟩
  have eX : lsX (ls r (w + 1) m) (r (3 * w)) (r (3 * w + 1)) al sl (t + 1) = if lsV (ls r (w + 1) m) (r (3 * w)) (r (3 * w + 1)) al sl t < lsX (ls r (w + 1) m) (r (3 * w)) (r (3 * w + 1)) al sl t then lsV (ls r (w + 1) m) (r (3 * w)) (r (3 * w + 1)) al sl t else lsX (ls r (w + 1) m) (r (3 * w)) (r (3 * w + 1)) al sl t := rfl
  have eA : lsA (ls r (w + 1) m) (r (3 * w)) (r (3 * w + 1)) al sl (t + 1) = if lsV (ls r (w + 1) m) (r (3 * w)) (r (3 * w + 1)) al sl t < lsX (ls r (w + 1) m) (r (3 * w)) (r (3 * w + 1)) al sl t then (t : Int) else lsA (ls r (w + 1) m) (r (3 * w)) (r (3 * w + 1)) al sl t := rfl
  generalize lsV (ls r (w + 1) m) (r (3 * w)) (r (3 * w + 1)) al sl t = V at hV eX eA
  generalize lsX (ls r (w + 1) m) (r (3 * w)) (r (3 * w + 1)) al sl t = X at h2 h3 hXle hX0 eX eA
  generalize lsA (ls r (w + 1) m) (r (3 * w)) (r (3 * w + 1)) al sl t = A at h2 eA
  rw [eX, eA]
  by_cases c : L < 1000000 ∧ (B1 = -1 ∨ pr + t * r (3 * w + 1) + L < B1)
  · -- a better one
    obtain ⟨k4, k5, k6⟩ := k2 c.1 c.2
    have v1 := hV.1 c.1
    have lt : V < X := by
      by_cases d : X < 1000000 ∧ (B = -1 ∨ pr + X < B)
      · have := (h2 d.1 d.2).1; omega
      · have := (h3 d).1; omega
    have ok : B = -1 ∨ pr + V < B := by
      by_cases d : X < 1000000 ∧ (B = -1 ∨ pr + X < B)
      · omega
      · have := (h3 d).1; omega
    rw [if_pos lt, if_pos lt]
    have hs := hsm c.1
    refine ⟨fun _ _ => ⟨by omega, fun i hi => by rw [k5 i (by omega), trw i hi]; exact h1 i hi, by rw [k5 w (by omega), trW], fun i hi => k6 i hi⟩, fun z => absurd ⟨by omega, ok⟩ z⟩
  · -- none
    obtain ⟨k4, k5⟩ := k3 c
    by_cases lt : V < X
    · have hL : L < 1000000 := by
        by_cases q : L < 1000000
        · exact q
        · have := hV.2 q; omega
      have v1 := hV.1 hL
      rw [if_pos lt, if_pos lt]
      have nd : ¬ (X < 1000000 ∧ (B = -1 ∨ pr + X < B)) := fun d => by
        have := (h2 d.1 d.2).1
        exact c ⟨hL, by omega⟩
      obtain ⟨h4, h5⟩ := h3 nd
      refine ⟨fun a b => absurd ⟨hL, by omega⟩ c, fun _ => ⟨by omega, fun i => by rw [k5 i, h5 i]⟩⟩
    · rw [if_neg lt, if_neg lt]
      refine ⟨fun a b => ?_, fun z => ?_⟩
      · obtain ⟨q1, q2, q3, q4⟩ := h2 a b
        exact ⟨by omega, fun i hi => by rw [k5 i]; exact q2 i hi, by rw [k5 w]; exact q3, fun i hi => by rw [k5]; exact q4 i hi⟩
      · obtain ⟨q1, q2⟩ := h3 z
        exact ⟨by omega, fun i => by rw [k5 i, q2 i]⟩
/-- what can't be, or not cheaper: nothing is found -/
theorem TK1.cut {r : Nat → Int} {w m : Nat} {al sl pr B : Int} {tr bs : Nat → Int} (hw : wOK r w m) (h : (agA r w m < al ∨ sl < al * agW r w m ∨ al * agS r w m < sl) ∨ (B ≠ -1 ∧ B ≤ pr + al * agC r w m)) : TK1 r w m al sl pr B B tr tr bs bs := by
  have hF := lsF_ls m w hw al sl
  refine ⟨fun _ _ => rfl, fun a b => ?_, fun _ => ⟨rfl, fun _ => rfl⟩⟩
  obtain ⟨i1, i2, i3, i4, i5, i6⟩ := hF.2 a
  rw [Int.mul_comm] at i2 i3 i5
  exact absurd h (by omega)
theorem TK1.leaf {r : Nat → Int} {w : Nat} {al sl pr B B1 : Int} {tr bs bs1 : Nat → Int} (ha : al = 0) (hs : sl = 0) (hb : B = -1 ∨ pr < B) (e : B1 = pr) (hc : ∀ i, i < w → bs1 i = tr i) : TK1 r w 0 al sl pr B B1 tr tr bs bs1 := by
  have e0 : ls r w 0 al sl = 0 := by
    show (if al = 0 ∧ sl = 0 then (0 : Int) else 1000000) = 0
    rw [if_pos ⟨ha, hs⟩]
  refine ⟨fun _ _ => rfl, fun _ _ => ⟨by rw [e0]; omega, hc, fun i hi => absurd hi (Nat.not_lt_zero i)⟩, fun z => absurd ⟨by rw [e0]; omega, by rw [e0]; omega⟩ z⟩
