/-! mixes: the reference's side. r: its row (wines from 31 on) -/
def rr (r : Nat → Int) : Nat → Int := fun k => r (31 + k)
def lsW (r : Nat → Int) (n w a s : Int) : Int := ls (rr r) w.toNat (n - w).toNat a s
def LVe (f r : Nat → Int) (A n w0 : Int) : Prop := ∀ w a s : Int, w0 ≤ w → w ≤ n → 0 ≤ a → a ≤ A → 0 ≤ s → s ≤ 100 * a → f (ix w a s) = lsW r n w a s
def LNe (f : Nat → Int) (A n a s : Int) : Prop := ∀ a' s' : Int, 0 ≤ a' → a' ≤ A → 0 ≤ s' → s' ≤ 100 * A → (a' < a ∨ (a' = a ∧ s' < s)) → f (ix n a' s') = if a' = 0 ∧ s' = 0 then 0 else 1000000
def LPe (f r : Nat → Int) (A n w a s : Int) : Prop := LVe f r A n (w + 1) ∧ ∀ a' s' : Int, 0 ≤ a' → a' ≤ A → 0 ≤ s' → s' ≤ 100 * a' → (a' < a ∨ (a' = a ∧ s' < s)) → f (ix w a' s') = lsW r n w a' s'
def BXe (r : Nat → Int) (n w a s b x : Int) : Prop := b = lsX (lsW r n (w + 1)) (r (31 + 3 * w).toNat) (r (31 + 3 * w + 1).toNat) a s x.toNat
theorem lsW_s {r : Nat → Int} {n w a s : Int} (h0 : 0 ≤ w) (h1 : w < n) : lsW r n w a s = lsX (lsW r n (w + 1)) (r (31 + 3 * w).toNat) (r (31 + 3 * w + 1).toNat) a s (mK (r (31 + 3 * w + 2).toNat) a) := by
  unfold lsW
  rw [show (n - w).toNat = (n - (w + 1)).toNat + 1 by omega]
  show lsX (ls (rr r) (w.toNat + 1) (n - (w + 1)).toNat) (rr r (3 * w.toNat)) (rr r (3 * w.toNat + 1)) a s (mK (rr r (3 * w.toNat + 2)) a) = _
  unfold rr
  rw [show 31 + 3 * w.toNat = (31 + 3 * w).toNat by omega, show 31 + (3 * w.toNat + 1) = (31 + 3 * w + 1).toNat by omega, show 31 + (3 * w.toNat + 2) = (31 + 3 * w + 2).toNat by omega, show w.toNat + 1 = (w + 1).toNat by omega]
theorem lsW_n {r : Nat → Int} {n a s : Int} : lsW r n n a s = if a = 0 ∧ s = 0 then 0 else 1000000 := by
  unfold lsW
  rw [show (n - n).toNat = 0 by omega]
  rfl
theorem LNe.zero (f : Nat → Int) (A n : Int) : LNe f A n 0 0 := fun a' s' h1 h2 h3 h4 h5 => by omega
theorem LNe.step {f f' : Nat → Int} {A n a s v : Int} {i : Nat} (h : LNe f A n a s) (e : f' = ms f i v) (hi : i = ix n a s) (hA : A ≤ 20) (hn : 0 ≤ n) (ha : 0 ≤ a) (hs : 0 ≤ s ∧ s ≤ 100 * A) (hv : v = if a = 0 ∧ s = 0 then 0 else 1000000) : LNe f' A n a (s + 1) := by
  intro a' s' h1 h2 h3 h4 h5
  rw [e]
  rcases ms_cases f i (ix n a' s') v with ⟨z, b⟩ | ⟨z, b⟩ <;> rw [b]
  · rw [hi] at z
    unfold ix at z
    have z1 : a' = a ∧ s' = s := by omega
    rw [z1.1, z1.2]; exact hv
  · refine h a' s' h1 h2 h3 h4 ?_
    rw [hi] at z; unfold ix at z
    by_cases hz : a' = a ∧ s' = s
    · exact absurd (by rw [hz.1, hz.2]) z
    · omega
theorem LNe.row {f : Nat → Int} {A n a s : Int} (h : LNe f A n a s) (hs : 100 * A < s) : LNe f A n (a + 1) 0 := fun a' s' h1 h2 h3 h4 h5 => h a' s' h1 h2 h3 h4 (by omega)
theorem LNe.done {f r : Nat → Int} {A n a s : Int} (h : LNe f A n a s) (ha : A < a) : LVe f r A n n := fun w a' s' h1 h2 h3 h4 h5 h6 => by
  rw [show w = n by omega, lsW_n]
  exact h a' s' h3 h4 h5 (by omega) (by omega)
theorem LPe.start {f r : Nat → Int} {A n w : Int} (h : LVe f r A n (w + 1)) : LPe f r A n w 0 0 := ⟨h, fun a' s' h1 h2 h3 h4 h5 => by omega⟩
theorem LPe.step {f f' r : Nat → Int} {A n w a s b : Int} {i : Nat} (h : LPe f r A n w a s) (hb : b = lsW r n w a s) (e : f' = ms f i b) (hi : i = ix w a s) (hA : A ≤ 20) (hw : 0 ≤ w) (ha : 0 ≤ a ∧ a ≤ A) (hs : 0 ≤ s ∧ s ≤ 100 * a) : LPe f' r A n w a (s + 1) := by
  refine ⟨fun w' a' s' h1 h2 h3 h4 h5 h6 => ?_, fun a' s' h1 h2 h3 h4 h5 => ?_⟩
  · rw [← h.1 w' a' s' h1 h2 h3 h4 h5 h6, e]
    rcases ms_cases f i (ix w' a' s') b with ⟨z, b⟩ | ⟨z, b⟩
    · rw [hi] at z; unfold ix at z; omega
    · exact b
  · rw [e]
    rcases ms_cases f i (ix w a' s') b with ⟨z, b2⟩ | ⟨z, b2⟩ <;> rw [b2]
    · rw [hi] at z; unfold ix at z
      have z1 : a' = a ∧ s' = s := by omega
      rw [z1.1, z1.2]; exact hb
    · refine h.2 a' s' h1 h2 h3 h4 ?_
      rw [hi] at z; unfold ix at z
      by_cases hz : a' = a ∧ s' = s
      · exact absurd (by rw [hz.1, hz.2]) z
      · omega
theorem LPe.row {f r : Nat → Int} {A n w a s : Int} (h : LPe f r A n w a s) (hs : 100 * a < s) : LPe f r A n w (a + 1) 0 := ⟨h.1, fun a' s' h1 h2 h3 h4 h5 => h.2 a' s' h1 h2 h3 h4 (by omega)⟩
theorem LPe.done {f r : Nat → Int} {A n w a s w' : Int} (h : LPe f r A n w a s) (ha : A < a) (hw' : w' = w) : LVe f r A n w' := fun v a' s' h1 h2 h3 h4 h5 h6 => by
  by_cases hz : v = w
  · subst hz
    exact h.2 a' s' h3 h4 h5 h6 (by omega)
  · exact h.1 v a' s' (by omega) h2 h3 h4 h5 h6
theorem BXe.zero (r : Nat → Int) (n w a s : Int) : BXe r n w a s 1000000 0 := rfl
/-- one more x: v is what it costs, or 1000000 -/
theorem BXe.step {r : Nat → Int} {n w a s b x v : Int} (h : BXe r n w a s b x) (hx : 0 ≤ x) (hv : v = lsV (lsW r n (w + 1)) (r (31 + 3 * w).toNat) (r (31 + 3 * w + 1).toNat) a s x) : BXe r n w a s (if v < b then v else b) (x + 1) := by
  unfold BXe at h ⊢
  obtain ⟨k, rfl⟩ := Int.eq_ofNat_of_zero_le hx
  rw [show ((k : Int) + 1).toNat = k + 1 by omega]
  rw [Int.toNat_natCast] at h
  show _ = if lsV _ _ _ a s k < lsX _ _ _ a s k then lsV _ _ _ a s k else lsX _ _ _ a s k
  rw [← hv, ← h]
theorem BXe.v1 {f r : Nat → Int} {A n w a s x p q L l : Int} (hf : LVe f r A n (w + 1)) (hp : p = x * r (31 + 3 * w).toNat) (hq : q = x * r (31 + 3 * w + 1).toNat) (hL : L = s - p) (h0 : 0 ≤ L) (h1 : L ≤ 100 * (a - x)) (hl : l = f (ix (w + 1) (a - x) L)) (hwn : w < n) (hx : 0 ≤ a - x ∧ a - x ≤ A) : l + q = lsV (lsW r n (w + 1)) (r (31 + 3 * w).toNat) (r (31 + 3 * w + 1).toNat) a s x := by
  unfold lsV
  rw [← hp, ← hq, ← hL, if_pos ⟨h0, h1⟩, hl, hf (w + 1) (a - x) L (by omega) (by omega) hx.1 hx.2 h0 h1]
theorem BXe.v2 {r : Nat → Int} {n w a s x p L : Int} (hp : p = x * r (31 + 3 * w).toNat) (hL : L = s - p) (h : L < 0 ∨ 100 * (a - x) < L) : (1000000 : Int) = lsV (lsW r n (w + 1)) (r (31 + 3 * w).toNat) (r (31 + 3 * w + 1).toNat) a s x := by
  unfold lsV
  rw [← hp, ← hL, if_neg (by omega)]
theorem BXe.fin {r : Nat → Int} {n w a s b x : Int} (h : BXe r n w a s b x) (hw : 0 ≤ w) (hwn : w < n) (hx : x = (if r (31 + 3 * w + 2).toNat < a then r (31 + 3 * w + 2).toNat else a) + 1) : b = lsW r n w a s := by
  rw [lsW_s hw hwn]
  unfold BXe at h
  rw [h]
  unfold mK
  rw [← hx]
/-- the first place of the least -/
theorem lsA_p (g : Int → Int → Int) (st pr a s : Int) : ∀ k : Nat, lsX g st pr a s k < 1000000 → (0 ≤ lsA g st pr a s k ∧ lsA g st pr a s k < k) ∧ lsV g st pr a s (lsA g st pr a s k) = lsX g st pr a s k ∧ ∀ x : Int, 0 ≤ x → x < lsA g st pr a s k → lsX g st pr a s k < lsV g st pr a s x
  | 0, h => absurd h (by unfold lsX; omega)
  | k + 1, h => by
    have ih := lsA_p g st pr a s k
    have all : ∀ k : Nat, ∀ x : Int, 0 ≤ x → x < k → lsX g st pr a s k ≤ lsV g st pr a s x := by
      intro k
      induction k with
      | zero => intro x h0 h1; omega
      | succ k ihk =>
        intro x h0 h1
        unfold lsX
        by_cases c : x = k
        · subst c; split <;> omega
        · have := ihk x h0 (by omega)
          split <;> omega
    unfold lsX at h ⊢
    unfold lsA
    split
    · rename_i c
      refine ⟨by omega, rfl, fun x h0 h1 => ?_⟩
      have := all k x h0 h1
      omega
    · rename_i c
      rw [if_neg c] at h
      obtain ⟨i1, i2, i3⟩ := ih h
      exact ⟨by omega, i2, i3⟩
