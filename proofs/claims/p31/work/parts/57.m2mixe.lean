theorem BXe.lt {r : Nat → Int} {n w a s b x v : Int} (h : BXe r n w a s b x) (hx : 0 ≤ x) (hv : v = lsV (lsW r n (w + 1)) (r (31 + 3 * w).toNat) (r (31 + 3 * w + 1).toNat) a s x) (c : v < b) : BXe r n w a s v (x + 1) := by
  have k := BXe.step h hx hv
  rw [if_pos c] at k
  exact k
theorem BXe.ge {r : Nat → Int} {n w a s b x v : Int} (h : BXe r n w a s b x) (hx : 0 ≤ x) (hv : v = lsV (lsW r n (w + 1)) (r (31 + 3 * w).toNat) (r (31 + 3 * w + 1).toNat) a s x) (c : b ≤ v) : BXe r n w a s b (x + 1) := by
  have k := BXe.step h hx hv
  rw [if_neg (by omega)] at k
  exact k
theorem BXe.fin2 {r : Nat → Int} {n w a s b x : Int} (h : BXe r n w a s b x) (hw : 0 ≤ w) (hwn : w < n) (h1 : x ≤ r (31 + 3 * w + 2).toNat + 1) (h2 : x ≤ a + 1) (h3 : r (31 + 3 * w + 2).toNat < x ∨ a < x) : b = lsW r n w a s := by
  refine BXe.fin h hw hwn ?_
  split <;> omega
theorem LNe.done2 {f r : Nat → Int} {A n a s w : Int} (h : LNe f A n a s) (ha : A < a) (hw : w = n) : LVe f r A n w := by rw [hw]; exact h.done ha
theorem lsA_at {f r : Nat → Int} {A n w a s : Int} (ve : LVe f r A n 0) (hw0 : 0 ≤ w) (hwn : w < n) (ha : 0 ≤ a ∧ a ≤ A) (hs : 0 ≤ s ∧ s ≤ 100 * a) (hl : f (ix w a s) < 1000000) :
    (0 ≤ lsA (lsW r n (w + 1)) (r (31 + 3 * w).toNat) (r (31 + 3 * w + 1).toNat) a s (mK (r (31 + 3 * w + 2).toNat) a) ∧ lsA (lsW r n (w + 1)) (r (31 + 3 * w).toNat) (r (31 + 3 * w + 1).toNat) a s (mK (r (31 + 3 * w + 2).toNat) a) ≤ a) ∧
    ISL f r w a s (lsA (lsW r n (w + 1)) (r (31 + 3 * w).toNat) (r (31 + 3 * w + 1).toNat) a s (mK (r (31 + 3 * w + 2).toNat) a)) ∧
    ∀ x : Int, 0 ≤ x → x < lsA (lsW r n (w + 1)) (r (31 + 3 * w).toNat) (r (31 + 3 * w + 1).toNat) a s (mK (r (31 + 3 * w + 2).toNat) a) → ¬ ISL f r w a s x := by
  have e0 := (ve w a s hw0 (by omega) ha.1 ha.2 hs.1 hs.2).trans (lsW_s (a := a) (s := s) hw0 hwn)
  have hl2 := hl
  rw [e0] at hl2
  obtain ⟨⟨a1, a2⟩, a3, a4⟩ := lsA_p _ _ _ _ _ _ hl2
  generalize hT : lsA (lsW r n (w + 1)) (r (31 + 3 * w).toNat) (r (31 + 3 * w + 1).toNat) a s (mK (r (31 + 3 * w + 2).toNat) a) = T at a1 a2 a3 a4 ⊢
  obtain ⟨t, rfl⟩ := Int.eq_ofNat_of_zero_le a1
  have a5 := mK_x (k := t) (am := r (31 + 3 * w + 2).toNat) (a := a) (by omega)
  refine ⟨⟨a1, a5.2⟩, ?_, fun x h0 h1 z => ?_⟩
  · unfold lsV at a3
    split at a3
    · rename_i c
      refine ⟨c.1, c.2, ?_⟩
      rw [ve (w + 1) (a - t) (s - t * r (31 + 3 * w).toNat) (by omega) (by omega) (by omega) (by omega) c.1 c.2, e0]
      exact a3
    · omega
  · obtain ⟨z1, z2, z3⟩ := z
    have k := a4 x h0 h1
    unfold lsV at k
    rw [if_pos ⟨z1, z2⟩] at k
    rw [ve (w + 1) (a - x) (s - x * r (31 + 3 * w).toNat) (by omega) (by omega) (by omega) (by omega) z1 z2, e0] at z3
    omega
/-- the way of the first row down to wine w -/
def PTH (r : Nat → Int) (n A S w a s : Int) : Prop := ∀ i : Nat, lsR (rr r) 0 n.toNat A S (w.toNat + i) = lsR (rr r) w.toNat (n - w).toNat a s i
theorem PTH.start (r : Nat → Int) (n A S : Int) : PTH r n A S 0 A S := by
  intro i
  rw [show (0 : Int).toNat = 0 from rfl, Nat.zero_add, Int.sub_zero]
theorem PTH.step {r : Nat → Int} {n A S w a s t : Int} (h : PTH r n A S w a s) (hw0 : 0 ≤ w) (hwn : w < n) (ht : t = lsA (lsW r n (w + 1)) (r (31 + 3 * w).toNat) (r (31 + 3 * w + 1).toNat) a s (mK (r (31 + 3 * w + 2).toNat) a)) : PTH r n A S (w + 1) (a - t) (s - t * r (31 + 3 * w).toNat) ∧ lsR (rr r) 0 n.toNat A S w.toNat = t := by
  have e : lsA (ls (rr r) (w.toNat + 1) (n - (w + 1)).toNat) (rr r (3 * w.toNat)) (rr r (3 * w.toNat + 1)) a s (mK (rr r (3 * w.toNat + 2)) a) = t := by
    rw [ht]
    unfold rr
    rw [show 31 + 3 * w.toNat = (31 + 3 * w).toNat by omega, show 31 + (3 * w.toNat + 1) = (31 + 3 * w + 1).toNat by omega, show 31 + (3 * w.toNat + 2) = (31 + 3 * w + 2).toNat by omega, show w.toNat + 1 = (w + 1).toNat by omega]
    rfl
  have e2 : rr r (3 * w.toNat) = r (31 + 3 * w).toNat := by
    unfold rr
    rw [show 31 + 3 * w.toNat = (31 + 3 * w).toNat by omega]
  have hk : (n - w).toNat = (n - (w + 1)).toNat + 1 := by omega
  unfold PTH at h
  rw [hk] at h
  refine ⟨fun i => ?_, ?_⟩
  · have k := h (i + 1)
    rw [show w.toNat + (i + 1) = (w + 1).toNat + i by omega] at k
    rw [k]
    show lsR (rr r) (w.toNat + 1) (n - (w + 1)).toNat (a - lsA (ls (rr r) (w.toNat + 1) (n - (w + 1)).toNat) (rr r (3 * w.toNat)) (rr r (3 * w.toNat + 1)) a s (mK (rr r (3 * w.toNat + 2)) a)) (s - lsA (ls (rr r) (w.toNat + 1) (n - (w + 1)).toNat) (rr r (3 * w.toNat)) (rr r (3 * w.toNat + 1)) a s (mK (rr r (3 * w.toNat + 2)) a) * rr r (3 * w.toNat)) i = _
    rw [e, e2, show w.toNat + 1 = (w + 1).toNat by omega]
  · have k := h 0
    rw [Nat.add_zero] at k
    rw [k]
    exact e
theorem LVe.top {f r : Nat → Int} {A n a s : Int} (ve : LVe f r A n 0) (hn : 0 ≤ n) (ha : 0 ≤ a ∧ a ≤ A) (hs : 0 ≤ s ∧ s ≤ 100 * a) : f (ix 0 a s) = ls (rr r) 0 n.toNat a s := by
  rw [ve 0 a s (by omega) hn ha.1 ha.2 hs.1 hs.2]
  unfold lsW
  rw [Int.sub_zero]
  rfl
theorem mixQ.far {r : Nat → Int} {n : Nat} {a b w v : Int} (c : 1 ≤ a ∧ a ≤ 20 ∧ 0 ≤ b ∧ b ≤ 100 ∧ 0 ≤ w ∧ w ≤ n) (h : v = ls r 0 n a (a * b)) (hv : 1000000 ≤ v) : mixQ r n a b w (-1) :=
  ⟨fun _ => ⟨fun z => absurd z (by omega), fun _ => rfl⟩, fun z => absurd c z⟩
theorem mixQ.zero {r : Nat → Int} {n : Nat} {a b w v : Int} (c : 1 ≤ a ∧ a ≤ 20 ∧ 0 ≤ b ∧ b ≤ 100 ∧ 0 ≤ w ∧ w ≤ n) (h : v = ls r 0 n a (a * b)) (hv : v < 1000000) (hw : w = 0) : mixQ r n a b w v :=
  ⟨fun _ => ⟨fun _ => ⟨fun _ => h, fun z => absurd hw z⟩, fun z => absurd (by omega) z⟩, fun z => absurd c z⟩
theorem mixQ.lst {r : Nat → Int} {n : Nat} {a b w x : Int} (c : 1 ≤ a ∧ a ≤ 20 ∧ 0 ≤ b ∧ b ≤ 100 ∧ 0 ≤ w ∧ w ≤ n) (h : ls r 0 n a (a * b) < 1000000) (hw : w ≠ 0) (hx : x = lsR r 0 n a (a * b) (w - 1).toNat) : mixQ r n a b w x :=
  ⟨fun _ => ⟨fun _ => ⟨fun z => absurd z hw, fun _ => hx⟩, fun z => absurd h z⟩, fun z => absurd c z⟩
