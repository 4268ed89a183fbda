def okrow (i : Nat) (x : Int) : Prop := i ≠ 1 ∧ (i = 0 → 0 ≤ x ∧ x ≤ 6) ∧ (i = 2 → 0 ≤ x ∧ x ≤ 6) ∧ (i = 3 → 0 ≤ x ∧ x ≤ 6) ∧ (4 ≤ i → i ≤ 9 → 0 ≤ x ∧ x ≤ 60) ∧ (10 ≤ i → i ≤ 12 → 1 ≤ x ∧ x ≤ 60) ∧ (13 ≤ i → i ≤ 30 → ((i - 13) % 3 = 0 → 0 ≤ x ∧ x ≤ 5) ∧ ((i - 13) % 3 = 1 → 0 ≤ x ∧ x ≤ 3)) ∧ (31 ≤ i → i ≤ 48 → ((i - 31) % 3 = 0 → 0 ≤ x ∧ x ≤ 100) ∧ ((i - 31) % 3 = 1 → 0 ≤ x ∧ x ≤ 99) ∧ ((i - 31) % 3 = 2 → 0 ≤ x ∧ x ≤ 20))
theorem ms_cases (m : Nat → Int) (i j : Nat) (x : Int) : (j = i ∧ ms m i x j = x) ∨ (j ≠ i ∧ ms m i x j = m j) := by
  by_cases h : j = i
  · left; exact ⟨h, by simp [ms, h]⟩
  · right; exact ⟨h, by simp [ms, h]⟩
theorem rowOK.wr {m : Nat → Int} {i : Nat} {x : Int} (h : rowOK m) (hw : okrow i x) : rowOK (ms m i x) := by
  obtain ⟨h0, h1, h2, h3, h4, h5, h6, h7⟩ := h
  obtain ⟨w1, w0, w2, w3, w4, w5, w6, w7⟩ := hw
  have e1 : ms m i x 1 = m 1 := by rcases ms_cases m i 1 x with ⟨a, b⟩ | ⟨a, b⟩; · omega
                                   · exact b
  refine ⟨?_, by rw [e1]; exact h1, ?_, ?_, fun j hj => ?_, fun j hj => ?_, fun j hj => ?_, fun j hj => ?_⟩
  · rcases ms_cases m i 0 x with ⟨a, b⟩ | ⟨a, b⟩ <;> rw [b]
    · exact w0 a.symm
    · exact h0
  · rcases ms_cases m i 2 x with ⟨a, b⟩ | ⟨a, b⟩ <;> rw [b]
    · exact w2 a.symm
    · exact h2
  · rcases ms_cases m i 3 x with ⟨a, b⟩ | ⟨a, b⟩ <;> rw [b]
    · exact w3 a.symm
    · exact h3
  · rcases ms_cases m i (4 + j) x with ⟨a, b⟩ | ⟨a, b⟩ <;> rw [b]
    · exact w4 (by omega) (by omega)
    · exact h4 j hj
  · rw [e1] at hj
    rcases ms_cases m i (10 + j) x with ⟨a, b⟩ | ⟨a, b⟩ <;> rw [b]
    · exact w5 (by omega) (by omega)
    · exact h5 j hj
  · have h6j := h6 j hj
    refine ⟨?_, ?_⟩
    · rcases ms_cases m i (13 + 3 * j) x with ⟨a, b⟩ | ⟨a, b⟩ <;> rw [b]
      · exact (w6 (by omega) (by omega)).1 (by omega)
      · exact h6j.1
    · rcases ms_cases m i (14 + 3 * j) x with ⟨a, b⟩ | ⟨a, b⟩ <;> rw [b]
      · exact (w6 (by omega) (by omega)).2 (by omega)
      · exact h6j.2
  · have h7j := h7 j hj
    refine ⟨?_, ?_, ?_⟩
    · rcases ms_cases m i (31 + 3 * j) x with ⟨a, b⟩ | ⟨a, b⟩ <;> rw [b]
      · exact (w7 (by omega) (by omega)).1 (by omega)
      · exact h7j.1
    · rcases ms_cases m i (32 + 3 * j) x with ⟨a, b⟩ | ⟨a, b⟩ <;> rw [b]
      · exact (w7 (by omega) (by omega)).2.1 (by omega)
      · exact h7j.2.1
    · rcases ms_cases m i (33 + 3 * j) x with ⟨a, b⟩ | ⟨a, b⟩ <;> rw [b]
      · exact (w7 (by omega) (by omega)).2.2 (by omega)
      · exact h7j.2.2
theorem mu_is (M : Mm) (c i : Nat) (x : Int) : mu M c i x c = ms (M c) i x := by simp [mu]
theorem IM.wrow {M M' : Mm} {i : Nat} {x : Int} (h : IM M) (e : M' = mu M 99 i x) (hw : okrow i x) : IM M' := by
  refine h.row (Fr.wr Fr.rf e rfl) ?_
  rw [e, mu_is]
  exact h.1.wr hw
theorem rowOK.w1 {m : Nat → Int} {x : Int} (h : rowOK m) (h0 : 0 ≤ x ∧ x ≤ 3) (hs : ∀ i : Nat, (i : Int) < x → 1 ≤ m (10 + i) ∧ m (10 + i) ≤ 60) : rowOK (ms m 1 x) := by
  obtain ⟨a0, a1, a2, a3, a4, a5, a6, a7⟩ := h
  have e : ∀ j, j ≠ 1 → ms m 1 x j = m j := fun j hj => by simp [ms, hj]
  refine ⟨by rw [e 0 (by omega)]; exact a0, by simp only [ms, if_true]; exact h0, by rw [e 2 (by omega)]; exact a2, by rw [e 3 (by omega)]; exact a3, fun j hj => by rw [e _ (by omega)]; exact a4 j hj, fun j hj => ?_, fun j hj => by rw [e _ (by omega), e _ (by omega)]; exact a6 j hj, fun j hj => by rw [e _ (by omega), e _ (by omega), e _ (by omega)]; exact a7 j hj⟩
  simp only [ms, if_true] at hj
  rw [e _ (by omega)]
  exact hs j hj
theorem IM.wrow1 {M M' : Mm} {x : Int} (h : IM M) (e : M' = mu M 99 1 x) (h0 : 0 ≤ x ∧ x ≤ 3) (hs : ∀ i : Nat, (i : Int) < x → 1 ≤ M 99 (10 + i) ∧ M 99 (10 + i) ≤ 60) : IM M' := by
  refine h.row (Fr.wr Fr.rf e rfl) ?_
  rw [e, mu_is]
  exact h.1.w1 h0 hs
theorem rowOK.wi {m : Nat → Int} (h : rowOK m) {i : Int} (h0 : 31 ≤ i) (h1 : i ≤ 48) : ((i - 31) % 3 = 0 → 0 ≤ m i.toNat ∧ m i.toNat ≤ 100) ∧ ((i - 31) % 3 = 1 → 0 ≤ m i.toNat ∧ m i.toNat ≤ 99) ∧ ((i - 31) % 3 = 2 → 0 ≤ m i.toNat ∧ m i.toNat ≤ 20) := by
  refine ⟨fun z => ?_, fun z => ?_, fun z => ?_⟩
  · have := (h.2.2.2.2.2.2.2 ((i.toNat - 31) / 3) (by omega)).1
    rwa [show 31 + 3 * ((i.toNat - 31) / 3) = i.toNat by omega] at this
  · have := (h.2.2.2.2.2.2.2 ((i.toNat - 31) / 3) (by omega)).2.1
    rwa [show 32 + 3 * ((i.toNat - 31) / 3) = i.toNat by omega] at this
  · have := (h.2.2.2.2.2.2.2 ((i.toNat - 31) / 3) (by omega)).2.2
    rwa [show 33 + 3 * ((i.toNat - 31) / 3) = i.toNat by omega] at this
theorem rowOK.ta {m : Nat → Int} (h : rowOK m) {i : Int} (h0 : 13 ≤ i) (h1 : i ≤ 30) : ((i - 13) % 3 = 0 → 0 ≤ m i.toNat ∧ m i.toNat ≤ 5) ∧ ((i - 13) % 3 = 1 → 0 ≤ m i.toNat ∧ m i.toNat ≤ 3) := by
  refine ⟨fun z => ?_, fun z => ?_⟩
  · have := (h.2.2.2.2.2.2.1 ((i.toNat - 13) / 3) (by omega)).1
    rwa [show 13 + 3 * ((i.toNat - 13) / 3) = i.toNat by omega] at this
  · have := (h.2.2.2.2.2.2.1 ((i.toNat - 13) / 3) (by omega)).2
    rwa [show 14 + 3 * ((i.toNat - 13) / 3) = i.toNat by omega] at this
theorem powL {a b : Int} (h0 : 0 ≤ a) (hb : a ≤ b) : ∀ k : Nat, 0 ≤ a ^ k ∧ a ^ k ≤ b ^ k ∧ (1 ≤ a → 1 ≤ a ^ k)
  | 0 => by simp
  | k + 1 => by
    obtain ⟨i1, i2, i3⟩ := powL h0 hb k
    rw [Int.pow_succ, Int.pow_succ]
    refine ⟨Int.mul_nonneg i1 h0, Int.mul_le_mul i2 hb h0 (by omega), fun z => ?_⟩
    have a1 := i3 z
    have a2 : 1 * 1 ≤ a ^ k * a := Int.mul_le_mul a1 z (by omega) (by omega)
    omega
theorem powM {b : Int} (hb : 1 ≤ b) {j k : Nat} (h : j ≤ k) : b ^ j ≤ b ^ k := by
  induction k with
  | zero => rw [show j = 0 by omega]; omega
  | succ k ih =>
    by_cases hj : j = k + 1
    · rw [hj]; omega
    · have i1 := ih (by omega)
      have i2 := (powL (a := b) (b := b) (by omega) (by omega) k)
      rw [Int.pow_succ]
      have a2 : b ^ k * 1 ≤ b ^ k * b := Int.mul_le_mul_of_nonneg_left hb i2.1
      omega
theorem powR {a : Int} {k : Nat} (h0 : 0 ≤ a) (h1 : a ≤ 130) (hk : k ≤ 6) : 0 ≤ a ^ k ∧ a ^ k ≤ 4826809000000 ∧ (1 ≤ a → 1 ≤ a ^ k) := by
  have i := powL h0 h1 k
  have j := powM (b := 130) (by omega) hk
  have e : (130 : Int) ^ 6 = 4826809000000 := by decide
  exact ⟨i.1, by omega, i.2.2⟩
theorem powQ {a b : Int} {p q : Nat} (h0 : 1 ≤ a) (h1 : a ≤ 70) (h2 : 1 ≤ b) (h3 : b ≤ 70) (hk : p + q ≤ 6) : 1 ≤ a ^ p * b ^ q ∧ a ^ p * b ^ q ≤ 117649000000 := by
  have i := powL (a := a) (b := 70) (by omega) h1 p
  have j := powL (a := b) (b := 70) (by omega) h3 q
  have a1 := i.2.2 h0
  have a2 := j.2.2 h2
  have a3 : 1 * 1 ≤ a ^ p * b ^ q := Int.mul_le_mul a1 a2 (by omega) (by omega)
  have a4 : a ^ p * b ^ q ≤ 70 ^ p * 70 ^ q := Int.mul_le_mul i.2.1 j.2.1 (by omega) (by omega)
  have a5 : (70 : Int) ^ p * 70 ^ q = 70 ^ (p + q) := (Int.pow_add 70 p q).symm
  have a6 := powM (b := 70) (by omega) hk
  have e : (70 : Int) ^ 6 = 117649000000 := by decide
  omega
theorem tdr {x k : Int} (hx : 0 ≤ x) (hk : 1 ≤ k) : 0 ≤ x.tdiv k ∧ x.tdiv k ≤ x := by
  obtain ⟨a, b, c⟩ := ediv_rng hx hk
  rw [a]; exact ⟨b, c⟩
section GP
variable {X : Cx} {rm : Nat} {own : String} {cc : ByteArray} {nL : Nat} {ret : Option FieldType} {Q : Option Value → Mm → Prop} {pc pc' : Nat} {L : List (Nat × Value)} {S : List Value} {M : Mm}
theorem g_idivP {x y : Int} (hx : inI x) (hy : inI y) (h0 : 0 ≤ x) (h1 : 0 < y) (hd : decode cc pc = .ok (.idiv, 1)) (hp : pc + 1 = pc') (k : G X rm own cc nL ret Q pc' L (vi (x / y) :: S) M) : G X rm own cc nL ret Q pc L (vi y :: vi x :: S) M :=
  g_idiv hx hy (by omega) hd hp (by rw [Int.tdiv_eq_ediv_of_nonneg h0]; exact k)
theorem g_iremP {x y : Int} (hx : inI x) (hy : inI y) (h0 : 0 ≤ x) (h1 : 0 < y) (hd : decode cc pc = .ok (.irem, 1)) (hp : pc + 1 = pc') (k : G X rm own cc nL ret Q pc' L (vi (x % y) :: S) M) : G X rm own cc nL ret Q pc L (vi y :: vi x :: S) M :=
  g_irem hx hy (by omega) hd hp (by rw [Int.tmod_eq_emod_of_nonneg h0]; exact k)
theorem g_lremP {x y : Int} (hx : inL x) (hy : inL y) (h0 : 0 ≤ x) (h1 : 0 < y) (hd : decode cc pc = .ok (.lrem, 1)) (hp : pc + 1 = pc') (k : G X rm own cc nL ret Q pc' L (vl (x % y) :: S) M) : G X rm own cc nL ret Q pc L (vl y :: vl x :: S) M :=
  g_lrem hx hy (by omega) hd hp (by rw [Int.tmod_eq_emod_of_nonneg h0]; exact k)
end GP
