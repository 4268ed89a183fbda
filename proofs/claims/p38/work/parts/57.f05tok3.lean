/-! one token at hand -/
def WM (M : Mm) : Nat → Int := fun i => wof (M 32) (M 33 i) (M 34 i) (M 35 i)
/-- the class's tables hold the stream K, W of m tokens -/
def TS (M : Mm) (K W : Nat → Int) (m : Nat) : Prop := K = M 33 ∧ W = WM M ∧ (∃ n : Int, n ≤ 400 ∧ TZ (M 32) n (M 33) (WM M) (M 34) (M 35) m) ∧ ∀ i : Nat, i < m → M 33 i = 2 → cap (M 36 i) (WM M i)
theorem TS.fr {P : Nat → Prop} {M M1 : Mm} {K W : Nat → Int} {m : Nat} (h : TS M K W m) (f : Fr P M M1) (hP : ∀ c, 32 ≤ c → c ≤ 36 → ¬ P c) : TS M1 K W m := by
  have e : ∀ c, 32 ≤ c → c ≤ 36 → M1 c = M c := fun c h1 h2 => f c (hP c h1 h2)
  unfold TS WM at h ⊢
  rw [e 32 (by omega) (by omega), e 33 (by omega) (by omega), e 34 (by omega) (by omega), e 35 (by omega) (by omega), e 36 (by omega) (by omega)]
  exact h
theorem TS.tk {M : Mm} {K W : Nat → Int} {m i : Nat} (h : TS M K W m) (hi : i < m) : ∃ n : Int, n ≤ 400 ∧ isTk (M 32) n (K i) (W i) (M 34 i) (M 35 i) := by
  obtain ⟨rfl, rfl, ⟨n, hn, h1, -⟩, -⟩ := h
  exact ⟨n, hn, h1 i hi⟩
theorem TS.lt {M : Mm} {K W : Nat → Int} {m i : Nat} (h : TS M K W m) (hi : i ≤ m) (hk : K i ≠ 0) : i < m := by
  obtain ⟨rfl, rfl, ⟨n, hn, -, h2, -⟩, -⟩ := h
  by_cases c : i = m
  · subst c; exact absurd h2.1 hk
  · omega
theorem TS.num {M : Mm} {K W : Nat → Int} {m i : Nat} (h : TS M K W m) (hi : i ≤ m) (hk : K i = 2) : cap (M 36 i) (W i) ∧ 0 ≤ W i := by
  have hl := h.lt hi (by omega)
  obtain ⟨n, -, t⟩ := h.tk hl
  obtain ⟨rfl, rfl, -, h3⟩ := h
  refine ⟨h3 i hl hk, ?_⟩
  obtain ⟨a1, a2, a3, a4, a5, -, -, a8⟩ := t
  obtain ⟨b1, b2, b3⟩ := a8 hk
  rw [b3]
  exact (nv_b _ (fun k hk => b1 _ (by omega) (by omega))).1
theorem TS.sgn {M : Mm} {K W : Nat → Int} {m i : Nat} (h : TS M K W m) (hk : K i = 3) : W i = M 32 (M 34 i).toNat := by
  obtain ⟨rfl, rfl, -⟩ := h
  show wof (M 32) (M 33 i) (M 34 i) (M 35 i) = _
  unfold wof
  rw [if_neg (by omega), if_neg (by omega)]
theorem TS.K_ {M : Mm} {K W : Nat → Int} {m : Nat} (h : TS M K W m) (i : Nat) : M 33 i = K i := by rw [h.1]
theorem sl_l : ∀ j, j < 14 → ∀ k : Nat, k < sLen.getD j 0 → 97 ≤ sch j (k : Nat) ∧ sch j (k : Nat) ≤ 122 := by decide +kernel
/-- a word's code -/
def cw (j : Nat) : Int := wv (fun k => sch j (k : Nat)) 0 (sLen.getD j 0)
theorem TS.wrd {M : Mm} {K W : Nat → Int} {m i j : Nat} (h : TS M K W m) (hi : i ≤ m) (hk : K i = 1) (hl : ∀ k : Nat, k < sLen.getD j 0 → 97 ≤ sch j (k : Nat) ∧ sch j (k : Nat) ≤ 122) (h10 : sLen.getD j 0 ≤ 10) : W i = cw j ↔ (M 35 i - M 34 i = ((sLen.getD j 0 : Nat) : Int) ∧ ∀ k : Nat, k < sLen.getD j 0 → M 32 ((M 34 i).toNat + k) = sch j (k : Nat)) := by
  have hlt := h.lt hi (by omega)
  obtain ⟨n, -, t⟩ := h.tk hlt
  obtain ⟨a1, a2, a3, a4, a5, -, a7, -⟩ := t
  obtain ⟨b1, b2, b3⟩ := a7 hk
  have bT : ∀ k : Nat, k < (M 35 i - M 34 i).toNat → 97 ≤ M 32 ((M 34 i).toNat + k) ∧ M 32 ((M 34 i).toNat + k) ≤ 122 := fun k hk => b1 _ (by omega) (by omega)
  have bU : ∀ k : Nat, k < sLen.getD j 0 → 97 ≤ (fun k : Nat => sch j (k : Nat)) (0 + k) ∧ (fun k : Nat => sch j (k : Nat)) (0 + k) ≤ 122 := fun k hk => by
    rw [Nat.zero_add]; exact hl k hk
  refine ⟨fun e => ?_, fun e => ?_⟩
  · rw [b3] at e
    have h11 : (M 35 i - M 34 i).toNat ≤ 10 := by
      by_cases c : (M 35 i - M 34 i).toNat ≤ 10
      · exact c
      · rw [wv_far (by omega)] at e
        have := (wv_b (T := fun k : Nat => sch j (k : Nat)) (s := 0) (sLen.getD j 0) h10 bU).1
        unfold cw at e
        omega
    obtain ⟨c1, c2⟩ := wv_in _ _ h11 h10 bT bU e
    refine ⟨by omega, fun k hk => ?_⟩
    have := c2 k (by omega)
    rw [this, Nat.zero_add]
  · rw [b3]
    unfold cw
    rw [show (M 35 i - M 34 i).toNat = sLen.getD j 0 by omega]
    exact wv_cg _ (fun k hk => by rw [Nat.zero_add]; exact e.2 k hk)
theorem cw_0 : cw 0 = 20463086 := by decide +kernel
theorem cw_1 : cw 1 = 146885 := by decide +kernel
theorem cw_2 : cw 2 = 218508 := by decide +kernel
theorem cw_3 : cw 3 = 632645 := by decide +kernel
theorem cw_4 : cw 4 = 21024389 := by decide +kernel
theorem cw_5 : cw 5 = 215533 := by decide +kernel
theorem cw_6 : cw 6 = 655 := by decide +kernel
theorem cw_7 : cw 7 = 402539 := by decide +kernel
theorem cw_8 : cw 8 = 206220 := by decide +kernel
theorem cw_9 : cw 9 = 21279923 := by decide +kernel
theorem cw_10 : cw 10 = 294 := by decide +kernel
theorem cw_11 : cw 11 = 14836 := by decide +kernel
theorem cw_12 : cw 12 = 1476 := by decide +kernel
theorem cw_13 : cw 13 = 498 := by decide +kernel
