/-! what a clause tells -/
noncomputable def cHd (K W : Nat → Int) (i : Nat) : Int := if K i = 1 ∧ W i = 20463086 then 0 else if K i = 1 ∧ W i = 402539 then 1 else 2
noncomputable def cI0 (K W : Nat → Int) (i : Nat) : Nat := if cHd K W i = 2 then i + 1 + 1 else i + 1
noncomputable def cS1 (K W : Nat → Int) (i : Nat) (lv : Int) : Nat := (exF K W false (cI0 K W i) lv).2.1
noncomputable def cFr (K W : Nat → Int) (i : Nat) (lv : Int) : Int := W (cS1 K W i lv + 1)
noncomputable def cTo (K W : Nat → Int) (i : Nat) (lv : Int) : Int := if cHd K W i = 2 then W (cS1 K W i lv + 1) else W (cS1 K W i lv + 1 + 1 + 1)
noncomputable def cF (K W : Nat → Int) (i : Nat) (lv : Int) : Mng := exM K W false (cI0 K W i) lv
def cTv (K W : Nat → Int) (j : Nat) : Int := if K j = 1 ∧ W j = 21279923 then W (j + 1) else 1
noncomputable def cTm (K W : Nat → Int) (i : Nat) (lv : Int) : Int := cTv K W (sMv K W i lv).2.1
noncomputable def cS4 (K W : Nat → Int) (i : Nat) (lv : Int) : S3 := sTm K W (sMv K W i lv)
def cIf (K W : Nat → Int) (i : Nat) (lv : Int) : Prop := K (cS4 K W i lv).2.1 = 1 ∧ W (cS4 K W i lv).2.1 = 294
noncomputable def cT (K W : Nat → Int) (i : Nat) (lv : Int) : Mng := exM K W true ((cS4 K W i lv).2.1 + 1) (cS4 K W i lv).2.2
noncomputable def clP (K W : Nat → Int) : Nat → Nat × Int
  | 0 => (0, 0)
  | k + 1 => ((sCl K W (clP K W k).1 (clP K W k).2).2.1 + 1, (sCl K W (clP K W k).1 (clP K W k).2).2.2)
noncomputable def cE (K W : Nat → Int) (k : Nat) : Nat := (sCl K W (clP K W k).1 (clP K W k).2).2.1
def CNT (K W : Nat → Int) (n : Nat) : Prop := (1 ≤ n ∧ n ≤ 12) ∧ (∀ k : Nat, k + 1 < n → K (cE K W k) ≠ 0) ∧ K (cE K W (n - 1)) = 0
section CLs
variable {K W : Nat → Int} {i j j1 : Nat} {lv l1 lv1 : Int} {M M1 M2 : Mm}
theorem CNT.det {n n' : Nat} (h : CNT K W n) (g : CNT K W n') : n = n' := by
  obtain ⟨a, b, c⟩ := h
  obtain ⟨a', b', c'⟩ := g
  by_cases z : n < n'
  · exact absurd c (b' (n - 1) (by omega))
  · by_cases y : n' < n
    · exact absurd c' (b (n' - 1) (by omega))
    · omega
theorem cHd_s (h : K i = 1 ∧ W i = 20463086) : cHd K W i = 0 := if_pos h
theorem cHd_l (h : K i = 1 ∧ W i = 402539) : cHd K W i = 1 := by
  unfold cHd
  rw [if_neg (by omega), if_pos h]
theorem cHd_f (h : K i = 1 ∧ W i = 206220) : cHd K W i = 2 := by
  unfold cHd
  rw [if_neg (by omega), if_neg (by omega)]
theorem cI0_1 (h : cHd K W i ≠ 2) : cI0 K W i = i + 1 := if_neg h
theorem cI0_2 (h : cHd K W i = 2) : cI0 K W i = i + 1 + 1 := if_pos h
theorem cS1_1 (h : cHd K W i ≠ 2) (e : exF K W false (i + 1) lv = (1, j1, l1)) : cS1 K W i lv = j1 := by
  unfold cS1
  rw [cI0_1 h, e]
theorem cS1_2 (h : cHd K W i = 2) (e : exF K W false (i + 1 + 1) lv = (1, j1, l1)) : cS1 K W i lv = j1 := by
  unfold cS1
  rw [cI0_2 h, e]
/-- the move of a clause as it was read -/
def MVD (K W : Nat → Int) (i : Nat) (lv : Int) (M M1 : Mm) (c : Nat) (j : Nat) (lv1 : Int) : Prop := M1 c 0 = cHd K W i ∧ (cHd K W i = 2 → M1 c 1 = W (i + 1) ∧ 0 ≤ W (i + 1) ∧ W (i + 1) ≤ 3) ∧ (cHd K W i ≠ 2 → M1 c 2 = cFr K W i lv) ∧ (cHd K W i ≠ 1 → M1 c 3 = cTo K W i lv) ∧ (M1 c 5 = M 37 4 ∧ M1 c 6 = M1 37 4) ∧ CDS M M1 ∧ (M 37 4 ≤ M1 37 4 ∧ M1 37 4 - M 37 4 ≤ (j : Int) - i) ∧ (lv < lv1 ∧ lv1 ≤ 50) ∧ MC (M1 39) (M1 40) (M 37 4).toNat (M1 37 4).toNat (lv1 - lv) (cF K W i lv)
theorem MVD.sp {c : Nat} (hw : K i = 1 ∧ W i = 20463086) (e : exF K W false (i + 1) lv = (1, j1, l1)) (h0 : M1 c 0 = 0) (h2 : M1 c 2 = W (j1 + 1)) (h3 : M1 c 3 = W (j1 + 1 + 1 + 1)) (h5 : M1 c 5 = M 37 4 ∧ M1 c 6 = M1 37 4) (cd : CDS M M1) (hb : M 37 4 ≤ M1 37 4 ∧ M1 37 4 - M 37 4 ≤ (j : Int) - i) (hl : lv < lv1 ∧ lv1 ≤ 50) (mc : MC (M1 39) (M1 40) (M 37 4).toNat (M1 37 4).toNat (lv1 - lv) (exM K W false (i + 1) lv)) : MVD K W i lv M M1 c j lv1 := by
  have hd := cHd_s hw
  have s1 := cS1_1 (by omega) e
  refine ⟨by omega, fun z => by omega, fun z => by unfold cFr; rw [s1]; exact h2, fun z => by unfold cTo; rw [if_neg (by omega), s1]; exact h3, h5, cd, hb, hl, ?_⟩
  unfold cF
  rw [cI0_1 (by omega)]
  exact mc
theorem MVD.lk {c : Nat} (hw : K i = 1 ∧ W i = 402539) (e : exF K W false (i + 1) lv = (1, j1, l1)) (h0 : M1 c 0 = 1) (h2 : M1 c 2 = W (j1 + 1)) (h5 : M1 c 5 = M 37 4 ∧ M1 c 6 = M1 37 4) (cd : CDS M M1) (hb : M 37 4 ≤ M1 37 4 ∧ M1 37 4 - M 37 4 ≤ (j : Int) - i) (hl : lv < lv1 ∧ lv1 ≤ 50) (mc : MC (M1 39) (M1 40) (M 37 4).toNat (M1 37 4).toNat (lv1 - lv) (exM K W false (i + 1) lv)) : MVD K W i lv M M1 c j lv1 := by
  have hd := cHd_l hw
  have s1 := cS1_1 (by omega) e
  refine ⟨by omega, fun z => by omega, fun z => by unfold cFr; rw [s1]; exact h2, fun z => by omega, h5, cd, hb, hl, ?_⟩
  unfold cF
  rw [cI0_1 (by omega)]
  exact mc
theorem MVD.fi {c : Nat} (hw : K i = 1 ∧ W i = 206220) (e : exF K W false (i + 1 + 1) lv = (1, j1, l1)) (h0 : M1 c 0 = 2) (h1 : M1 c 1 = W (i + 1) ∧ 0 ≤ W (i + 1) ∧ W (i + 1) ≤ 3) (h3 : M1 c 3 = W (j1 + 1)) (h5 : M1 c 5 = M 37 4 ∧ M1 c 6 = M1 37 4) (cd : CDS M M1) (hb : M 37 4 ≤ M1 37 4 ∧ M1 37 4 - M 37 4 ≤ (j : Int) - i) (hl : lv < lv1 ∧ lv1 ≤ 50) (mc : MC (M1 39) (M1 40) (M 37 4).toNat (M1 37 4).toNat (lv1 - lv) (exM K W false (i + 1 + 1) lv)) : MVD K W i lv M M1 c j lv1 := by
  have hd := cHd_f hw
  have s1 := cS1_2 (by omega) e
  refine ⟨by omega, fun z => h1, fun z => by omega, fun z => by unfold cTo; rw [if_pos hd, s1]; exact h3, h5, cd, hb, hl, ?_⟩
  unfold cF
  rw [cI0_2 (by omega)]
  exact mc
/-- a clause as it was read -/
def CLC (K W : Nat → Int) (i : Nat) (lv : Int) (M : Mm) (c : Nat) : Prop := M c 0 = cHd K W i ∧ (cHd K W i = 2 → M c 1 = W (i + 1) ∧ 0 ≤ W (i + 1) ∧ W (i + 1) ≤ 3) ∧ (cHd K W i ≠ 2 → M c 2 = cFr K W i lv) ∧ (cHd K W i ≠ 1 → M c 3 = cTo K W i lv) ∧ (M c 4 = cTm K W i lv ∧ 1 ≤ M c 4 ∧ M c 4 ≤ 20) ∧ (0 ≤ M c 5 ∧ M c 6 ≤ M c 7 ∧ M c 7 ≤ M 37 4) ∧ (∃ l : Int, l ≤ 50 ∧ MC (M 39) (M 40) (M c 5).toNat (M c 6).toNat l (cF K W i lv)) ∧ (cIf K W i lv → ∃ l : Int, l ≤ 50 ∧ MC (M 39) (M 40) (M c 6).toNat (M c 7).toNat l (cT K W i lv)) ∧ (¬ cIf K W i lv → M c 7 = M c 6)
theorem CLC.nx {c : Nat} (h : CLC K W i lv M c) (cd : CDS M M1) (e : M1 c = M c) : CLC K W i lv M1 c := by
  obtain ⟨a0, a1, a2, a3, a4, a5, ⟨l, b1, b2⟩, a7, a8⟩ := h
  have c1 := cd.1
  have b3 := b2.1
  refine ⟨by rw [e]; exact a0, fun z => by rw [e]; exact a1 z, fun z => by rw [e]; exact a2 z, fun z => by rw [e]; exact a3 z, by rw [e]; exact a4, by rw [e]; omega, ⟨l, b1, ?_⟩, fun z => ?_, fun z => by rw [e]; exact a8 z⟩
  · rw [e]
    exact b2.cds cd (by omega)
  · obtain ⟨l2, d1, d2⟩ := a7 z
    have d3 := d2.1
    refine ⟨l2, d1, ?_⟩
    rw [e]
    exact d2.cds cd (by omega)
theorem CLC.mk_ {c : Nat} {Ma Mb : Mm} {ja jb : Nat} {la lb : Int} (h : MVD K W i lv M Ma c ja la) (h0 : 0 ≤ M 37 4) (sm : sMv K W i lv = (1, ja, la)) (s4 : sTm K W (1, ja, la) = (1, jb, lb)) (tm : Mb c 4 = cTv K W ja ∧ 1 ≤ Mb c 4 ∧ Mb c 4 ≤ 20) (tk : ∀ k : Nat, k ≠ 4 → Mb c k = Ma c k) (tn : Mb 37 4 = Ma 37 4) (t9 : Mb 39 = Ma 39) (t0 : Mb 40 = Ma 40) (ik : ∀ k : Nat, k ≠ 7 → M1 c k = Mb c k) (i7 : M1 c 7 = M1 37 4) (cd : CDS Mb M1) (ify : (K jb = 1 ∧ W jb = 294) → (lb < lv1 ∧ lv1 ≤ 50) ∧ MC (M1 39) (M1 40) (Mb 37 4).toNat (M1 37 4).toNat (lv1 - lb) (exM K W true (jb + 1) lb)) (ifn : ¬ (K jb = 1 ∧ W jb = 294) → M1 37 4 = Mb 37 4) (hl0 : 0 ≤ lv) (hlb : 0 ≤ lb) : CLC K W i lv M1 c := by
  obtain ⟨a0, a1, a2, a3, ⟨a5, a6⟩, acd, ab, al, am⟩ := h
  have c1 := cd.1
  have e4 : cS4 K W i lv = (1, jb, lb) := by
    unfold cS4
    rw [sm, s4]
  have x0 := ik 0 (by decide)
  have x1 := ik 1 (by decide)
  have x2 := ik 2 (by decide)
  have x3 := ik 3 (by decide)
  have x4 := ik 4 (by decide)
  have x5 := ik 5 (by decide)
  have x6 := ik 6 (by decide)
  have y0 := tk 0 (by decide)
  have y1 := tk 1 (by decide)
  have y2 := tk 2 (by decide)
  have y3 := tk 3 (by decide)
  have y5 := tk 5 (by decide)
  have y6 := tk 6 (by decide)
  refine ⟨by omega, fun z => by have := a1 z; omega, fun z => by have := a2 z; omega, fun z => by have := a3 z; omega, ?_, by omega, ⟨la - lv, by omega, ?_⟩, fun z => ?_, fun z => ?_⟩
  · unfold cTm
    rw [sm]
    exact ⟨x4.trans tm.1, by omega, by omega⟩
  · have m2 : MC (Mb 39) (Mb 40) (M 37 4).toNat (Ma 37 4).toNat (la - lv) (cF K W i lv) := by rw [t9, t0]; exact am
    rw [show M1 c 5 = M 37 4 by omega, show M1 c 6 = Ma 37 4 by omega]
    exact m2.cds cd (by omega)
  · unfold cIf at z
    rw [e4] at z
    have q := ify z
    refine ⟨lv1 - lb, by omega, ?_⟩
    unfold cT
    rw [e4, show M1 c 6 = Mb 37 4 by omega, i7]
    exact q.2
  · have z' : ¬ (K jb = 1 ∧ W jb = 294) := by
      unfold cIf at z
      rw [e4] at z
      exact z
    have := ifn z'
    omega
/-- the clauses of a text as they were read -/
def TXD (K W : Nat → Int) (n : Nat) (M : Mm) : Prop := ∀ k : Nat, k < n → CLC K W (clP K W k).1 (clP K W k).2 M (41 + k)
theorem TXD.zero (K W : Nat → Int) (M : Mm) : TXD K W 0 M := fun k hk => absurd hk (by omega)
theorem TXD.nx {n : Nat} (h : TXD K W n M) (cd : CDS M M1) (e : ∀ k : Nat, k < n → M1 (41 + k) = M (41 + k)) : TXD K W n M1 := fun k hk => (h k hk).nx cd (e k hk)
theorem TXD.add {n : Nat} (h : TXD K W n M) (g : CLC K W (clP K W n).1 (clP K W n).2 M (41 + n)) : TXD K W (n + 1) M := by
  intro k hk
  by_cases c : k = n
  · rw [c]; exact g
  · exact h k (by omega)
/-- every clause so far was read, and a sign stands behind it -/
def CLN (K W : Nat → Int) (n : Nat) : Prop := ∀ k : Nat, k < n → K (cE K W k) ≠ 0
theorem CLN.add {n : Nat} (h : CLN K W n) (g : K (cE K W n) ≠ 0) : CLN K W (n + 1) := by
  intro k hk
  by_cases c : k = n
  · rw [c]; exact g
  · exact h k (by omega)
theorem CNT.of {n : Nat} (h : CLN K W n) (hn : n < 12) (g : K (cE K W n) = 0) : CNT K W (n + 1) := ⟨by omega, fun k hk => h k (by omega), g⟩
theorem clP_s {n : Nat} {i : Nat} {lv : Int} (h : clP K W n = (i, lv)) (g : sCl K W i lv = (1, j, l1)) : cE K W n = j ∧ clP K W (n + 1) = (j + 1, l1) := by
  have e : clP K W (n + 1) = ((sCl K W (clP K W n).1 (clP K W n).2).2.1 + 1, (sCl K W (clP K W n).1 (clP K W n).2).2.2) := rfl
  unfold cE
  rw [e, h]
  show (sCl K W i lv).2.1 = j ∧ ((sCl K W i lv).2.1 + 1, (sCl K W i lv).2.2) = (j + 1, l1)
  rw [g]
  exact ⟨rfl, rfl⟩
end CLs
theorem clD1 : ∀ k : Nat, k < 12 → ([41, 42, 43, 44, 45, 46, 47, 48, 49, 50, 51, 52] : List Nat).getD k 0 = 41 + k := by decide
