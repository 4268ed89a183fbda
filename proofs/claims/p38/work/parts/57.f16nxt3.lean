/-! the reference's clauses -/
def STG (K W S E : Nat → Int) (m : Nat) (M : Mm) (s : S3) : Prop := (M 97 18 = 0 → ∃ (j : Nat) (l1 : Int), AT K W S E m M j ∧ M 97 24 = l1 ∧ STq s 1 j l1) ∧ (M 97 18 ≠ 0 → ∃ j : Nat, M 97 17 = S j ∧ STq s 0 j 0)
section STGs
variable {K W S E : Nat → Int} {m i : Nat} {lv : Int} {M M1 M2 M3 : Mm} {s : S3} {a r v w : Int}
theorem STG.eq (h : STG K W S E m M s) (e3 : M1 97 13 = M 97 13) (e4 : M1 97 14 = M 97 14) (e5 : M1 97 15 = M 97 15) (e6 : M1 97 16 = M 97 16) (e7 : M1 97 17 = M 97 17) (e8 : M1 97 18 = M 97 18) (e24 : M1 97 24 = M 97 24) : STG K W S E m M1 s := by
  refine ⟨fun z => ?_, fun z => ?_⟩
  · obtain ⟨j, l1, a, b, c⟩ := h.1 (by omega)
    exact ⟨j, l1, a.eq e3 e4 e5 e6 e7, by omega, c⟩
  · obtain ⟨j, a, c⟩ := h.2 (by omega)
    exact ⟨j, by omega, c⟩
theorem STG.one (ht : AT K W S E m M i) (h24 : M 97 24 = lv) (hb : M 97 18 = 0) : STG K W S E m M (1, i, lv) := ⟨fun _ => ⟨i, lv, ht, h24, STq.y⟩, fun z => absurd hb z⟩
theorem STG.no {j : Nat} (hb : M 97 18 ≠ 0) (h : M 97 17 = S j) (e : STq s 0 j 0) : STG K W S E m M s := ⟨fun z => absurd z hb, fun _ => ⟨j, h, e⟩⟩
theorem STG.stc {F : S3 → S3} (h : STG K W S E m M s) (hb : M 97 18 ≠ 0) (hF : ∀ s : S3, s.1 = 0 → F s = s) : STG K W S E m M (F s) := by
  obtain ⟨j, a, c⟩ := h.2 hb
  exact STG.no hb a (c.st hF rfl)
theorem TZM.w0 (hz : TZM M K W S E m) (ht : AT K W S E m M i) (hk : K i = 2) : 0 ≤ W i := by
  have w := ht.w hz
  have t := hz.1 i (w.2.1 (by omega)).2
  obtain ⟨a1, a2, a3, a4, a5, -, -, a8⟩ := t
  obtain ⟨b1, b2, b3⟩ := a8 hk
  rw [b3]
  exact (nv_b _ (fun k hk => b1 _ (by omega) (by omega))).1
theorem STG.num0 (hz : TZM M K W S E m) (h : STG K W S E m M s) (hb : M 97 18 = 0) (q : RNQ M M2 a r) (e24 : M2 97 24 = M 97 24) : STG K W S E m M2 (sN K W 0 a s) := by
  obtain ⟨j, l, ta, tb, tc⟩ := h.1 hb
  rw [tc.s1 rfl]
  have w0 := fun z => hz.w0 ta z
  rcases q.at_ hz ta hb with y | y
  · rw [sN_1 (by omega)]
    exact STG.one y.2.2.2 (by omega) y.1
  · rw [sN_n (by omega)]
    exact STG.no y.1 y.2.2 STq.n
theorem STG.wrd (w : Int) (hz : TZM M K W S E m) (h : STG K W S E m M s) (hb : M 97 18 = 0) (q : MUQ M M2 v) (hv : (v = 1 ∧ M 97 15 = 1 ∧ M 97 16 = w) ∨ (v = 0 ∧ ¬ (M 97 15 = 1 ∧ M 97 16 = w))) (e24 : M2 97 24 = M 97 24) : STG K W S E m M2 (sW K W w s) := by
  obtain ⟨j, l, ta, tb, tc⟩ := h.1 hb
  rw [tc.s1 rfl]
  have aw := ta.w hz
  rcases q.at_ hz ta hb (fun z => by omega) with y | y
  · rw [sW_1 (by omega)]
    exact STG.one y.2.2 (by omega) y.1
  · rw [sW_n (by omega)]
    exact STG.no y.1 y.2.2 STq.n
theorem STG.tm_n (hz : TZM M K W S E m) (h : STG K W S E m M s) (hb : M 97 18 = 0) (hw : ¬ (M 97 15 = 1 ∧ M 97 16 = 21279923)) : STG K W S E m M (sTm K W s) := by
  obtain ⟨j, l, ta, tb, tc⟩ := h.1 hb
  have aw := ta.w hz
  rw [tc.s1 rfl, sTm_n (by omega)]
  exact STG.one ta tb hb
theorem STG.tm_0 (hz : TZM M K W S E m) (hz2 : TZM M2 K W S E m) (h : STG K W S E m M s) (hb : M 97 18 = 0) (hw : M 97 15 = 1 ∧ M 97 16 = 21279923) (q : NXQ (M 106) (M 97 12) (M 97 14) (M2 97 13) (M2 97 15) (M2 97 16) (M2 97 14)) (hb2 : M2 97 18 = 0) (e17 : M2 97 17 = M 97 17) (hn : M2 97 15 = 2 ∧ M2 97 16 = 0) (u : MUQ M2 M3 0) : STG K W S E m M3 (sTm K W s) := by
  obtain ⟨j, l, ta, tb, tc⟩ := h.1 hb
  have aw := ta.w hz
  have t2 := AT.nx hz ta (by omega) q e17
  have aw2 := t2.w hz2
  rw [tc.s1 rfl, sTm_1 (by omega), sN_n (by omega)]
  rcases u.at_ hz2 t2 hb2 (fun z => by omega) with y | y
  · exact absurd rfl y.2.1
  · exact STG.no y.1 y.2.2 STq.n
theorem STG.tm_1 (hz : TZM M K W S E m) (hz2 : TZM M2 K W S E m) (h : STG K W S E m M s) (hb : M 97 18 = 0) (hw : M 97 15 = 1 ∧ M 97 16 = 21279923) (q : NXQ (M 106) (M 97 12) (M 97 14) (M2 97 13) (M2 97 15) (M2 97 16) (M2 97 14)) (hb2 : M2 97 18 = 0) (e17 : M2 97 17 = M 97 17) (hn : ¬ (M2 97 15 = 2 ∧ M2 97 16 = 0)) (u : RNQ M2 M3 20 r) (e24 : M3 97 24 = M 97 24) : STG K W S E m M3 (sTm K W s) := by
  obtain ⟨j, l, ta, tb, tc⟩ := h.1 hb
  have aw := ta.w hz
  have t2 := AT.nx hz ta (by omega) q e17
  have aw2 := t2.w hz2
  have w0 := fun z => hz2.w0 t2 z
  rw [tc.s1 rfl, sTm_1 (by omega)]
  rcases u.at_ hz2 t2 hb2 with y | y
  · rw [sN_1 (by omega)]
    exact STG.one y.2.2.2 (by omega) y.1
  · rw [sN_n (by omega)]
    exact STG.no y.1 y.2.2 STq.n
theorem STG.if_n (hz : TZM M K W S E m) (h : STG K W S E m M s) (hb : M 97 18 = 0) (hw : ¬ (M 97 15 = 1 ∧ M 97 16 = 294)) : STG K W S E m M (sIf K W s) := by
  obtain ⟨j, l, ta, tb, tc⟩ := h.1 hb
  have aw := ta.w hz
  rw [tc.s1 rfl, sIf_n (by omega)]
  exact STG.one ta tb hb
/-- the stages of a clause -/
def g141 (K W : Nat → Int) (hd : Int) (i : Nat) (lv : Int) : S3 := if hd = 2 then sN K W 0 3 (1, i + 1, lv) else (1, i + 1, lv)
noncomputable def g165 (K W : Nat → Int) (hd : Int) (i : Nat) (lv : Int) : S3 := sE K W false (g141 K W hd i lv)
noncomputable def g224 (K W : Nat → Int) (hd : Int) (i : Nat) (lv : Int) : S3 := if hd = 2 then g165 K W hd i lv else sFr K W (g165 K W hd i lv)
noncomputable def g280 (K W : Nat → Int) (hd : Int) (i : Nat) (lv : Int) : S3 := if hd = 1 then g224 K W hd i lv else sTo K W (g224 K W hd i lv)
noncomputable def g369 (K W : Nat → Int) (hd : Int) (i : Nat) (lv : Int) : S3 := sTm K W (g280 K W hd i lv)
noncomputable def g407 (K W : Nat → Int) (hd : Int) (i : Nat) (lv : Int) : S3 := sIf K W (g369 K W hd i lv)
def HDs (K W : Nat → Int) (i : Nat) (hd : Int) : Prop := (hd = 0 ∧ isWd K W i 20463086) ∨ (hd = 1 ∧ isWd K W i 402539) ∨ (hd = 2 ∧ isWd K W i 206220)
theorem g407_eq {hd : Int} (h : HDs K W i hd) : g407 K W hd i lv = sCl K W i lv := by
  unfold g407 g369 sCl
  have e : g280 K W hd i lv = sMv K W i lv := by
    rcases h with ⟨z, y⟩ | ⟨z, y⟩ | ⟨z, y⟩ <;> subst z
    · rw [sMv_s y]
      unfold g280 g224 g165 g141
      rw [if_neg (by decide), if_neg (by decide), if_neg (by decide), sE_1]
    · rw [sMv_l y]
      unfold g280 g224 g165 g141
      rw [if_pos rfl, if_neg (by decide), if_neg (by decide), sE_1]
    · rw [sMv_f y]
      unfold g280 g224 g165 g141
      rw [if_neg (by decide), if_pos rfl, if_pos rfl]
  rw [e]
def CLQ (K W S E : Nat → Int) (m : Nat) (i : Nat) (lv n : Int) (M1 : Mm) : Prop := (M1 97 18 = 0 → n < 12 ∧ M1 97 19 = n + 1 ∧ ∃ (j : Nat) (l1 : Int), AT K W S E m M1 j ∧ M1 97 24 = l1 ∧ STq (sCl K W i lv) 1 j l1) ∧ (M1 97 18 ≠ 0 → ∃ j : Nat, M1 97 17 = S j ∧ ((12 ≤ n ∧ j = i) ∨ (n < 12 ∧ STq (sCl K W i lv) 0 j 0)))
theorem CLQ.ok {hd n : Int} (h : HDs K W i hd) (hn : n < 12) (h19 : M1 97 19 = n + 1) (g : STG K W S E m M1 (g407 K W hd i lv)) : CLQ K W S E m i lv n M1 := by
  rw [g407_eq h] at g
  refine ⟨fun z => ⟨hn, h19, g.1 z⟩, fun z => ?_⟩
  obtain ⟨j, a, b⟩ := g.2 z
  exact ⟨j, a, Or.inr ⟨hn, b⟩⟩
theorem CLQ.no {n : Int} (hb : M1 97 18 ≠ 0) (hf : M1 97 17 = S i) (h : n < 12 → ¬ isWd K W i 20463086 ∧ ¬ isWd K W i 402539 ∧ ¬ isWd K W i 206220) : CLQ K W S E m i lv n M1 := by
  refine ⟨fun z => absurd z hb, fun _ => ⟨i, hf, ?_⟩⟩
  by_cases c : 12 ≤ n
  · exact Or.inl ⟨c, rfl⟩
  · refine Or.inr ⟨by omega, ?_⟩
    have q := h (by omega)
    unfold sCl
    rw [sMv_n q.1 q.2.1 q.2.2, sTm_0 _ _ _ rfl, sIf_0 _ _ _ rfl]
    exact STq.n
end STGs
/-! the reference's texts -/
def TXG (K W S E : Nat → Int) (m : Nat) (M : Mm) (s : Int × Nat) : Prop := (M 97 18 = 0 → s.1 = 1 ∧ M 97 17 = -1) ∧ (M 97 18 ≠ 0 → s.1 = 0 ∧ M 97 17 = S s.2)
