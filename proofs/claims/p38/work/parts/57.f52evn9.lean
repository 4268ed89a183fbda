/-! what a clause of the reference tells -/
def YV (b v w : Int) : Prop := b = 0 → v = w
theorem YV.nx {b b1 v v1 w : Int} (h : YV b v w) (hb : b1 = 0 → b = 0) (e : v1 = v) : YV b1 v1 w := fun z => e.trans (h (hb z))
def Y1a (b v hd w : Int) : Prop := hd = 2 → YV b v w
theorem Y1a.nx {b b1 v v1 hd w : Int} (h : Y1a b v hd w) (hb : b1 = 0 → b = 0) (e : v1 = v) : Y1a b1 v1 hd w := fun y => (h y).nx hb e
def Y2a (b v hd w : Int) : Prop := hd ≠ 1 → YV b v w
theorem Y2a.nx {b b1 v v1 hd w : Int} (h : Y2a b v hd w) (hb : b1 = 0 → b = 0) (e : v1 = v) : Y2a b1 v1 hd w := fun y => (h y).nx hb e
noncomputable def Y1v (K W : Nat → Int) (hd : Int) (i : Nat) (lv : Int) : Int := if hd = 2 then W (i + 1) else W (sW K W 215533 (g165 K W hd i lv)).2.1
theorem Y1v_n {K W : Nat → Int} {hd : Int} {i : Nat} {lv : Int} (h : hd ≠ 2) : Y1v K W hd i lv = W (sW K W 215533 (g165 K W hd i lv)).2.1 := if_neg h
theorem Y1a.or {K W : Nat → Int} {b v hd : Int} {i : Nat} {lv : Int} (h : Y1a b v hd (W (i + 1))) (e : hd = 2 ∨ b ≠ 0) : YV b v (Y1v K W hd i lv) := by
  intro z
  have h2 : hd = 2 := by omega
  have en : Y1v K W hd i lv = W (i + 1) := if_pos h2
  rw [en]
  exact h h2 z
def Y4 (M : Mm) (n v : Int) (f : Mng) : Prop := M 97 18 = 0 → MR (M 108) (M 109) n.toNat v.toNat f
theorem Y4.bad {M : Mm} {n v : Int} {f : Mng} (h : M 97 18 ≠ 0) : Y4 M n v f := fun z => absurd z h
theorem Y4.nx {M M1 : Mm} {n v n1 v1 : Int} {f : Mng} (h : Y4 M n v f) (hb : M1 97 18 = 0 → M 97 18 = 0) (e8 : M1 108 = M 108) (e9 : M1 109 = M 109) (en : n1 = n) (ev : v1 = v) : Y4 M1 n1 v1 f := by
  subst en ev
  intro z
  rw [e8, e9]
  exact h (hb z)
theorem Y4.lo {M M1 : Mm} {n v n1 v1 F : Int} {f : Mng} (h : Y4 M n v f) (hb : M1 97 18 = 0 → M 97 18 = 0) (lo : LO M M1 F) (hv : v ≤ F) (en : n1 = n) (ev : v1 = v) : Y4 M1 n1 v1 f := by
  subst en ev
  intro z
  exact (h (hb z)).cg (fun j _ b => lo j (by omega))
noncomputable def yF (K W : Nat → Int) (hd : Int) (i : Nat) (lv : Int) : Mng := exM K W false (g141 K W hd i lv).2.1 (g141 K W hd i lv).2.2
noncomputable def yG (K W : Nat → Int) (hd : Int) (i : Nat) (lv : Int) : Mng := exM K W true ((g369 K W hd i lv).2.1 + 1) (g369 K W hd i lv).2.2
def IFy (K W : Nat → Int) (hd : Int) (i : Nat) (lv : Int) : Prop := K (g369 K W hd i lv).2.1 = 1 ∧ W (g369 K W hd i lv).2.1 = 294
def YJ (K W : Nat → Int) (hd : Int) (i : Nat) (lv : Int) (M : Mm) (v n : Int) : Prop := (IFy K W hd i lv → Y4 M v n (yG K W hd i lv)) ∧ (¬ IFy K W hd i lv → M 97 18 = 0 → v = n)
theorem YJ.nx {K W : Nat → Int} {hd : Int} {i : Nat} {lv : Int} {M M1 : Mm} {v n v1 n1 : Int} (h : YJ K W hd i lv M v n) (hb : M1 97 18 = 0 → M 97 18 = 0) (e8 : M1 108 = M 108) (e9 : M1 109 = M 109) (ev : v1 = v) (en : n1 = n) : YJ K W hd i lv M1 v1 n1 := ⟨fun y => (h.1 y).nx hb e8 e9 ev en, fun y z => by rw [ev, en]; exact h.2 y (hb z)⟩
section STy
variable {K W S E : Nat → Int} {m i : Nat} {lv : Int} {M M1 M2 M3 : Mm} {s : S3} {a r v w hd : Int}
theorem STG.numv (hz : TZM M K W S E m) (h : STG K W S E m M s) (hb : M 97 18 = 0) (q : RNQ M M2 a r) : M2 97 18 = 0 → r = W s.2.1 := by
  obtain ⟨j, l, ta, tb, tc⟩ := h.1 hb
  rw [tc.s1 rfl]
  rcases q.at_ hz ta hb with y | y
  · exact fun _ => y.2.2.1
  · exact fun z => absurd z y.1
theorem STG.ex_pre2 (h : STG K W S E m M s) (hb : M 97 18 = 0) : ∃ (j : Nat) (l : Int), AT K W S E m M j ∧ M 97 24 = l ∧ (∀ t : Bool, sE K W t s = exF K W t j l) ∧ s.2.1 = j ∧ s.2.2 = l := by
  obtain ⟨j, l, ta, tb, tc⟩ := h.1 hb
  exact ⟨j, l, ta, tb, fun t => by rw [tc.s1 rfl]; exact sE_1, by rw [tc.s1 rfl], by rw [tc.s1 rfl]⟩
theorem STG.if_pre2 (hz : TZM M K W S E m) (h : STG K W S E m M s) (hb : M 97 18 = 0) (hw : M 97 15 = 1 ∧ M 97 16 = 294) (q : NXQ (M 106) (M 97 12) (M 97 14) (M2 97 13) (M2 97 15) (M2 97 16) (M2 97 14)) (e24 : M2 97 24 = M 97 24) (e17 : M2 97 17 = M 97 17) : ∃ (j : Nat) (l : Int), AT K W S E m M2 j ∧ M2 97 24 = l ∧ sIf K W s = exF K W true j l ∧ (s.2.1 + 1 = j ∧ s.2.2 = l) ∧ (K s.2.1 = 1 ∧ W s.2.1 = 294) := by
  obtain ⟨j, l, ta, tb, tc⟩ := h.1 hb
  have aw := ta.w hz
  rw [tc.s1 rfl]
  exact ⟨j + 1, l, AT.nx hz ta (by omega) q e17, by omega, sIf_1 (by omega), ⟨rfl, rfl⟩, by show K j = 1 ∧ W j = 294; omega⟩
theorem STG.if_no (hz : TZM M K W S E m) (h : STG K W S E m M s) (hb : M 97 18 = 0) (hw : ¬ (M 97 15 = 1 ∧ M 97 16 = 294)) : ¬ (K s.2.1 = 1 ∧ W s.2.1 = 294) := by
  obtain ⟨j, l, ta, tb, tc⟩ := h.1 hb
  have aw := ta.w hz
  rw [tc.s1 rfl]
  show ¬ (K j = 1 ∧ W j = 294)
  omega
theorem STG.tv_n (hz : TZM M K W S E m) (h : STG K W S E m M s) (hb : M 97 18 = 0) (hw : ¬ (M 97 15 = 1 ∧ M 97 16 = 21279923)) : cTv K W s.2.1 = 1 := by
  obtain ⟨j, l, ta, tb, tc⟩ := h.1 hb
  have aw := ta.w hz
  rw [tc.s1 rfl]
  exact if_neg (by show ¬ (K j = 1 ∧ W j = 21279923); omega)
theorem STG.tv_y (hz : TZM M K W S E m) (hz2 : TZM M2 K W S E m) (h : STG K W S E m M s) (hb : M 97 18 = 0) (hw : M 97 15 = 1 ∧ M 97 16 = 21279923) (q : NXQ (M 106) (M 97 12) (M 97 14) (M2 97 13) (M2 97 15) (M2 97 16) (M2 97 14)) (hb2 : M2 97 18 = 0) (e17 : M2 97 17 = M 97 17) (u : RNQ M2 M3 20 r) : M3 97 18 = 0 → r = cTv K W s.2.1 := by
  obtain ⟨j, l, ta, tb, tc⟩ := h.1 hb
  have aw := ta.w hz
  have t2 := AT.nx hz ta (by omega) q e17
  rw [tc.s1 rfl]
  have ev : cTv K W j = W (j + 1) := if_pos (by omega)
  show M3 97 18 = 0 → r = cTv K W j
  rw [ev]
  rcases u.at_ hz2 t2 hb2 with y | y
  · exact fun _ => y.2.2.1
  · exact fun z => absurd z y.1
/-! a stage that came through -/
theorem sW_y {s : S3} (h : (sW K W w s).1 = 1) : s.1 = 1 ∧ sW K W w s = (1, s.2.1 + 1, s.2.2) := by
  unfold sW at h ⊢
  by_cases c : s.1 = 1
  · rw [if_pos c] at h ⊢
    by_cases d : K s.2.1 = 1 ∧ W s.2.1 = w
    · rw [if_pos d]; exact ⟨c, rfl⟩
    · rw [if_neg d] at h; cases h
  · rw [if_neg c] at h; exact absurd h c
theorem sN_y {b : Int} {s : S3} (h : (sN K W a b s).1 = 1) : s.1 = 1 ∧ sN K W a b s = (1, s.2.1 + 1, s.2.2) := by
  unfold sN at h ⊢
  by_cases c : s.1 = 1
  · rw [if_pos c] at h ⊢
    by_cases d : K s.2.1 = 2 ∧ a ≤ W s.2.1 ∧ W s.2.1 ≤ b
    · rw [if_pos d]; exact ⟨c, rfl⟩
    · rw [if_neg d] at h; cases h
  · rw [if_neg c] at h; exact absurd h c
theorem sE_y {t : Bool} {s : S3} (h : (sE K W t s).1 = 1) : s.1 = 1 ∧ sE K W t s = exF K W t s.2.1 s.2.2 := by
  unfold sE at h ⊢
  by_cases c : s.1 = 1
  · rw [if_pos c]; exact ⟨c, rfl⟩
  · rw [if_neg c] at h; exact absurd h c
theorem sFr_y {s : S3} (h : (sFr K W s).1 = 1) : s.1 = 1 ∧ (sW K W 215533 s).2.1 = s.2.1 + 1 ∧ (sFr K W s).2.1 = s.2.1 + 1 + 1 := by
  unfold sFr at h ⊢
  obtain ⟨a, b⟩ := sN_y h
  obtain ⟨c, d⟩ := sW_y a
  exact ⟨c, by rw [d], by rw [b, d]⟩
theorem sTo_y {s : S3} (h : (sTo K W s).1 = 1) : s.1 = 1 ∧ (sW K W 655 s).2.1 = s.2.1 + 1 := by
  unfold sTo at h
  obtain ⟨a, b⟩ := sN_y h
  obtain ⟨c, d⟩ := sW_y a
  exact ⟨c, by rw [d]⟩
theorem sTm_y {s : S3} (h : (sTm K W s).1 = 1) : s.1 = 1 := by
  unfold sTm at h
  by_cases c : s.1 = 1
  · exact c
  · rw [if_neg (fun z => c z.1)] at h; exact absurd h c
theorem sIf_y {s : S3} (h : (sIf K W s).1 = 1) : s.1 = 1 := by
  unfold sIf at h
  by_cases c : s.1 = 1
  · exact c
  · rw [if_neg (fun z => c z.1)] at h; exact absurd h c
/-- a clause of the reference -/
def CLM (K W : Nat → Int) (i : Nat) (lv : Int) (M : Mm) (b : Int) : Prop := M 107 b.toNat = cHd K W i ∧ (cHd K W i = 2 → M 107 (b + 1).toNat = W (i + 1)) ∧ (cHd K W i ≠ 2 → M 107 (b + 1).toNat = cFr K W i lv) ∧ (cHd K W i ≠ 1 → M 107 (b + 2).toNat = cTo K W i lv) ∧ M 107 (b + 7).toNat = cTm K W i lv ∧ MR (M 108) (M 109) (M 107 (b + 3).toNat).toNat (M 107 (b + 4).toNat).toNat (cF K W i lv) ∧ (cIf K W i lv → MR (M 108) (M 109) (M 107 (b + 5).toNat).toNat (M 107 (b + 6).toNat).toNat (cT K W i lv)) ∧ (¬ cIf K W i lv → M 107 (b + 5).toNat = M 107 (b + 6).toNat) ∧ (M 107 (b + 4).toNat ≤ M 97 21 ∧ M 107 (b + 6).toNat ≤ M 97 21)
theorem HDs.hc (h : HDs K W i hd) : cHd K W i = hd := by
  rcases h with ⟨z, y⟩ | ⟨z, y⟩ | ⟨z, y⟩
  · rw [z]; exact cHd_s y
  · rw [z]; exact cHd_l y
  · rw [z]; exact cHd_f y
theorem g280_eq (h : HDs K W i hd) : g280 K W hd i lv = sMv K W i lv := by
  rcases h with ⟨z, y⟩ | ⟨z, y⟩ | ⟨z, y⟩ <;> subst z
  · rw [sMv_s y]
    unfold g280 g224 g165 g141
    rw [if_neg (by decide), if_neg (by decide), if_neg (by decide), sE_1]
  · rw [sMv_l y]
    unfold g280 g224 g165 g141
    rw [if_pos rfl, if_neg (by decide), if_neg (by decide), sE_1]
  · rw [sMv_f y]
    unfold g280 g224 g165 g141
    rw [if_neg (by decide), if_pos rfl, if_pos rfl]
theorem CLM.mk_ {b n0 : Int} (hds : HDs K W i hd) (sg : STG K W S E m M (g407 K W hd i lv)) (hb : M 97 18 = 0) (k0 : M 107 b.toNat = hd) (y1 : YV (M 97 18) (M 107 (b + 1).toNat) (Y1v K W hd i lv)) (y2 : Y2a (M 97 18) (M 107 (b + 2).toNat) hd (W (sW K W 655 (g224 K W hd i lv)).2.1)) (y7 : YV (M 97 18) (M 107 (b + 7).toNat) (cTv K W (g280 K W hd i lv).2.1)) (k3 : M 107 (b + 3).toNat = n0) (y4 : Y4 M n0 (M 107 (b + 4).toNat) (yF K W hd i lv)) (y6 : YJ K W hd i lv M (M 107 (b + 5).toNat) (M 107 (b + 6).toNat)) (hn : M 107 (b + 4).toNat ≤ M 97 21 ∧ M 107 (b + 6).toNat ≤ M 97 21) : CLM K W i lv M b := by
  have h7 : (g407 K W hd i lv).1 = 1 := by
    obtain ⟨j, l, ta, tb, tc⟩ := sg.1 hb
    exact tc.1
  have h6 : (g369 K W hd i lv).1 = 1 := sIf_y h7
  have h5 : (g280 K W hd i lv).1 = 1 := sTm_y h6
  have e280 := g280_eq (lv := lv) hds
  have ehd := hds.hc
  have h4 : (g224 K W hd i lv).1 = 1 ∧ (hd ≠ 1 → (sW K W 655 (g224 K W hd i lv)).2.1 = (g224 K W hd i lv).2.1 + 1) := by
    unfold g280 at h5
    by_cases c : hd = 1
    · rw [if_pos c] at h5; exact ⟨h5, fun z => absurd c z⟩
    · rw [if_neg c] at h5
      have q := sTo_y h5
      exact ⟨q.1, fun _ => q.2⟩
  have h3 : (g165 K W hd i lv).1 = 1 ∧ (hd ≠ 2 → (sW K W 215533 (g165 K W hd i lv)).2.1 = (g165 K W hd i lv).2.1 + 1 ∧ (g224 K W hd i lv).2.1 = (g165 K W hd i lv).2.1 + 1 + 1) ∧ (hd = 2 → (g224 K W hd i lv).2.1 = (g165 K W hd i lv).2.1) := by
    have h4' := h4.1
    unfold g224 at h4' ⊢
    by_cases c : hd = 2
    · rw [if_pos c] at h4' ⊢; exact ⟨h4', fun z => absurd c z, fun _ => rfl⟩
    · rw [if_neg c] at h4' ⊢
      have q := sFr_y h4'
      exact ⟨q.1, fun _ => q.2, fun z => absurd z c⟩
  have h2 := sE_y (s := g141 K W hd i lv) h3.1
  have h1 : g141 K W hd i lv = (1, cI0 K W i, lv) := by
    have q := h2.1
    unfold g141 at q ⊢
    unfold cI0
    rw [ehd]
    by_cases c : hd = 2
    · rw [if_pos c] at q ⊢
      rw [if_pos c]
      exact (sN_y q).2
    · rw [if_neg c] at q ⊢
      rw [if_neg c]
  have e165 : (g165 K W hd i lv).2.1 = cS1 K W i lv := by
    have q : g165 K W hd i lv = _ := h2.2
    rw [q, h1]
    rfl
  have e369 : g369 K W hd i lv = cS4 K W i lv := by
    unfold g369 cS4
    rw [e280]
  refine ⟨by rw [k0, ehd], fun z => ?_, fun z => ?_, fun z => ?_, ?_, ?_, fun z => ?_, fun z => ?_, hn⟩
  · rw [y1 hb]
    exact if_pos (by omega)
  · rw [y1 hb, Y1v_n (by omega), (h3.2.1 (by omega)).1, e165]
    rfl
  · rw [y2 (by omega) hb, h4.2 (by omega)]
    unfold cTo
    by_cases c : hd = 2
    · rw [if_pos (by omega), h3.2.2 c, e165]
    · rw [if_neg (by omega), (h3.2.1 c).2, e165]
  · rw [y7 hb, e280]
    rfl
  · rw [k3]
    have q := y4 hb
    unfold yF at q
    rw [h1] at q
    exact q
  · have q := y6.1 (by unfold IFy; rw [e369]; exact z) hb
    unfold yG at q
    rw [e369] at q
    exact q
  · exact y6.2 (by unfold IFy; rw [e369]; exact z) hb
theorem CLM.nx {b : Int} (h : CLM K W i lv M b) (hb : 0 ≤ b) (lo : LO M M1 (M 97 21)) (e : ∀ j : Int, 0 ≤ j → j < 8 → M1 107 (b + j).toNat = M 107 (b + j).toNat) (hn : M 97 21 ≤ M1 97 21) : CLM K W i lv M1 b := by
  obtain ⟨a0, a1, a2, a3, a7, a4, a5, a6, a8⟩ := h
  have e0 : M1 107 b.toNat = M 107 b.toNat := by have := e 0 (by omega) (by omega); rw [Int.add_zero] at this; exact this
  have e1 := e 1 (by omega) (by omega)
  have e2 := e 2 (by omega) (by omega)
  have e3 := e 3 (by omega) (by omega)
  have e4 := e 4 (by omega) (by omega)
  have e5 := e 5 (by omega) (by omega)
  have e6 := e 6 (by omega) (by omega)
  have e7 := e 7 (by omega) (by omega)
  unfold CLM
  rw [e0, e1, e2, e3, e4, e5, e6, e7]
  exact ⟨a0, a1, a2, a3, a7, a4.cg (fun j x y => lo j (by omega)), fun z => (a5 z).cg (fun j x y => lo j (by omega)), a6, by omega⟩
/-- the clauses of a text -/
def TXM (K W : Nat → Int) (n : Nat) (M : Mm) : Prop := ∀ k : Nat, k < n → CLM K W (clP K W k).1 (clP K W k).2 M (8 * (k : Int))
theorem TXM.zero (K W : Nat → Int) (M : Mm) : TXM K W 0 M := fun k hk => absurd hk (by omega)
theorem TXM.nx {n : Nat} (h : TXM K W n M) (lo : LO M M1 (M 97 21)) (un : UN M M1 (8 * (n : Int))) (hn : M 97 21 ≤ M1 97 21) : TXM K W n M1 := fun k hk => (h k hk).nx (by omega) lo (fun j h1 h2 => un _ (by omega)) hn
theorem TXM.eq {n : Nat} (h : TXM K W n M) (e7 : M1 107 = M 107) (e8 : M1 108 = M 108) (e9 : M1 109 = M 109) (hn : M1 97 21 = M 97 21) : TXM K W n M1 := h.nx (LO.eq e8 e9) (fun k _ => by rw [e7]) (by omega)
theorem TXM.add {n : Nat} (h : TXM K W n M) (g : CLM K W (clP K W n).1 (clP K W n).2 M (8 * (n : Int))) : TXM K W (n + 1) M := by
  intro k hk
  by_cases c : k = n
  · rw [c]; exact g
  · exact h k (by omega)
end STy
