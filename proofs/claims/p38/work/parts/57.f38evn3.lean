/-! the class's code, piece by piece -/
def CDS (M M1 : Mm) : Prop := M 37 4 ≤ M1 37 4 ∧ ∀ k : Nat, (k : Int) < M 37 4 → M1 39 k = M 39 k ∧ M1 40 k = M 40 k
theorem CDS.eq {M M1 : Mm} (e : M1 37 4 = M 37 4) (h9 : M1 39 = M 39) (h0 : M1 40 = M 40) : CDS M M1 := ⟨by omega, fun k _ => by rw [h9, h0]; exact ⟨rfl, rfl⟩⟩
theorem CDS.tr {M M1 M2 : Mm} (h : CDS M M1) (k : CDS M1 M2) : CDS M M2 := ⟨by have := h.1; have := k.1; omega, fun j hj => ⟨(k.2 j (by have := h.1; omega)).1.trans (h.2 j hj).1, (k.2 j (by have := h.1; omega)).2.trans (h.2 j hj).2⟩⟩
theorem CDS.wr {M M1 M2 : Mm} {x : Nat} {a b : Int} (h : CDS M M1) (h0 : 0 ≤ M 37 4) (e : M2 37 4 = M1 37 4 + 1) (h9 : M2 39 = ms (M1 39) x a) (h4 : M2 40 = ms (M1 40) x b) (hx : x = (M1 37 4).toNat) : CDS M M2 := by
  have h1 := h.1
  refine ⟨by omega, fun j hj => ?_⟩
  rw [h9, h4, ms_ne _ _ (by omega), ms_ne _ _ (by omega)]
  exact h.2 j hj
/-- a piece that was written before, behind what came since -/
theorem MC.cds {M M1 : Mm} {s e : Nat} {l : Int} {f : Mng} (h : MC (M 39) (M 40) s e l f) (c : CDS M M1) (he : (e : Int) ≤ M 37 4) : MC (M1 39) (M1 40) s e l f := h.cg (fun j _ b => c.2 j (by omega))
theorem MC.lf {M1 : Mm} {C D : Nat → Int} {s : Nat} {s1 : Int} {a b op arg l : Int} (h9 : M1 39 = ms C s a) (h4 : M1 40 = ms D s b) (e : s1 = (s : Int) + 1) (hc : 1 ≤ a ∧ a ≤ 5) (hv : ∀ E : Int → Int → Int, mLf op arg E = some (lvC E a b)) (hb : op = 0 → -1000000000 ≤ arg ∧ arg ≤ 1000000000) (hl : l = 1) (hg2 : 2 ≤ a → a ≤ 4 → 0 ≤ b ∧ b ≤ 23) : MC (M1 39) (M1 40) s s1.toNat l (mLf op arg) := by
  rw [hl, show s1.toNat = s + 1 by omega]
  have c0 : M1 39 s = a := by rw [h9]; exact ms_at _ _ _
  have d0 : M1 40 s = b := by rw [h4]; exact ms_at _ _ _
  exact MC.leaf (by rw [c0]; exact hc) (fun E => by rw [c0, d0]; exact hv E) hb (by rw [c0, d0]; exact hg2)
theorem lv_num (n : Int) (E : Int → Int → Int) : mLf 0 n E = some (lvC E 1 n) := rfl
theorem lv_done (E : Int → Int → Int) : mLf 4 0 E = some (lvC E 5 0) := rfl
theorem lv_full {g b : Int} (hb : b = g * 4 + 0) (E : Int → Int → Int) : mLf 1 (0 + g) E = some (lvC E 2 b) := by
  show some (E 1 (0 + g)) = some (E 1 (b / 4))
  rw [show b / 4 = 0 + g by omega]
theorem lv_size {g b : Int} (hb : b = g * 4 + 0) (E : Int → Int → Int) : mLf 2 (0 + g) E = some (lvC E 3 b) := by
  show some (E 2 (0 + g)) = some (E 2 (b / 4))
  rw [show b / 4 = 0 + g by omega]
theorem lv_taste {g s b : Int} (hb : b = g * 4 + s) (hs : 0 ≤ s ∧ s ≤ 3) (E : Int → Int → Int) : mLf 3 (6 * s + g) E = some (lvC E 4 b) := by
  show some (E 3 (6 * s + g)) = some (E 3 (6 * (b % 4) + b / 4))
  rw [show b % 4 = s by omega, show b / 4 = g by omega]
/-- two pieces, and the sign behind them -/
theorem MC.b2 {M0 M1 M2 : Mm} {s e e2 x : Nat} {l l2 l3 co : Int} {s3 : Int} {f g : Mng} (h : MC (M0 39) (M0 40) s e l f) (k : MC (M1 39) (M1 40) e e2 l2 g) (c : CDS M0 M1) (he : (e : Int) ≤ M0 37 4) (h9 : M2 39 = ms (M1 39) x co) (h4 : M2 40 = ms (M1 40) x 0) (hx : x = e2) (hr : 6 ≤ co ∧ co ≤ 12) (hl : l3 = l + l2) (e3 : s3 = (e2 : Int) + 1) : MC (M2 39) (M2 40) s s3.toNat l3 (mBin (co + 14) f g) := by
  subst hx
  have k1 := k.1
  have h1 := h.1
  rw [hl, show s3.toNat = x + 1 by omega]
  refine MC.bin ((h.cds c he).cg (fun j a b => ?_)) (k.cg (fun j a b => ?_)) (by rw [h9]; exact ms_at _ _ _) hr
  · rw [h9, h4, ms_ne _ _ (by omega), ms_ne _ _ (by omega)]; exact ⟨rfl, rfl⟩
  · rw [h9, h4, ms_ne _ _ (by omega), ms_ne _ _ (by omega)]; exact ⟨rfl, rfl⟩
/-- what a reader of sums gives -/
def EXo (p : Int → Prop) : Prop := ∃ o : Int, p o
theorem EXo.mk_ {p : Int → Prop} (o : Int) (h : p o) : EXo p := ⟨o, h⟩
def SY (K W : Nat → Int) (l b : Int) (M M1 : Mm) (i : Nat) (lv : Int) (r : Int) (j : Nat) (lv1 : Int) : Prop := (r = 0 → RSb K W l b i lv j) ∧ (M 37 4 ≤ M1 37 4 ∧ M1 37 4 - M 37 4 ≤ (j : Int) - i) ∧ (r = 1 → NS K W l j ∧ CDS M M1 ∧ (lv < lv1 ∧ lv1 ≤ 50) ∧ RSmQ (MC (M1 39) (M1 40) (M 37 4).toNat (M1 37 4).toNat (lv1 - lv)) K W l b i lv j lv1)
theorem SY.rs {K W : Nat → Int} {l b : Int} {M M1 : Mm} {i : Nat} {lv r : Int} {j : Nat} {lv1 : Int} (h : SY K W l b M M1 i lv r j lv1) : RS K W l b i lv r j lv1 := ⟨fun z => ⟨(h.2.2 z).1, (h.2.2 z).2.2.2.m⟩, h.1⟩
theorem SY.n {K W : Nat → Int} {l b : Int} {M M1 : Mm} {i : Nat} {lv r : Int} {j : Nat} {lv1 : Int} (hr : r = 0) (hb : M 37 4 ≤ M1 37 4 ∧ M1 37 4 - M 37 4 ≤ (j : Int) - i) (h : RS K W l b i lv 0 j lv1) : SY K W l b M M1 i lv r j lv1 := ⟨fun _ => h.2 rfl, hb, fun z => by omega⟩
/-- what a reader of tests gives -/
def TY (K W : Nat → Int) (l b : Int) (M M1 : Mm) (i : Nat) (lv : Int) (r : Int) (j : Nat) (lv1 : Int) : Prop := (r = 0 → RTb K W l b i lv j) ∧ (r = 1 → NT K W l j ∧ (M 37 4 ≤ M1 37 4 ∧ M1 37 4 - M 37 4 ≤ (j : Int) - i) ∧ CDS M M1 ∧ (lv < lv1 ∧ lv1 ≤ 50) ∧ RTmQ (fun f => MC (M1 39) (M1 40) (M 37 4).toNat (M1 37 4).toNat (lv1 - lv) f ∧ T01 f) K W l b i lv j lv1)
theorem TY.rs {K W : Nat → Int} {l b : Int} {M M1 : Mm} {i : Nat} {lv r : Int} {j : Nat} {lv1 : Int} (h : TY K W l b M M1 i lv r j lv1) : RT K W l b i lv r j lv1 := ⟨fun z => ⟨(h.2 z).1, (h.2 z).2.2.2.2.m⟩, h.1⟩
theorem TY.n {K W : Nat → Int} {l b : Int} {M M1 : Mm} {i : Nat} {lv r : Int} {j : Nat} {lv1 : Int} (hr : r = 0) (h : RTb K W l b i lv j) : TY K W l b M M1 i lv r j lv1 := ⟨fun _ => h, fun z => by omega⟩
theorem CDS.pat {M M1 M2 : Mm} {x : Nat} {v : Int} (h : CDS M M1) (h0 : 0 ≤ M 37 4) (e : M2 37 4 = M1 37 4) (h9 : M2 39 = M1 39) (h4 : M2 40 = ms (M1 40) x v) (hx : M 37 4 ≤ (x : Int)) : CDS M M2 := by
  have h1 := h.1
  refine ⟨by omega, fun j hj => ?_⟩
  rw [h9, h4, ms_ne _ _ (by omega)]
  exact h.2 j hj
/-- "and", "or" between two pieces -/
theorem MC.a2 {M1 M2 M3 M4 : Mm} {s q e : Nat} {l l2 l3 c o v : Int} {f g : Mng} (h : MC (M1 39) (M1 40) s q l f) (k : MC (M3 39) (M3 40) (q + 1) e l2 g) (w9 : M2 39 = ms (M1 39) q c) (w4 : M2 40 = ms (M1 40) q 0) (c3 : CDS M2 M3) (n2 : M2 37 4 = (q : Int) + 1) (h9 : M4 39 = M3 39) (h4 : M4 40 = ms (M3 40) q v) (hv : v = (e : Int)) (hc : (c = 14 ∧ o = 28) ∨ (c = 15 ∧ o = 29)) (hl : l3 = l + l2) : MC (M4 39) (M4 40) s e l3 (mAO o f g) := by
  have hq : M4 39 q = c := by rw [h9, (c3.2 q (by omega)).1, w9]; exact ms_at _ _ _
  have hd : M4 40 q = (e : Int) := by rw [h4, ms_at]; exact hv
  rw [hl]
  refine MC.ao (q := q) (h.cg (fun j a b => ?_)) (k.cg (fun j a b => ?_)) (by omega) hd
  · rw [h9, h4, ms_ne _ _ (by omega), (c3.2 j (by omega)).1, (c3.2 j (by omega)).2, w9, w4, ms_ne _ _ (by omega), ms_ne _ _ (by omega)]
    exact ⟨rfl, rfl⟩
  · rw [h9, h4, ms_ne _ _ (by omega)]
    exact ⟨rfl, rfl⟩
theorem MC.nt {M1 M2 : Mm} {s e x : Nat} {l tn s3 : Int} {f : Mng} (h : MC (M1 39) (M1 40) s e l f) (t : T01 f) (w9 : M2 39 = ms (M1 39) x 13) (w4 : M2 40 = ms (M1 40) x 0) (hx : x = e) (e3 : s3 = (e : Int) + 1) (htn : tn = 1) : MC (M2 39) (M2 40) s s3.toNat l (nf tn f) ∧ T01 (nf tn f) := by
  subst hx
  have en : nf tn f = mNot f := if_pos htn
  rw [en, show s3.toNat = x + 1 by omega]
  refine ⟨MC.not_ (h.cg (fun j a b => ?_)) t (by rw [w9]; exact ms_at _ _ _), t.not_⟩
  rw [w9, w4, ms_ne _ _ (by omega), ms_ne _ _ (by omega)]
  exact ⟨rfl, rfl⟩
theorem MC.n0 {M1 M2 : Mm} {s e : Nat} {l tn s3 : Int} {f : Mng} (h : MC (M1 39) (M1 40) s e l f) (t : T01 f) (w9 : M2 39 = M1 39) (w4 : M2 40 = M1 40) (e3 : s3 = (e : Int)) (htn : tn = 0) : MC (M2 39) (M2 40) s s3.toNat l (nf tn f) ∧ T01 (nf tn f) := by
  have en : nf tn f = f := if_neg (by omega)
  rw [en, show s3.toNat = e by omega, w9, w4]
  exact ⟨h, t⟩
