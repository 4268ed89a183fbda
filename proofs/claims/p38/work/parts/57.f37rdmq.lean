/-! the readers' promises, with what is known of the meaning -/
def RSmQ (Q : Mng → Prop) (K W : Nat → Int) (l b : Int) (i : Nat) (lv : Int) (i' : Nat) (lv' : Int) : Prop :=
  i < i' ∧ ∃ f : Mng, Q f ∧ ∀ (t : Bool) (ops : List Int) (vs : List Mng), opn ops = b → tlo l ops → ∃ (os : List Int) (us : List Mng), RCH K W t (1, i, lv, ops, vs) (3, i', lv', os, us) ∧ stl l os us = (ops, f :: vs)
def RSoQ (Q : Mng → Prop) (K W : Nat → Int) (l b o : Int) (i : Nat) (lv : Int) (i' : Nat) (lv' : Int) : Prop :=
  i < i' ∧ ∃ f : Mng, Q f ∧ ∀ (t : Bool) (ops : List Int) (vs : List Mng), opn ops = b → tlo l ops → RCH K W t (1, i, lv, ops, vs) (1, i', lv', o :: ops, f :: vs)
def RTmQ (Q : Mng → Prop) (K W : Nat → Int) (l b : Int) (i : Nat) (lv : Int) (i' : Nat) (lv' : Int) : Prop :=
  i < i' ∧ ∃ f : Mng, Q f ∧ ∀ (ops : List Int) (vs : List Mng), opn ops = b → tlo l ops → inn ops ≠ 31 → ∃ (os : List Int) (us : List Mng), RCH K W true (0, i, lv, ops, vs) (2, i', lv', os, us) ∧ stl l os us = (ops, f :: vs)
def RToQ (Q : Mng → Prop) (K W : Nat → Int) (l b o : Int) (i : Nat) (lv : Int) (i' : Nat) (lv' : Int) : Prop :=
  i < i' ∧ ∃ f : Mng, Q f ∧ ∀ (ops : List Int) (vs : List Mng), opn ops = b → tlo l ops → inn ops ≠ 31 → RCH K W true (0, i, lv, ops, vs) (0, i', lv', o :: ops, f :: vs)
section RQs
variable {K W : Nat → Int} {Q Q1 Q2 : Mng → Prop} {l b o : Int} {i i' i2 : Nat} {lv lv' lv2 : Int}
theorem RSmQ.m (h : RSmQ Q K W l b i lv i' lv') : RSm K W l b i lv i' lv' := by
  obtain ⟨h1, f, -, h2⟩ := h
  exact ⟨h1, f, h2⟩
theorem RTmQ.m (h : RTmQ Q K W l b i lv i' lv') : RTm K W l b i lv i' lv' := by
  obtain ⟨h1, f, -, h2⟩ := h
  exact ⟨h1, f, h2⟩
theorem RSoQ.q (h : RSoQ Q K W l b o i lv i' lv') : RSo K W l b o i lv i' lv' := by
  obtain ⟨h1, f, -, h2⟩ := h
  exact ⟨h1, f, h2⟩
theorem RToQ.q (h : RToQ Q K W l b o i lv i' lv') : RTo K W l b o i lv i' lv' := by
  obtain ⟨h1, f, -, h2⟩ := h
  exact ⟨h1, f, h2⟩
theorem RSmQ.mp (h : RSmQ Q K W l b i lv i' lv') (k : ∀ f, Q f → Q1 f) : RSmQ Q1 K W l b i lv i' lv' := by
  obtain ⟨h1, f, hq, h2⟩ := h
  exact ⟨h1, f, k f hq, h2⟩
theorem RSoQ.mp (h : RSoQ Q K W l b o i lv i' lv') (k : ∀ f, Q f → Q1 f) : RSoQ Q1 K W l b o i lv i' lv' := by
  obtain ⟨h1, f, hq, h2⟩ := h
  exact ⟨h1, f, k f hq, h2⟩
theorem RTmQ.mp (h : RTmQ Q K W l b i lv i' lv') (k : ∀ f, Q f → Q1 f) : RTmQ Q1 K W l b i lv i' lv' := by
  obtain ⟨h1, f, hq, h2⟩ := h
  exact ⟨h1, f, k f hq, h2⟩
theorem RToQ.mp (h : RToQ Q K W l b o i lv i' lv') (k : ∀ f, Q f → Q1 f) : RToQ Q1 K W l b o i lv i' lv' := by
  obtain ⟨h1, f, hq, h2⟩ := h
  exact ⟨h1, f, k f hq, h2⟩
theorem qa_leaf {f : Mng} (hi : i < i') (hq : Q f) (h : ∀ (ops : List Int) (vs : List Mng), stPa K W i lv ops vs = (3, i', lv', ops, f :: vs)) : RSmQ Q K W 7 b i lv i' lv' :=
  ⟨hi, f, hq, fun t ops vs _ _ => ⟨ops, f :: vs, RCH.on (h ops vs), stl_id (tlo7 ops)⟩⟩
theorem qa_num (h : K i = 2) (h5 : lv < 50) (hw : W i ≤ 1000) (hq : Q (mLf 0 (W i))) : RSmQ Q K W 7 b i lv (i + 1) (lv + 1) := qa_leaf (by omega) hq (fun ops vs => by
  unfold stPa
  rw [if_neg (by omega), if_neg (by omega), if_pos h, if_pos hw])
theorem qa_done (h : isWd K W i 146885) (h5 : lv < 50) (hq : Q (mLf 4 0)) : RSmQ Q K W 7 b i lv (i + 1) (lv + 1) := qa_leaf (by omega) hq (fun ops vs => by
  have := h.1
  unfold stPa
  rw [if_neg (by omega), if_neg (by omega), if_neg (by omega), if_pos h])
theorem qa_full (h : isWd K W i 218508) (h5 : lv < 50) (hk : K (i + 1) = 2) (hw : W (i + 1) ≤ 5) (hq : Q (mLf 1 (0 + W (i + 1)))) : RSmQ Q K W 7 b i lv (i + 1 + 1) (lv + 1) := qa_leaf (by omega) hq (fun ops vs => by
  have := h.1
  have := h.2
  unfold stPa
  rw [if_neg (by omega), if_neg (by omega), if_neg (by omega), if_neg (by omega), if_pos h]
  unfold lfG
  rw [if_pos ⟨hk, hw⟩])
theorem qa_size (h : isWd K W i 632645) (h5 : lv < 50) (hk : K (i + 1) = 2) (hw : W (i + 1) ≤ 5) (hq : Q (mLf 2 (0 + W (i + 1)))) : RSmQ Q K W 7 b i lv (i + 1 + 1) (lv + 1) := qa_leaf (by omega) hq (fun ops vs => by
  have := h.1
  have := h.2
  unfold stPa
  rw [if_neg (by omega), if_neg (by omega), if_neg (by omega), if_neg (by omega), if_neg (by omega), if_pos h]
  unfold lfG
  rw [if_pos ⟨hk, hw⟩])
theorem qa_taste (h : isWd K W i 21024389) (h5 : lv < 50) (hk : K (i + 1) = 2 ∧ W (i + 1) ≤ 3) (hg : K (i + 1 + 1) = 2 ∧ W (i + 1 + 1) ≤ 5) (hq : Q (mLf 3 (6 * W (i + 1) + W (i + 1 + 1)))) : RSmQ Q K W 7 b i lv (i + 1 + 1 + 1) (lv + 1) := qa_leaf (by omega) hq (fun ops vs => by
  have := h.1
  have := h.2
  unfold stPa
  rw [if_neg (by omega), if_neg (by omega), if_neg (by omega), if_neg (by omega), if_neg (by omega), if_neg (by omega), if_pos h, if_pos hk]
  unfold lfG
  rw [if_pos hg])
theorem qa_in2 (h : isSg K W i 91) (h8 : b < 8) (hn : NS K W 5 i') (g : RSmQ Q K W 5 (b + 1) (i + 1) lv i' lv') (hz : isSg K W i' 93) : RSmQ Q K W 7 b i lv (i' + 1) lv' := by
  obtain ⟨hi, f, hq, k⟩ := g
  refine ⟨by omega, f, hq, fun t ops vs ho _ => ⟨ops, f :: vs, ?_, stl_id (tlo7 ops)⟩⟩
  obtain ⟨os, us, k1, k2⟩ := k t (31 :: ops) vs (by rw [opn_b (by omega), ho]) (by show bnd 31 < 5; decide)
  exact RCH.tr (pa_open h ho h8) (RCH.tr k1 (RCH.on ((su_sq hn k2).1 hz)))
theorem RSmQ.up (h : RSmQ Q K W (l + 1) b i lv i' lv') : RSmQ Q K W l b i lv i' lv' := by
  obtain ⟨h1, f, hq, h2⟩ := h
  refine ⟨h1, f, hq, fun t ops vs ho hl => ?_⟩
  obtain ⟨os, us, k1, k2⟩ := h2 t ops vs ho (hl.up (by omega))
  refine ⟨os, us, k1, ?_⟩
  rw [stl_re (a := l) (b := l + 1) (by omega) k2]
  exact stl_id hl
theorem apO_bin {f g : Mng} {vs : List Mng} (h : o < 27) : apO o (g :: f :: vs) = mBin o f g :: vs := by
  unfold apO
  rw [if_neg (by omega)]
  show (if o = 28 ∨ o = 29 then mAO o f g else mBin o f g) :: vs = _
  rw [if_neg (by omega)]
theorem apO_ao {f g : Mng} {vs : List Mng} (h : o = 28 ∨ o = 29) : apO o (g :: f :: vs) = mAO o f g :: vs := by
  unfold apO
  rw [if_neg (by omega)]
  show (if o = 28 ∨ o = 29 then mAO o f g else mBin o f g) :: vs = _
  rw [if_pos h]
theorem RSoQ.nx (h : RSoQ Q1 K W l b o i lv i' lv') (ho : bnd o = l) (h30 : o < 27) (g : RSmQ Q2 K W (l + 1) b i' lv' i2 lv2) (q : ∀ f k, Q1 f → Q2 k → Q (mBin o f k)) : RSmQ Q K W l b i lv i2 lv2 := by
  obtain ⟨h1, f, hf, h2⟩ := h
  obtain ⟨g1, k, hk, g2⟩ := g
  refine ⟨by omega, mBin o f k, q f k hf hk, fun t ops vs hb hl => ?_⟩
  obtain ⟨os, us, k1, k2⟩ := g2 t (o :: ops) (f :: vs) (by rw [opn_c (by omega), hb]) (tlo_c (by omega))
  refine ⟨os, us, RCH.tr (h2 t ops vs hb hl) k1, ?_⟩
  rw [stl_re (a := l) (b := l + 1) (by omega) k2, show stl l (o :: ops) (k :: f :: vs) = stl l ops (apO o (k :: f :: vs)) from if_pos (by omega), apO_bin h30]
  exact stl_id hl
theorem RSmQ.op (h : RSmQ Q K W l b i lv i' lv') (hs : ∀ (t : Bool) (os : List Int) (us : List Mng), stSu K W t i' lv' os us = psh 1 o l i' lv' os us) : RSoQ Q K W l b o i lv (i' + 1) lv' := by
  obtain ⟨h1, f, hq, h2⟩ := h
  refine ⟨by omega, f, hq, fun t ops vs hb hl => ?_⟩
  obtain ⟨os, us, k1, k2⟩ := h2 t ops vs hb hl
  refine RCH.tr k1 (RCH.on ?_)
  rw [stp_3, hs]
  unfold psh
  rw [k2]
/-! tests -/
theorem ql_in2 {tn : Int} (h : PLn K W i i' tn) (hs : isSg K W i' 40) (h8 : b < 8) (hn : NT K W 1 i2) (g : RTmQ Q1 K W 1 (b + 1) (i' + 1) lv i2 lv2) (hz : isSg K W i2 41) (q : ∀ f, Q1 f → Q (nf tn f)) : RTmQ Q K W 3 b i lv (i2 + 1) lv2 := by
  obtain ⟨h1, k, ht, h3⟩ := h
  obtain ⟨g1, f, hf, g⟩ := g
  refine ⟨by omega, nf ((k % 2 : Nat) : Int) f, by rw [ht]; exact q f hf, fun ops vs ho hl _ => ?_⟩
  have e : opn (nots k ops) = b := by rw [nots_opn, ho]
  obtain ⟨os, us, k1, k2⟩ := g (30 :: nots k ops) vs (by rw [opn_b (by omega), e]) (by show bnd 30 < 1; decide) (by rw [inn_b (by omega)]; decide)
  exact ⟨nots k ops, f :: vs, RCH.tr (h3 lv ops vs) (RCH.tr (pl_open hs e h8) (RCH.tr k1 (RCH.on ((te_rd hn k2).1 hz)))), nots_stl hl k f⟩
def PLsQ (Q : Mng → Prop) (K W : Nat → Int) (b : Int) (i : Nat) (lv : Int) (tn : Int) (i' : Nat) (lv' : Int) : Prop := i < i' ∧ ∃ (f : Mng) (k : Nat), Q f ∧ ((k % 2 : Nat) : Int) = tn ∧ ∀ (ops : List Int) (vs : List Mng), opn ops = b → tlo 3 ops → inn ops ≠ 31 → ∃ (os : List Int) (us : List Mng), RCH K W true (0, i, lv, ops, vs) (3, i', lv', os, us) ∧ stl 5 os us = (nots k ops, f :: vs)
def PLoQ (Q : Mng → Prop) (K W : Nat → Int) (b o : Int) (i : Nat) (lv : Int) (tn : Int) (i' : Nat) (lv' : Int) : Prop := i < i' ∧ ∃ (f : Mng) (k : Nat), Q f ∧ ((k % 2 : Nat) : Int) = tn ∧ ∀ (ops : List Int) (vs : List Mng), opn ops = b → tlo 3 ops → inn ops ≠ 31 → RCH K W true (0, i, lv, ops, vs) (1, i', lv', o :: nots k ops, f :: vs)
theorem PLsQ.s {tn : Int} (h : PLsQ Q K W b i lv tn i' lv') : PLs K W b i lv tn i' lv' := by
  obtain ⟨h1, f, k, -, h2, h3⟩ := h
  exact ⟨h1, f, k, h2, h3⟩
theorem PLoQ.q {tn : Int} (h : PLoQ Q K W b o i lv tn i' lv') : PLo K W b o i lv tn i' lv' := by
  obtain ⟨h1, f, k, -, h2, h3⟩ := h
  exact ⟨h1, f, k, h2, h3⟩
theorem PLoQ.mp {tn : Int} (h : PLoQ Q K W b o i lv tn i' lv') (q : ∀ f, Q f → Q1 f) : PLoQ Q1 K W b o i lv tn i' lv' := by
  obtain ⟨h1, f, k, h0, h2, h3⟩ := h
  exact ⟨h1, f, k, q f h0, h2, h3⟩
theorem ql_s1 {tn : Int} (h : PLn K W i i' tn) (h1 : ¬ isWd K W i' 14836) (h2 : ¬ isSg K W i' 40) (g : RSmQ Q K W 5 b i' lv i2 lv2) : PLsQ Q K W b i lv tn i2 lv2 := by
  obtain ⟨ha, k, hb, h3⟩ := h
  obtain ⟨g1, f, hq, g⟩ := g
  refine ⟨by omega, f, k, hq, hb, fun ops vs ho hl _ => ?_⟩
  obtain ⟨os, us, k1, k2⟩ := g true (nots k ops) vs (by rw [nots_opn, ho]) (nots_tlo (by omega) hl)
  exact ⟨os, us, RCH.tr (h3 lv ops vs) (k1.pl h1 h2 (show (3 : Int) ≠ 1 by decide)), k2⟩
theorem PLsQ.op {tn : Int} (h : PLsQ Q K W b i lv tn i' lv') (hn : NS K W 5 i') (ho : (o = 24 ∧ isSg K W i' 60) ∨ (o = 25 ∧ isSg K W i' 62) ∨ (o = 26 ∧ isSg K W i' 61)) : PLoQ Q K W b o i lv tn (i' + 1) lv' := by
  obtain ⟨ha, f, k, hq, hk, g⟩ := h
  refine ⟨by omega, f, k, hq, hk, fun ops vs hb hl h31 => ?_⟩
  obtain ⟨os, us, k1, k2⟩ := g ops vs hb hl h31
  have e1 := stl_inn (l := 5) (by omega) os us
  have e2 := stl_cmpd os us
  rw [k2] at e1 e2
  refine RCH.tr k1 (RCH.on ?_)
  rw [stp_3, su_ns hn (by rw [← e1, nots_inn]; exact h31) rfl, if_neg (by rw [← e2, nots_cmpd hl]; decide)]
  rcases ho with ⟨z, y⟩ | ⟨z, y⟩ | ⟨z, y⟩
  · rw [if_pos y, z]
    unfold psh
    rw [k2]
  · have := y.2
    rw [if_neg (by omega), if_pos y, z]
    unfold psh
    rw [k2]
  · have := y.2
    rw [if_neg (by omega), if_neg (by omega), if_pos y, z]
    unfold psh
    rw [k2]
theorem PLoQ.nx {tn : Int} (h : PLoQ Q1 K W b o i lv tn i' lv') (ho : 24 ≤ o ∧ o ≤ 26) (hn : NS K W 5 i2) (g : RSmQ Q2 K W 5 b i' lv' i2 lv2) (q : ∀ f k, Q1 f → Q2 k → Q (nf tn (mBin o f k))) : RTmQ Q K W 3 b i lv i2 lv2 := by
  obtain ⟨ha, f, k, hf, hk, h3⟩ := h
  obtain ⟨g1, f2, hf2, g⟩ := g
  have h4 : bnd o < 5 := by
    have := bnd_5 (x := o)
    omega
  have h5 : (3 : Int) ≤ bnd o := by
    unfold bnd
    rw [if_neg (by omega), if_neg (by omega), if_neg (by omega), if_neg (by omega), if_pos (by omega)]
    decide
  refine ⟨by omega, nf ((k % 2 : Nat) : Int) (mBin o f f2), by rw [hk]; exact q f f2 hf hf2, fun ops vs hb hl h31 => ?_⟩
  obtain ⟨os, us, k1, k2⟩ := g true (o :: nots k ops) (f :: vs) (by rw [opn_c (by omega), nots_opn, hb]) (tlo_c h4)
  have e1 := stl_inn (l := 5) (by omega) os us
  have e2 := stl_cmpd os us
  rw [k2] at e1 e2
  refine ⟨os, us, RCH.tr (h3 ops vs hb hl h31) (RCH.tr k1 (RCH.on ?_)), ?_⟩
  · rw [stp_3, su_ns hn (by rw [← e1, inn_c (by omega), nots_inn]; exact h31) rfl, if_pos]
    rw [← e2]
    show (if o ≤ 23 then cmpd (nots k ops) else decide (o ≤ 26)) = true
    rw [if_neg (by omega)]
    exact decide_eq_true (by omega)
  · rw [stl_re (a := 3) (b := 5) (by omega) k2, show stl 3 (o :: nots k ops) (f2 :: f :: vs) = stl 3 (nots k ops) (apO o (f2 :: f :: vs)) from if_pos h5, apO_bin (by omega)]
    exact nots_stl hl k (mBin o f f2)
theorem RTmQ.up (h : RTmQ Q K W (l + 1) b i lv i' lv') : RTmQ Q K W l b i lv i' lv' := by
  obtain ⟨h1, f, hq, h2⟩ := h
  refine ⟨h1, f, hq, fun ops vs ho hl h31 => ?_⟩
  obtain ⟨os, us, k1, k2⟩ := h2 ops vs ho (hl.up (by omega)) h31
  refine ⟨os, us, k1, ?_⟩
  rw [stl_re (a := l) (b := l + 1) (by omega) k2]
  exact stl_id hl
theorem RToQ.nx (h : RToQ Q1 K W l b o i lv i' lv') (ho : bnd o = l) (h30 : o = 28 ∨ o = 29) (g : RTmQ Q2 K W (l + 1) b i' lv' i2 lv2) (q : ∀ f k, Q1 f → Q2 k → Q (mAO o f k)) : RTmQ Q K W l b i lv i2 lv2 := by
  obtain ⟨h1, f, hf, h2⟩ := h
  obtain ⟨g1, k, hk, g2⟩ := g
  refine ⟨by omega, mAO o f k, q f k hf hk, fun ops vs hb hl h31 => ?_⟩
  obtain ⟨os, us, k1, k2⟩ := g2 (o :: ops) (f :: vs) (by rw [opn_c (by omega), hb]) (tlo_c (by omega)) (by rw [inn_c (by omega)]; exact h31)
  refine ⟨os, us, RCH.tr (h2 ops vs hb hl h31) k1, ?_⟩
  rw [stl_re (a := l) (b := l + 1) (by omega) k2, show stl l (o :: ops) (k :: f :: vs) = stl l ops (apO o (k :: f :: vs)) from if_pos (by omega), apO_ao h30]
  exact stl_id hl
theorem RTmQ.and_ (h : RTmQ Q K W 2 b i lv i' lv') (hw : isWd K W i' 1476) : RToQ Q K W 2 b 28 i lv (i' + 1) lv' := by
  obtain ⟨h1, f, hq, h2⟩ := h
  refine ⟨by omega, f, hq, fun ops vs hb hl h31 => ?_⟩
  obtain ⟨os, us, k1, k2⟩ := h2 ops vs hb hl h31
  refine RCH.tr k1 (RCH.on ?_)
  rw [stp_2]
  unfold stTe
  rw [if_pos hw]
  unfold psh
  rw [k2]
theorem RTmQ.or_ (h : RTmQ Q K W 1 b i lv i' lv') (hw : isWd K W i' 498) : RToQ Q K W 1 b 29 i lv (i' + 1) lv' := by
  obtain ⟨h1, f, hq, h2⟩ := h
  refine ⟨by omega, f, hq, fun ops vs hb hl h31 => ?_⟩
  obtain ⟨os, us, k1, k2⟩ := h2 ops vs hb hl h31
  have := hw.2
  refine RCH.tr k1 (RCH.on ?_)
  rw [stp_2]
  unfold stTe
  rw [if_neg (by omega), if_pos hw]
  unfold psh
  rw [k2]
end RQs
/-! the meaning of a whole sum, of a whole test -/
noncomputable def exM (K W : Nat → Int) (t : Bool) (i : Nat) (lv : Int) : Mng :=
  @dite _ (∃ φ : RSt, EXP K W t i lv φ) (Classical.propDecidable _) (fun h => ((stl 1 (Classical.choose h).2.2.2.1 (Classical.choose h).2.2.2.2).2.headD (fun _ => none))) (fun _ => (fun _ => none))
theorem exM_at {K W : Nat → Int} {t : Bool} {i i' : Nat} {lv lv' : Int} {os : List Int} {us : List Mng} {f : Mng} {vs : List Mng} (h : EXP K W t i lv (4, i', lv', os, us)) (e : (stl 1 os us).2 = f :: vs) : exM K W t i lv = f := by
  have hx : ∃ ψ : RSt, EXP K W t i lv ψ := ⟨_, h⟩
  have e1 : Classical.choose hx = (4, i', lv', os, us) := EXP.det (Classical.choose_spec hx) h
  unfold exM
  rw [dif_pos hx, e1]
  show (stl 1 os us).2.headD _ = f
  rw [e]
  rfl
theorem RSmQ.exM {Q : Mng → Prop} {K W : Nat → Int} {i i' : Nat} {lv lv' : Int} (h : RSmQ Q K W 5 0 i lv i' lv') (hn : NS K W 5 i') : Q (exM K W false i lv) := by
  obtain ⟨-, f, hq, g⟩ := h
  obtain ⟨os, us, k1, k2⟩ := g false [] [] rfl trivial
  have e1 := stl_inn (l := 5) (by omega) os us
  rw [k2] at e1
  have e2 : inn os = -1 := e1.symm
  have h1 := hn.1 (by omega)
  have h2 := hn.2 (by omega)
  have ex : EXP K W false i lv (4, i', lv', os, us) := by
    refine ⟨RCH.tr k1 (RCH.on ?_), rfl⟩
    rw [stp_3]
    unfold stSu
    rw [if_neg h2.1, if_neg h2.2, if_neg h1.1, if_neg h1.2, if_neg (by omega), if_pos ⟨e2, rfl⟩]
  rw [exM_at ex (f := f) (vs := []) (by rw [stl_re (a := 1) (b := 5) (by omega) k2]; rfl)]
  exact hq
theorem RTmQ.exM {Q : Mng → Prop} {K W : Nat → Int} {i i' : Nat} {lv lv' : Int} (h : RTmQ Q K W 1 0 i lv i' lv') (hn : NT K W 1 i') : Q (exM K W true i lv) := by
  obtain ⟨-, f, hq, g⟩ := h
  obtain ⟨os, us, k1, k2⟩ := g [] [] rfl trivial (by decide)
  have e1 := stl_inn (l := 1) (by omega) os us
  rw [k2] at e1
  have e2 : inn os = -1 := e1.symm
  have ex : EXP K W true i lv (4, i', lv', os, us) := by
    refine ⟨RCH.tr k1 (RCH.on ?_), rfl⟩
    rw [stp_2]
    unfold stTe
    rw [if_neg (hn.1 (by omega)), if_neg (hn.2 (by omega)), if_pos e2]
  rw [exM_at ex (f := f) (vs := []) (by rw [k2])]
  exact hq
