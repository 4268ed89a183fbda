/-! tests -/
theorem mNot2 (f : Mng) : mNot (mNot f) = f := by
  funext e
  unfold mNot
  cases f e with
  | none => rfl
  | some a =>
    show some (1 - (1 - a)) = some a
    rw [show 1 - (1 - a) = a by omega]
def nots (k : Nat) (ops : List Int) : List Int := List.replicate k 27 ++ ops
theorem nots_s (k : Nat) (ops : List Int) : nots (k + 1) ops = 27 :: nots k ops := rfl
theorem nots_opn (k : Nat) (ops : List Int) : opn (nots k ops) = opn ops := by
  induction k with
  | zero => rfl
  | succ k ih => rw [nots_s, opn_c (by omega), ih]
theorem nots_inn (k : Nat) (ops : List Int) : inn (nots k ops) = inn ops := by
  induction k with
  | zero => rfl
  | succ k ih => rw [nots_s, inn_c (by omega), ih]
theorem nots_tlo {k : Nat} {ops : List Int} {l : Int} (hl : 3 < l) (h : tlo 3 ops) : tlo l (nots k ops) := by
  cases k with
  | zero => exact h.up (by omega)
  | succ k =>
    rw [nots_s]
    refine tlo_c ?_
    have : bnd 27 = 3 := rfl
    omega
theorem nots_cmpd {k : Nat} {ops : List Int} (h : tlo 3 ops) : cmpd (nots k ops) = false := by
  cases k with
  | zero =>
    cases ops with
    | nil => rfl
    | cons o os =>
      have h' : bnd o < 3 := h
      have h28 : 28 ≤ o := by
        unfold bnd at h'
        split at h'
        · omega
        · split at h'
          · omega
          · split at h'
            · omega
            · split at h'
              · omega
              · split at h'
                · omega
                · split at h' <;> omega
      show (if o ≤ 23 then cmpd os else decide (o ≤ 26)) = false
      rw [if_neg (by omega)]
      exact decide_eq_false (by omega)
  | succ k =>
    rw [nots_s]
    rfl
def nf (tn : Int) (f : Mng) : Mng := if tn = 1 then mNot f else f
theorem nots_stl {ops : List Int} {vs : List Mng} (h : tlo 3 ops) : ∀ (k : Nat) (f : Mng), stl 3 (nots k ops) (f :: vs) = (ops, nf ((k % 2 : Nat) : Int) f :: vs)
  | 0, f => stl_id h
  | k + 1, f => by
    rw [nots_s, show stl 3 (27 :: nots k ops) (f :: vs) = stl 3 (nots k ops) (apO 27 (f :: vs)) from rfl, show apO 27 (f :: vs) = mNot f :: vs from rfl, nots_stl h k (mNot f)]
    unfold nf
    rcases Nat.mod_two_eq_zero_or_one k with z | z
    · rw [z, show (k + 1) % 2 = 1 by omega, if_neg (by decide), if_pos (by decide)]
    · rw [z, show (k + 1) % 2 = 0 by omega, if_pos (by decide), if_neg (by decide), mNot2]
section TEs
variable {K W : Nat → Int} {l b o : Int} {i i' i2 i3 : Nat} {lv lv' lv2 lv3 : Int}
/-- so many nots -/
def PLn (K W : Nat → Int) (i i' : Nat) (tn : Int) : Prop := i ≤ i' ∧ ∃ k : Nat, ((k % 2 : Nat) : Int) = tn ∧ ∀ (lv : Int) (ops : List Int) (vs : List Mng), RCH K W true (0, i, lv, ops, vs) (0, i', lv, nots k ops, vs)
theorem PLn.zero (K W : Nat → Int) (i : Nat) : PLn K W i i 0 := ⟨Nat.le_refl _, 0, rfl, fun _ _ _ => RCH.rf⟩
theorem PLn.one {tn : Int} (h : PLn K W i i' tn) (hw : isWd K W i' 14836) : PLn K W i (i' + 1) (1 - tn) := by
  obtain ⟨h1, k, h2, h3⟩ := h
  refine ⟨by omega, k + 1, by omega, fun lv ops vs => RCH.tr (h3 lv ops vs) (RCH.on ?_)⟩
  rw [stp_0]
  unfold stPl
  rw [if_pos hw]
  rfl
theorem RT.y {l : Int} {i' : Nat} {lv' : Int} (h : NT K W l i' ∧ RTm K W l b i lv i' lv') : RT K W l b i lv 1 i' lv' := ⟨fun _ => h, fun z => by omega⟩
theorem RT.n {l : Int} {i' : Nat} {lv' : Int} (h : RTb K W l b i lv i') : RT K W l b i lv 0 i' lv' := ⟨fun z => by omega, fun _ => h⟩
theorem NT3 (K W : Nat → Int) (i : Nat) : NT K W 3 i := ⟨fun z => by omega, fun z => by omega⟩
theorem pl_8 {tn : Int} (h : PLn K W i i' tn) (hs : isSg K W i' 40) (h8 : 8 ≤ b) : RTb K W 3 b i lv i' := by
  obtain ⟨-, k, -, h3⟩ := h
  intro ops vs ho _ _
  refine RCH.tr (h3 lv ops vs) (RCH.on ?_)
  have := hs.1
  rw [stp_0]
  unfold stPl
  rw [if_neg (by omega), if_pos hs, if_neg (by rw [nots_opn]; omega)]
theorem pl_open {ops : List Int} {vs : List Mng} (hs : isSg K W i' 40) (ho : opn ops = b) (h8 : b < 8) : RCH K W true (0, i', lv, ops, vs) (0, i' + 1, lv, 30 :: ops, vs) := by
  refine RCH.on ?_
  have := hs.1
  rw [stp_0]
  unfold stPl
  rw [if_neg (by omega), if_pos hs, if_pos (by omega)]
theorem pl_in0 {tn : Int} (h : PLn K W i i' tn) (hs : isSg K W i' 40) (h8 : b < 8) (g : RTb K W 1 (b + 1) (i' + 1) lv i2) : RTb K W 3 b i lv i2 := by
  obtain ⟨-, k, -, h3⟩ := h
  intro ops vs ho hl hn
  have e : opn (nots k ops) = b := by rw [nots_opn, ho]
  exact RCH.tr (h3 lv ops vs) (RCH.tr (pl_open hs e h8) (g (30 :: nots k ops) vs (by rw [opn_b (by omega), e]) (by show bnd 30 < 1; decide) (by rw [inn_b (by omega)]; decide)))
theorem te_rd {os ops : List Int} {us vs : List Mng} {f : Mng} (hn : NT K W 1 i2) (e : stl 1 os us = (30 :: ops, f :: vs)) : (isSg K W i2 41 → stp K W true (2, i2, lv2, os, us) = (2, i2 + 1, lv2, ops, f :: vs)) ∧ (¬ isSg K W i2 41 → stp K W true (2, i2, lv2, os, us) = bad i2) := by
  have hi : inn os = 30 := by
    have := stl_inn (l := 1) (by omega) os us
    rw [e] at this
    rw [← this]
    exact inn_b (by omega)
  rw [stp_2]
  unfold stTe
  rw [if_neg (hn.1 (by omega)), if_neg (hn.2 (by omega)), if_neg (by omega)]
  refine ⟨fun z => ?_, fun z => ?_⟩
  · rw [if_pos z]
    unfold cls_
    rw [e]
    rfl
  · rw [if_neg z]
theorem pl_in1 {tn : Int} (h : PLn K W i i' tn) (hs : isSg K W i' 40) (h8 : b < 8) (hn : NT K W 1 i2) (g : RTm K W 1 (b + 1) (i' + 1) lv i2 lv2) (hz : ¬ isSg K W i2 41) : RTb K W 3 b i lv i2 := by
  obtain ⟨-, k, -, h3⟩ := h
  obtain ⟨-, f, g⟩ := g
  intro ops vs ho hl _
  have e : opn (nots k ops) = b := by rw [nots_opn, ho]
  obtain ⟨os, us, k1, k2⟩ := g (30 :: nots k ops) vs (by rw [opn_b (by omega), e]) (by show bnd 30 < 1; decide) (by rw [inn_b (by omega)]; decide)
  exact RCH.tr (h3 lv ops vs) (RCH.tr (pl_open hs e h8) (RCH.tr k1 (RCH.on ((te_rd hn k2).2 hz))))
/-- a part read from turn 0 -/
theorem RCH.pl {ops : List Int} {vs : List Mng} {φ : RSt} (h : RCH K W true (1, i, lv, ops, vs) φ) (h1 : ¬ isWd K W i 14836) (h2 : ¬ isSg K W i 40) (hf : φ.1 ≠ 1) : RCH K W true (0, i, lv, ops, vs) φ := by
  obtain ⟨n, hn⟩ := h
  cases n with
  | zero =>
    subst hn
    exact absurd rfl hf
  | succ n =>
    refine ⟨n + 1, ?_⟩
    rw [← hn]
    show itS K W true n (stPl K W i lv ops vs) = itS K W true n (stPa K W i lv ops vs)
    unfold stPl
    rw [if_neg h1, if_neg h2]
theorem pl_s0 {tn : Int} (h : PLn K W i i' tn) (h1 : ¬ isWd K W i' 14836) (h2 : ¬ isSg K W i' 40) (g : RSb K W 5 b i' lv i2) : RTb K W 3 b i lv i2 := by
  obtain ⟨-, k, -, h3⟩ := h
  intro ops vs ho hl _
  exact RCH.tr (h3 lv ops vs) ((g true (nots k ops) vs (by rw [nots_opn, ho]) (nots_tlo (by omega) hl)).pl h1 h2 (show (9 : Int) ≠ 1 by decide))
/-- the first sum of a comparison is read -/
def PLs (K W : Nat → Int) (b : Int) (i : Nat) (lv : Int) (tn : Int) (i' : Nat) (lv' : Int) : Prop := i < i' ∧ ∃ (f : Mng) (k : Nat), ((k % 2 : Nat) : Int) = tn ∧ ∀ (ops : List Int) (vs : List Mng), opn ops = b → tlo 3 ops → inn ops ≠ 31 → ∃ (os : List Int) (us : List Mng), RCH K W true (0, i, lv, ops, vs) (3, i', lv', os, us) ∧ stl 5 os us = (nots k ops, f :: vs)
theorem pl_s1 {tn : Int} (h : PLn K W i i' tn) (h1 : ¬ isWd K W i' 14836) (h2 : ¬ isSg K W i' 40) (g : RSm K W 5 b i' lv i2 lv2) : PLs K W b i lv tn i2 lv2 := by
  obtain ⟨ha, k, hb, h3⟩ := h
  obtain ⟨g1, f, g⟩ := g
  refine ⟨by omega, f, k, hb, fun ops vs ho hl _ => ?_⟩
  obtain ⟨os, us, k1, k2⟩ := g true (nots k ops) vs (by rw [nots_opn, ho]) (nots_tlo (by omega) hl)
  exact ⟨os, us, RCH.tr (h3 lv ops vs) (k1.pl h1 h2 (show (3 : Int) ≠ 1 by decide)), k2⟩
theorem su_ns {t : Bool} {os : List Int} {us : List Mng} (hn : NS K W 5 i') (h31 : inn os ≠ 31) (ht : t = true) : stSu K W t i' lv' os us = if cmpd os = true then (2, i', lv', os, us) else if K i' = 3 ∧ W i' = 60 then psh 1 24 5 i' lv' os us else if K i' = 3 ∧ W i' = 62 then psh 1 25 5 i' lv' os us else if K i' = 3 ∧ W i' = 61 then psh 1 26 5 i' lv' os us else bad i' := by
  have h1 := hn.1 (by omega)
  have h2 := hn.2 (by omega)
  unfold stSu
  rw [if_neg h2.1, if_neg h2.2, if_neg h1.1, if_neg h1.2, if_neg h31, if_neg (by rw [ht]; exact fun z => by cases z.2)]
theorem PLs.no {tn : Int} (h : PLs K W b i lv tn i' lv') (hn : NS K W 5 i') (h1 : ¬ isSg K W i' 60) (h2 : ¬ isSg K W i' 62) (h3 : ¬ isSg K W i' 61) : RTb K W 3 b i lv i' := by
  obtain ⟨-, f, k, -, g⟩ := h
  intro ops vs ho hl h31
  obtain ⟨os, us, k1, k2⟩ := g ops vs ho hl h31
  have e1 := stl_inn (l := 5) (by omega) os us
  have e2 := stl_cmpd os us
  rw [k2] at e1 e2
  refine RCH.tr k1 (RCH.on ?_)
  rw [stp_3, su_ns hn (by rw [← e1, nots_inn]; exact h31) rfl, if_neg (by rw [← e2, nots_cmpd hl]; decide), if_neg h1, if_neg h2, if_neg h3]
/-- the sign of a comparison is read, too -/
def PLo (K W : Nat → Int) (b o : Int) (i : Nat) (lv : Int) (tn : Int) (i' : Nat) (lv' : Int) : Prop := i < i' ∧ ∃ (f : Mng) (k : Nat), ((k % 2 : Nat) : Int) = tn ∧ ∀ (ops : List Int) (vs : List Mng), opn ops = b → tlo 3 ops → inn ops ≠ 31 → RCH K W true (0, i, lv, ops, vs) (1, i', lv', o :: nots k ops, f :: vs)
theorem PLs.op {tn : Int} (h : PLs K W b i lv tn i' lv') (hn : NS K W 5 i') (ho : (o = 24 ∧ isSg K W i' 60) ∨ (o = 25 ∧ isSg K W i' 62) ∨ (o = 26 ∧ isSg K W i' 61)) : PLo K W b o i lv tn (i' + 1) lv' := by
  obtain ⟨ha, f, k, hk, g⟩ := h
  refine ⟨by omega, f, k, hk, fun ops vs hb hl h31 => ?_⟩
  obtain ⟨os, us, k1, k2⟩ := g ops vs hb hl h31
  have e1 := stl_inn (l := 5) (by omega) os us
  have e2 := stl_cmpd os us
  rw [k2] at e1 e2
  refine RCH.tr k1 (RCH.on ?_)
  rw [stp_3, su_ns hn (by rw [← e1, nots_inn]; exact h31) rfl, if_neg (by rw [← e2, nots_cmpd hl]; decide)]
  rcases ho with ⟨z, y⟩ | ⟨z, y⟩ | ⟨z, y⟩
  · rw [if_pos y, z]
    unfold psh
    rw [k2]
  · have := y.2
    rw [if_neg (by omega), if_pos y, z]
    unfold psh
    rw [k2]
  · have := y.2
    rw [if_neg (by omega), if_neg (by omega), if_pos y, z]
    unfold psh
    rw [k2]
theorem PLo.no {tn : Int} (h : PLo K W b o i lv tn i' lv') (ho : 24 ≤ o ∧ o ≤ 26) (g : RSb K W 5 b i' lv' i2) : RTb K W 3 b i lv i2 := by
  obtain ⟨-, f, k, -, h3⟩ := h
  intro ops vs hb hl h31
  have h4 : bnd o < 5 := by
    have := bnd_5 (x := o)
    omega
  exact RCH.tr (h3 ops vs hb hl h31) (g true (o :: nots k ops) (f :: vs) (by rw [opn_c (by omega), nots_opn, hb]) (tlo_c h4))
theorem PLo.nx {tn : Int} (h : PLo K W b o i lv tn i' lv') (ho : 24 ≤ o ∧ o ≤ 26) (hn : NS K W 5 i2) (g : RSm K W 5 b i' lv' i2 lv2) : RTm K W 3 b i lv i2 lv2 := by
  obtain ⟨ha, f, k, hk, h3⟩ := h
  obtain ⟨g1, f2, g⟩ := g
  have h4 : bnd o < 5 := by
    have := bnd_5 (x := o)
    omega
  have h5 : (3 : Int) ≤ bnd o := by
    unfold bnd
    rw [if_neg (by omega), if_neg (by omega), if_neg (by omega), if_neg (by omega), if_pos (by omega)]
    decide
  refine ⟨by omega, nf ((k % 2 : Nat) : Int) (mBin o f f2), fun ops vs hb hl h31 => ?_⟩
  obtain ⟨os, us, k1, k2⟩ := g true (o :: nots k ops) (f :: vs) (by rw [opn_c (by omega), nots_opn, hb]) (tlo_c h4)
  have e1 := stl_inn (l := 5) (by omega) os us
  have e2 := stl_cmpd os us
  rw [k2] at e1 e2
  refine ⟨os, us, RCH.tr (h3 ops vs hb hl h31) (RCH.tr k1 (RCH.on ?_)), ?_⟩
  · rw [stp_3, su_ns hn (by rw [← e1, inn_c (by omega), nots_inn]; exact h31) rfl, if_pos]
    rw [← e2]
    show (if o ≤ 23 then cmpd (nots k ops) else decide (o ≤ 26)) = true
    rw [if_neg (by omega)]
    exact decide_eq_true (by omega)
  · rw [stl_re (a := 3) (b := 5) (by omega) k2, show stl 3 (o :: nots k ops) (f2 :: f :: vs) = stl 3 (nots k ops) (apO o (f2 :: f :: vs)) from if_pos h5]
    rw [show apO o (f2 :: f :: vs) = mBin o f f2 :: vs by
      unfold apO
      rw [if_neg (by omega)]
      show (if o = 28 ∨ o = 29 then _ else _) :: vs = _
      rw [if_neg (by omega)]]
    exact nots_stl hl k (mBin o f f2)
/-! and, or -/
theorem RTm.up (h : RTm K W (l + 1) b i lv i' lv') : RTm K W l b i lv i' lv' := by
  obtain ⟨h1, f, h2⟩ := h
  refine ⟨h1, f, fun ops vs ho hl h31 => ?_⟩
  obtain ⟨os, us, k1, k2⟩ := h2 ops vs ho (hl.up (by omega)) h31
  refine ⟨os, us, k1, ?_⟩
  rw [stl_re (a := l) (b := l + 1) (by omega) k2]
  exact stl_id hl
theorem RTb.up (h : RTb K W (l + 1) b i lv i') : RTb K W l b i lv i' := fun ops vs ho hl h31 => h ops vs ho (hl.up (by omega)) h31
theorem RTo.no (h : RTo K W l b o i lv i' lv') (ho : bnd o = l) (h30 : o < 30) (g : RTb K W (l + 1) b i' lv' i2) : RTb K W l b i lv i2 := by
  obtain ⟨h1, f, h2⟩ := h
  intro ops vs hb hl h31
  exact RCH.tr (h2 ops vs hb hl h31) (g (o :: ops) (f :: vs) (by rw [opn_c h30, hb]) (tlo_c (by omega)) (by rw [inn_c h30]; exact h31))
theorem RTo.nx (h : RTo K W l b o i lv i' lv') (ho : bnd o = l) (h30 : o = 28 ∨ o = 29) (g : RTm K W (l + 1) b i' lv' i2 lv2) : RTm K W l b i lv i2 lv2 := by
  obtain ⟨h1, f, h2⟩ := h
  obtain ⟨g1, k, g2⟩ := g
  obtain ⟨x, hx⟩ : ∃ x : Mng, ∀ vs : List Mng, apO o (k :: f :: vs) = x :: vs := ⟨_, fun vs => by unfold apO; rw [if_neg (by omega)]⟩
  refine ⟨by omega, x, fun ops vs hb hl h31 => ?_⟩
  obtain ⟨os, us, k1, k2⟩ := g2 (o :: ops) (f :: vs) (by rw [opn_c (by omega), hb]) (tlo_c (by omega)) (by rw [inn_c (by omega)]; exact h31)
  refine ⟨os, us, RCH.tr (h2 ops vs hb hl h31) k1, ?_⟩
  rw [stl_re (a := l) (b := l + 1) (by omega) k2, show stl l (o :: ops) (k :: f :: vs) = stl l ops (apO o (k :: f :: vs)) from if_pos (by omega), hx]
  exact stl_id hl
theorem RTm.and_ (h : RTm K W 2 b i lv i' lv') (hw : isWd K W i' 1476) : RTo K W 2 b 28 i lv (i' + 1) lv' := by
  obtain ⟨h1, f, h2⟩ := h
  refine ⟨by omega, f, fun ops vs hb hl h31 => ?_⟩
  obtain ⟨os, us, k1, k2⟩ := h2 ops vs hb hl h31
  refine RCH.tr k1 (RCH.on ?_)
  rw [stp_2]
  unfold stTe
  rw [if_pos hw]
  unfold psh
  rw [k2]
theorem RTm.or_ (h : RTm K W 1 b i lv i' lv') (hw : isWd K W i' 498) : RTo K W 1 b 29 i lv (i' + 1) lv' := by
  obtain ⟨h1, f, h2⟩ := h
  refine ⟨by omega, f, fun ops vs hb hl h31 => ?_⟩
  obtain ⟨os, us, k1, k2⟩ := h2 ops vs hb hl h31
  have := hw.2
  refine RCH.tr k1 (RCH.on ?_)
  rw [stp_2]
  unfold stTe
  rw [if_neg (by omega), if_pos hw]
  unfold psh
  rw [k2]
/-! a whole sum, a whole test -/
def EXP (K W : Nat → Int) (t : Bool) (i : Nat) (lv : Int) (φ : RSt) : Prop := RCH K W t ((if t = true then 0 else 1), i, lv, [], []) φ ∧ stp K W t φ = φ
theorem EXP.det {t : Bool} {φ ψ : RSt} (h : EXP K W t i lv φ) (g : EXP K W t i lv ψ) : φ = ψ := RCH.det h.2 g.2 h.1 g.1
theorem RS.exp {r : Int} (h : RS K W 5 0 i lv r i' lv') : (r = 1 → ∃ (os : List Int) (us : List Mng), EXP K W false i lv (4, i', lv', os, us)) ∧ (r = 0 → EXP K W false i lv (bad i')) := by
  refine ⟨fun z => ?_, fun z => ⟨h.2 z false [] [] rfl trivial, rfl⟩⟩
  obtain ⟨hn, -, f, g⟩ := h.1 z
  obtain ⟨os, us, k1, k2⟩ := g false [] [] rfl trivial
  have e1 := stl_inn (l := 5) (by omega) os us
  rw [k2] at e1
  have e2 : inn os = -1 := e1.symm
  refine ⟨os, us, RCH.tr k1 (RCH.on ?_), rfl⟩
  have h1 := hn.1 (by omega)
  have h2 := hn.2 (by omega)
  rw [stp_3]
  unfold stSu
  rw [if_neg h2.1, if_neg h2.2, if_neg h1.1, if_neg h1.2, if_neg (by omega), if_pos ⟨e2, rfl⟩]
theorem RT.exp {r : Int} (h : RT K W 1 0 i lv r i' lv') : (r = 1 → ∃ (os : List Int) (us : List Mng), EXP K W true i lv (4, i', lv', os, us)) ∧ (r = 0 → EXP K W true i lv (bad i')) := by
  refine ⟨fun z => ?_, fun z => ⟨h.2 z [] [] rfl trivial (by decide), rfl⟩⟩
  obtain ⟨hn, -, f, g⟩ := h.1 z
  obtain ⟨os, us, k1, k2⟩ := g [] [] rfl trivial (by decide)
  have e1 := stl_inn (l := 1) (by omega) os us
  rw [k2] at e1
  have e2 : inn os = -1 := e1.symm
  refine ⟨os, us, RCH.tr k1 (RCH.on ?_), rfl⟩
  rw [stp_2]
  unfold stTe
  rw [if_neg (hn.1 (by omega)), if_neg (hn.2 (by omega)), if_pos e2]
end TEs
