/-! the reference's cells realize a state of the machine -/
def RFo (K W S E : Nat → Int) (m : Nat) (M : Mm) (i : Nat) (lv : Int) (ops : List Int) : Prop := AT K W S E m M i ∧ M 97 24 = lv ∧ M 97 28 = opn ops ∧ PIL (M 110) (M 97 27).toNat ops
def RFs (K W S E : Nat → Int) (m : Nat) (M : Mm) (r : Int) (s : RSt) : Prop := (M 97 18 = 0 ∧ s.1 = r ∧ RFo K W S E m M s.2.1 s.2.2.1 s.2.2.2.1) ∨ (M 97 18 ≠ 0 ∧ ∃ j : Nat, s = bad j ∧ M 97 17 = S j)
section RFx
variable {K W S E : Nat → Int} {m i : Nat} {lv : Int} {ops : List Int} {vs : List Mng} {M M1 M2 : Mm} {r its a : Int} {s : RSt}
theorem RFo.eq (h : RFo K W S E m M i lv ops) (e3 : M1 97 13 = M 97 13) (e4 : M1 97 14 = M 97 14) (e5 : M1 97 15 = M 97 15) (e6 : M1 97 16 = M 97 16) (e7 : M1 97 17 = M 97 17) (e24 : M1 97 24 = M 97 24) (e27 : M1 97 27 = M 97 27) (e28 : M1 97 28 = M 97 28) (e110 : M1 110 = M 110) : RFo K W S E m M1 i lv ops :=
  ⟨h.1.eq e3 e4 e5 e6 e7, e24.trans h.2.1, e28.trans h.2.2.1, by rw [e110, e27]; exact h.2.2.2⟩
theorem RFs.eq (h : RFs K W S E m M r s) (e3 : M1 97 13 = M 97 13) (e4 : M1 97 14 = M 97 14) (e5 : M1 97 15 = M 97 15) (e6 : M1 97 16 = M 97 16) (e7 : M1 97 17 = M 97 17) (e8 : M1 97 18 = M 97 18) (e24 : M1 97 24 = M 97 24) (e27 : M1 97 27 = M 97 27) (e28 : M1 97 28 = M 97 28) (e110 : M1 110 = M 110) : RFs K W S E m M1 r s := by
  rcases h with ⟨a, b, c⟩ | ⟨a, j, b, c⟩
  · exact Or.inl ⟨by omega, b, c.eq e3 e4 e5 e6 e7 e24 e27 e28 e110⟩
  · exact Or.inr ⟨by omega, j, b, by omega⟩
theorem RFs.ok (hb : M 97 18 = 0) (e : s = (r, i, lv, ops, vs)) (h : RFo K W S E m M i lv ops) : RFs K W S E m M r s := by
  rw [e]
  exact Or.inl ⟨hb, rfl, h⟩
theorem RFs.no {j : Nat} (hb : M 97 18 ≠ 0) (e : s = bad j) (h : M 97 17 = S j) : RFs K W S E m M r s := Or.inr ⟨hb, j, e, h⟩
/-- a bracket, a leaf -/
def OBQ (K W S E : Nat → Int) (m : Nat) (i : Nat) (lv : Int) (ops : List Int) (a : Int) (M1 : Mm) : Prop := (M1 97 18 = 0 ∧ opn ops < 8 ∧ RFo K W S E m M1 (i + 1) lv (a :: ops)) ∨ (M1 97 18 ≠ 0 ∧ 8 ≤ opn ops ∧ M1 97 17 = S i)
def LFQ (K W S E : Nat → Int) (m : Nat) (i : Nat) (lv : Int) (ops : List Int) (is : Int) (M1 : Mm) : Prop := (M1 97 18 = 0 ∧ is ≠ 0 ∧ lv < 50 ∧ RFo K W S E m M1 (i + 1) (lv + 1) ops) ∨ (M1 97 18 ≠ 0 ∧ (is = 0 ∨ 50 ≤ lv) ∧ M1 97 17 = S i)
def ITS (K W : Nat → Int) (i : Nat) (its : Int) : Prop := ¬ isSg K W i 91 ∧ ((its = 1 ∧ isWd K W i 218508) ∨ (its = 2 ∧ isWd K W i 632645) ∨ (its = 3 ∧ isWd K W i 21024389) ∨ (its = 4 ∧ isWd K W i 146885) ∨ (its = -1 ∧ ¬ isWd K W i 218508 ∧ ¬ isWd K W i 632645 ∧ ¬ isWd K W i 21024389 ∧ ¬ isWd K W i 146885))
theorem stPa_ob (h : isSg K W i 91) : stPa K W i lv ops vs = if opn ops < 8 then (1, i + 1, lv, 31 :: ops, vs) else bad i := if_pos h
theorem stPa_lv (h : ¬ isSg K W i 91) (h5 : 50 ≤ lv) : stPa K W i lv ops vs = bad i := by
  unfold stPa
  rw [if_neg h, if_pos h5]
theorem stPa_no (h : ITS K W i its) (hi : its = -1) (hd : ¬ (K i = 2 ∧ W i ≤ 1000)) : stPa K W i lv ops vs = bad i := by
  obtain ⟨h0, h1⟩ := h
  unfold stPa
  rw [if_neg h0]
  split
  · rfl
  · split
    · rw [if_neg (by omega)]
    · rw [if_neg (by omega), if_neg (by omega), if_neg (by omega), if_neg (by omega)]
theorem stPa_num (h : ITS K W i its) (h5 : lv < 50) (hi : its = -1) (hd : K i = 2 ∧ W i ≤ 1000) : stPa K W i lv ops vs = (3, i + 1, lv + 1, ops, mLf 0 (W i) :: vs) := by
  obtain ⟨h0, h1⟩ := h
  unfold stPa
  rw [if_neg h0, if_neg (by omega), if_pos hd.1, if_pos hd.2]
theorem stPa_done (h : ITS K W i its) (h5 : lv < 50) (hi : its = 4) : stPa K W i lv ops vs = (3, i + 1, lv + 1, ops, mLf 4 0 :: vs) := by
  obtain ⟨h0, h1⟩ := h
  unfold stPa
  rw [if_neg h0, if_neg (by omega), if_neg (by omega), if_pos (by omega)]
theorem stPa_g (h : ITS K W i its) (h5 : lv < 50) (hi : its = 1 ∨ its = 2) : stPa K W i lv ops vs = lfG K W its 0 (i + 1) (lv + 1) ops vs := by
  obtain ⟨h0, h1⟩ := h
  rcases hi with z | z
  · subst z
    unfold stPa
    rw [if_neg h0, if_neg (by omega), if_neg (by omega), if_neg (by omega), if_pos (by omega)]
  · subst z
    unfold stPa
    rw [if_neg h0, if_neg (by omega), if_neg (by omega), if_neg (by omega), if_neg (by omega), if_pos (by omega)]
theorem stPa_t (h : ITS K W i its) (h5 : lv < 50) (hi : its = 3) : stPa K W i lv ops vs = if K (i + 1) = 2 ∧ W (i + 1) ≤ 3 then lfG K W 3 (6 * W (i + 1)) (i + 1 + 1) (lv + 1) ops vs else bad (i + 1) := by
  obtain ⟨h0, h1⟩ := h
  unfold stPa
  rw [if_neg h0, if_neg (by omega), if_neg (by omega), if_neg (by omega), if_neg (by omega), if_neg (by omega), if_pos (by omega)]
def P141 (K W S E : Nat → Int) (m : Nat) (i : Nat) (lv : Int) (ops : List Int) (vs : List Mng) (its : Int) (M1 : Mm) : Prop := (M1 97 18 ≠ 0 → ∃ j : Nat, stPa K W i lv ops vs = bad j ∧ M1 97 17 = S j) ∧ (M1 97 18 = 0 → lv < 50 ∧ (its ≠ -1 ∨ (K i = 2 ∧ W i ≤ 1000)) ∧ RFo K W S E m M1 (i + 1) (lv + 1) ops)
def P171 (K W S E : Nat → Int) (m : Nat) (i : Nat) (lv : Int) (ops : List Int) (vs : List Mng) (its : Int) (M1 : Mm) : Prop := (M1 97 18 ≠ 0 → ∃ j : Nat, stPa K W i lv ops vs = bad j ∧ M1 97 17 = S j) ∧ (M1 97 18 = 0 → lv < 50 ∧ (its ≠ -1 ∨ (K i = 2 ∧ W i ≤ 1000)) ∧ (its = 3 → (K (i + 1) = 2 ∧ W (i + 1) ≤ 3) ∧ RFo K W S E m M1 (i + 1 + 1) (lv + 1) ops) ∧ (its ≠ 3 → RFo K W S E m M1 (i + 1) (lv + 1) ops))
theorem P141.mk_ {is : Int} (hs : ITS K W i its) (h : LFQ K W S E m i lv ops is M1) (his : (is ≠ 0 ∧ (its ≠ -1 ∨ (K i = 2 ∧ W i ≤ 1000))) ∨ (is = 0 ∧ its = -1 ∧ ¬ (K i = 2 ∧ W i ≤ 1000))) : P141 K W S E m i lv ops vs its M1 := by
  refine ⟨fun z => ?_, fun z => ?_⟩
  · rcases h with h | h
    · exact absurd h.1 z
    · refine ⟨i, ?_, h.2.2⟩
      by_cases c : 50 ≤ lv
      · exact stPa_lv hs.1 c
      · exact stPa_no hs (by omega) (by omega)
  · rcases h with h | h
    · exact ⟨h.2.2.1, by omega, h.2.2.2⟩
    · exact absurd z h.1
theorem P171.skip (h : P141 K W S E m i lv ops vs its M1) (hc : its ≠ 3 ∨ M1 97 18 ≠ 0) : P171 K W S E m i lv ops vs its M1 :=
  ⟨h.1, fun z => ⟨(h.2 z).1, (h.2 z).2.1, fun y => by omega, fun _ => (h.2 z).2.2⟩⟩
theorem P171.num (hs : ITS K W i its) (h : P141 K W S E m i lv ops vs its M1) (h3 : its = 3) (hb : M1 97 18 = 0) (hz : TZM M1 K W S E m) (q : RNQ M1 M2 3 r) (e24 : M2 97 24 = M1 97 24) (e27 : M2 97 27 = M1 97 27) (e28 : M2 97 28 = M1 97 28) (e110 : M2 110 = M1 110) : P171 K W S E m i lv ops vs its M2 := by
  obtain ⟨a1, a2, a3⟩ := h.2 hb
  have rn := q.at_ hz a3.1 hb
  refine ⟨fun z => ?_, fun z => ?_⟩
  · rcases rn with y | y
    · exact absurd y.1 z
    · exact ⟨i + 1, by rw [stPa_t hs a1 h3, if_neg y.2.1], y.2.2⟩
  · rcases rn with y | y
    · exact ⟨a1, a2, fun _ => ⟨y.2.1, y.2.2.2, by have := a3.2.1; omega, by have := a3.2.2.1; omega, by rw [e110, e27]; exact a3.2.2.2⟩, fun x => absurd h3 x⟩
    · exact absurd z y.1
theorem P199.skip (hs : ITS K W i its) (h : P171 K W S E m i lv ops vs its M1) (hc : its = -1 ∨ its = 4 ∨ M1 97 18 ≠ 0) : RFs K W S E m M1 3 (stPa K W i lv ops vs) := by
  by_cases hb : M1 97 18 = 0
  · obtain ⟨a1, a2, a3, a4⟩ := h.2 hb
    rcases hc with c | c | c
    · exact RFs.ok hb (stPa_num hs a1 c (by omega)) (a4 (by omega))
    · exact RFs.ok hb (stPa_done hs a1 c) (a4 (by omega))
    · exact absurd hb c
  · obtain ⟨j, y1, y2⟩ := h.1 hb
    exact RFs.no hb y1 y2
theorem P199.num (hs : ITS K W i its) (h : P171 K W S E m i lv ops vs its M1) (h3 : its = 1 ∨ its = 2 ∨ its = 3) (hb : M1 97 18 = 0) (hz : TZM M1 K W S E m) (q : RNQ M1 M2 5 r) (e24 : M2 97 24 = M1 97 24) (e27 : M2 97 27 = M1 97 27) (e28 : M2 97 28 = M1 97 28) (e110 : M2 110 = M1 110) : RFs K W S E m M2 3 (stPa K W i lv ops vs) := by
  obtain ⟨a1, a2, a3, a4⟩ := h.2 hb
  by_cases c : its = 3
  · obtain ⟨b1, b2⟩ := a3 c
    have rn := q.at_ hz b2.1 hb
    rcases rn with y | y
    · refine RFs.ok (i := i + 1 + 1 + 1) (lv := lv + 1) (ops := ops) (vs := mLf 3 (6 * W (i + 1) + W (i + 1 + 1)) :: vs) y.1 ?_ ⟨y.2.2.2, by have := b2.2.1; omega, by have := b2.2.2.1; omega, by rw [e110, e27]; exact b2.2.2.2⟩
      rw [stPa_t hs a1 c, if_pos b1]
      exact if_pos y.2.1
    · refine RFs.no y.1 ?_ y.2.2
      rw [stPa_t hs a1 c, if_pos b1]
      exact if_neg y.2.1
  · have b2 := a4 c
    have rn := q.at_ hz b2.1 hb
    rcases rn with y | y
    · refine RFs.ok (i := i + 1 + 1) (lv := lv + 1) (ops := ops) (vs := mLf its (0 + W (i + 1)) :: vs) y.1 ?_ ⟨y.2.2.2, by have := b2.2.1; omega, by have := b2.2.2.1; omega, by rw [e110, e27]; exact b2.2.2.2⟩
      rw [stPa_g hs a1 (by omega)]
      exact if_pos y.2.1
    · refine RFs.no y.1 ?_ y.2.2
      rw [stPa_g hs a1 (by omega)]
      exact if_neg y.2.1
theorem stPa_br (h : isSg K W i 91) (q : OBQ K W S E m i lv ops 31 M1) : RFs K W S E m M1 1 (stPa K W i lv ops vs) := by
  rcases q with y | y
  · exact RFs.ok y.1 (by rw [stPa_ob h, if_pos y.2.1]) y.2.2
  · exact RFs.no y.1 (by rw [stPa_ob h, if_neg (by omega)]) y.2.2
/-! plain -/
theorem stPl_not (h : isWd K W i 14836) : stPl K W i lv ops vs = (0, i + 1, lv, 27 :: ops, vs) := if_pos h
theorem stPl_br (h1 : ¬ isWd K W i 14836) (h : isSg K W i 40) (q : OBQ K W S E m i lv ops 30 M1) : RFs K W S E m M1 0 (stPl K W i lv ops vs) := by
  rcases q with y | y
  · exact RFs.ok y.1 (by unfold stPl; rw [if_neg h1, if_pos h, if_pos y.2.1]) y.2.2
  · exact RFs.no y.1 (by unfold stPl; rw [if_neg h1, if_pos h, if_neg (by omega)]) y.2.2
theorem stPl_pa (h1 : ¬ isWd K W i 14836) (h2 : ¬ isSg K W i 40) : stPl K W i lv ops vs = stPa K W i lv ops vs := by
  unfold stPl
  rw [if_neg h1, if_neg h2]
/-! behind a sum -/
variable {t : Bool} {op l : Int}
theorem stSu_op (h : (op = 20 ∧ isSg K W i 43) ∨ (op = 21 ∧ isSg K W i 45) ∨ (op = 22 ∧ isSg K W i 42) ∨ (op = 23 ∧ isSg K W i 47)) (hl : l = bnd op) : stSu K W t i lv ops vs = psh 1 op l i lv ops vs := by
  subst hl
  rcases h with ⟨z, y⟩ | ⟨z, y⟩ | ⟨z, y⟩ | ⟨z, y⟩ <;> subst z
  · exact su_43 y t ops vs
  · exact su_45 y t ops vs
  · exact su_42 y t ops vs
  · exact su_47 y t ops vs
def NOP (K W : Nat → Int) (i : Nat) : Prop := ¬ isSg K W i 43 ∧ ¬ isSg K W i 45 ∧ ¬ isSg K W i 42 ∧ ¬ isSg K W i 47
theorem stSu_sq (h : NOP K W i) (h31 : inn ops = 31) : stSu K W t i lv ops vs = if K i = 3 ∧ W i = 93 then cls_ 3 5 i lv ops vs else bad i := by
  obtain ⟨a, b, c, d⟩ := h
  unfold stSu
  rw [if_neg a, if_neg b, if_neg c, if_neg d, if_pos h31]
theorem stSu_ov (h : NOP K W i) (h31 : inn ops = -1) (ht : t = false) : stSu K W t i lv ops vs = (4, i, lv, ops, vs) := by
  obtain ⟨a, b, c, d⟩ := h
  unfold stSu
  rw [if_neg a, if_neg b, if_neg c, if_neg d, if_neg (by omega), if_pos ⟨h31, ht⟩]
theorem stSu_cm (h : NOP K W i) (h31 : inn ops ≠ 31) (ht : ¬ (inn ops = -1 ∧ t = false)) (hc : cmpd ops = true) : stSu K W t i lv ops vs = (2, i, lv, ops, vs) := by
  obtain ⟨a, b, c, d⟩ := h
  unfold stSu
  rw [if_neg a, if_neg b, if_neg c, if_neg d, if_neg h31, if_neg ht, if_pos hc]
def SU4 (K W : Nat → Int) (t : Bool) (i : Nat) (lv : Int) (ops : List Int) (vs : List Mng) : Prop := stSu K W t i lv ops vs = if K i = 3 ∧ W i = 60 then psh 1 24 5 i lv ops vs else if K i = 3 ∧ W i = 62 then psh 1 25 5 i lv ops vs else if K i = 3 ∧ W i = 61 then psh 1 26 5 i lv ops vs else bad i
theorem SU4.mk_ (h : NOP K W i) (h31 : inn ops ≠ 31) (ht : ¬ (inn ops = -1 ∧ t = false)) (hc : cmpd ops = false) : SU4 K W t i lv ops vs := by
  obtain ⟨a, b, c, d⟩ := h
  unfold SU4 stSu
  rw [if_neg a, if_neg b, if_neg c, if_neg d, if_neg h31, if_neg ht, if_neg (by rw [hc]; decide)]
theorem SU4.yes (h : SU4 K W t i lv ops vs) (ho : (op = 24 ∧ isSg K W i 60) ∨ (op = 25 ∧ isSg K W i 62) ∨ (op = 26 ∧ isSg K W i 61)) : stSu K W t i lv ops vs = psh 1 op 5 i lv ops vs := by
  unfold SU4 at h
  rw [h]
  rcases ho with ⟨z, y⟩ | ⟨z, y⟩ | ⟨z, y⟩ <;> subst z
  · rw [if_pos y]
  · rw [if_neg (by omega), if_pos y]
  · rw [if_neg (by omega), if_neg (by omega), if_pos y]
theorem SU4.no (h : SU4 K W t i lv ops vs) (h1 : ¬ isSg K W i 60) (h2 : ¬ isSg K W i 62) (h3 : ¬ isSg K W i 61) : stSu K W t i lv ops vs = bad i := by
  unfold SU4 at h
  rw [h, if_neg h1, if_neg h2, if_neg h3]
/-- the pile is settled -/
theorem PIL.set {B : Mm} (h : PIL (M 110) (M 97 27).toNat ops) (hs : STP M B l) (e : B 110 = M 110) : PIL (B 110) (B 97 27).toNat (stl l ops vs).1 := by
  obtain ⟨a, b, c⟩ := hs
  rw [e]
  refine PIL.sl_ h (by omega) (fun j h1 h2 => b j (by omega) (by omega)) ?_
  rcases c with z | z
  · exact Or.inl (by omega)
  · refine Or.inr ?_
    rw [show (B 97 27).toNat - 1 = (B 97 27 - 1).toNat by omega]
    exact z
/-- settled, then pushed -/
theorem RFo.psh {B : Mm} (h : PIL (M 110) (M 97 27).toNat ops) (h28 : M 97 28 = opn ops) (hs : STP M B l) (e : B 110 = M 110) (hl : 1 ≤ l) (ho : op < 30) (e110 : M1 110 = ms (B 110) (B 97 27).toNat op) (e27 : M1 97 27 = B 97 27 + 1) (e28 : M1 97 28 = M 97 28) (h24 : M1 97 24 = lv) (ht : AT K W S E m M1 i) : RFo K W S E m M1 i lv (op :: (stl l ops vs).1) := by
  refine ⟨ht, h24, ?_, ?_⟩
  · rw [opn_c ho, stl_opn hl, e28, h28]
  · exact PIL.push (h.set hs e) e110 (by have := hs.1; omega)
/-- settled, then a bracket is taken off -/
theorem RFo.cls {B : Mm} (h : PIL (M 110) (M 97 27).toNat ops) (h28 : M 97 28 = opn ops) (hs : STP M B l) (e : B 110 = M 110) (hl : 1 ≤ l) (hb : 1 ≤ B 97 27 ∧ 30 ≤ M 110 (B 97 27 - 1).toNat) (e110 : M1 110 = B 110) (e27 : M1 97 27 = B 97 27 - 1) (e28 : M1 97 28 = M 97 28 - 1) (h24 : M1 97 24 = lv) (ht : AT K W S E m M1 i) : RFo K W S E m M1 i lv (stl l ops vs).1.tail := by
  have p := h.set (vs := vs) hs e
  rw [show (B 97 27).toNat = (B 97 27 - 1).toNat + 1 by omega] at p
  obtain ⟨p1, os, p2⟩ := p.tl
  have o := stl_opn hl ops vs
  rw [p2, opn_b (by rw [e]; exact hb.2)] at o
  refine ⟨ht, h24, ?_, by rw [e110, e27]; exact p1⟩
  rw [p2]
  show M1 97 28 = opn os
  omega
/-! behind a test -/
theorem stTe_and (h : isWd K W i 1476) : stTe K W i lv ops vs = psh 0 28 2 i lv ops vs := if_pos h
theorem stTe_or (h : isWd K W i 498) : stTe K W i lv ops vs = psh 0 29 1 i lv ops vs := by
  unfold stTe
  rw [if_neg (by omega), if_pos h]
theorem stTe_ov (h1 : ¬ isWd K W i 1476) (h2 : ¬ isWd K W i 498) (h : inn ops = -1) : stTe K W i lv ops vs = (4, i, lv, ops, vs) := by
  unfold stTe
  rw [if_neg h1, if_neg h2, if_pos h]
theorem stTe_cl (h1 : ¬ isWd K W i 1476) (h2 : ¬ isWd K W i 498) (h : inn ops ≠ -1) : stTe K W i lv ops vs = if K i = 3 ∧ W i = 41 then cls_ 2 1 i lv ops vs else bad i := by
  unfold stTe
  rw [if_neg h1, if_neg h2, if_neg h]
theorem PIL.inq (h : PIL (M 110) (M 97 27).toNat ops) (h0 : 0 ≤ M 97 27) (hi : INN M r) : inn ops = r := by
  refine PIL.in_ h ?_
  unfold INN INNp at hi
  rw [show ((M 97 27).toNat : Int) = M 97 27 by omega]
  exact hi
/-! a whole expression -/
def EXQ (K W S E : Nat → Int) (m : Nat) (t : Bool) (i : Nat) (lv : Int) (M : Mm) : Prop := (M 97 18 = 0 → ∃ (j : Nat) (l1 : Int), AT K W S E m M j ∧ M 97 24 = l1 ∧ STq (exF K W t i lv) 1 j l1) ∧ (M 97 18 ≠ 0 → ∃ j : Nat, M 97 17 = S j ∧ STq (exF K W t i lv) 0 j 0)
theorem EXQ.eq (h : EXQ K W S E m t i lv M) (e3 : M1 97 13 = M 97 13) (e4 : M1 97 14 = M 97 14) (e5 : M1 97 15 = M 97 15) (e6 : M1 97 16 = M 97 16) (e7 : M1 97 17 = M 97 17) (e8 : M1 97 18 = M 97 18) (e24 : M1 97 24 = M 97 24) : EXQ K W S E m t i lv M1 := by
  refine ⟨fun z => ?_, fun z => ?_⟩
  · obtain ⟨j, l1, a, b, c⟩ := h.1 (by omega)
    exact ⟨j, l1, a.eq e3 e4 e5 e6 e7, by omega, c⟩
  · obtain ⟨j, a, c⟩ := h.2 (by omega)
    exact ⟨j, by omega, c⟩
theorem stp0 (h : s.1 = 0) : stp K W t s = stPl K W s.2.1 s.2.2.1 s.2.2.2.1 s.2.2.2.2 := if_pos h
theorem stp1 (h : s.1 = 1) : stp K W t s = stPa K W s.2.1 s.2.2.1 s.2.2.2.1 s.2.2.2.2 := by
  unfold stp
  rw [if_neg (by omega), if_pos h]
theorem stp2 (h : s.1 = 2) : stp K W t s = stTe K W s.2.1 s.2.2.1 s.2.2.2.1 s.2.2.2.2 := by
  unfold stp
  rw [if_neg (by omega), if_neg (by omega), if_pos h]
theorem stp3 (h : s.1 = 3) : stp K W t s = stSu K W t s.2.1 s.2.2.1 s.2.2.2.1 s.2.2.2.2 := by
  unfold stp
  rw [if_neg (by omega), if_neg (by omega), if_neg (by omega), if_pos h]
theorem opn_nn : ∀ ops : List Int, 0 ≤ opn ops
  | [] => Int.le_refl 0
  | o :: os => by
    have ih := opn_nn os
    show 0 ≤ opn os + (if 30 ≤ o then 1 else 0)
    split <;> omega
theorem RFs.o (h : RFs K W S E m M r s) (hb : M 97 18 = 0) : RFo K W S E m M s.2.1 s.2.2.1 s.2.2.2.1 := (h.resolve_right (fun z => z.1 hb)).2.2
theorem RFs.t_ (h : RFs K W S E m M r s) (hb : M 97 18 = 0) {r' : Int} (e : r = r') : s.1 = r' := ((h.resolve_right (fun z => z.1 hb)).2.1).trans e
theorem RFs.end_ (h : RCH K W t ((if t = true then 0 else 1), i, lv, [], []) s) (q : RFs K W S E m M r s) (hr : M 97 18 = 0 → r = 4) : EXQ K W S E m t i lv M := by
  rcases q with ⟨a, b, c⟩ | ⟨a, j, b, c⟩
  · refine ⟨fun _ => ⟨s.2.1, s.2.2.1, c.1, c.2.1, ?_⟩, fun z => absurd a z⟩
    have b4 : s.1 = 4 := b.trans (hr a)
    have fx : stp K W t s = s := by
      unfold stp
      rw [if_neg (by omega), if_neg (by omega), if_neg (by omega), if_neg (by omega)]
    rw [exF_at ⟨h, fx⟩, if_pos b4]
    exact STq.y
  · refine ⟨fun z => absurd z a, fun _ => ⟨j, c, ?_⟩⟩
    subst b
    rw [exF_at ⟨h, rfl⟩]
    exact STq.n
end RFx
