/-! the evening's machine: what both readers do, token by token -/
abbrev Mng : Type := (Int → Int → Int) → Option Int
abbrev RSt : Type := Int × Nat × Int × List Int × List Mng
def okV (v : Int) : Option Int := if -1000000000 ≤ v ∧ v ≤ 1000000000 then some v else none
def opV (o a b : Int) : Option Int :=
  if o = 20 then okV (a + b) else if o = 21 then okV (a - b) else if o = 22 then okV (a * b)
  else if o = 23 then (if b = 0 then none else okV (a.tdiv b))
  else if o = 24 then some (if a < b then 1 else 0) else if o = 25 then some (if b < a then 1 else 0) else some (if a = b then 1 else 0)
def mBin (o : Int) (f g : Mng) : Mng := fun e => match f e with
  | none => none
  | some a => match g e with
    | none => none
    | some b => opV o a b
def mNot (f : Mng) : Mng := fun e => match f e with
  | none => none
  | some a => some (1 - a)
def mAO (o : Int) (f g : Mng) : Mng := fun e => match f e with
  | none => none
  | some a => if (o = 28 ∧ a = 0) ∨ (o ≠ 28 ∧ a ≠ 0) then some a else g e
def mLf (op arg : Int) : Mng := fun e => if op = 0 then some arg else some (e op arg)
def apO (o : Int) (vs : List Mng) : List Mng :=
  if o = 27 then (match vs with
    | f :: r => mNot f :: r
    | [] => [])
  else match vs with
    | g :: f :: r => (if o = 28 ∨ o = 29 then mAO o f g else mBin o f g) :: r
    | r => r
def stl (l : Int) : List Int → List Mng → List Int × List Mng
  | [], vs => ([], vs)
  | o :: os, vs => if l ≤ bnd o then stl l os (apO o vs) else (o :: os, vs)
/-- the innermost bracket; is a comparison begun; how many brackets are open -/
def inn : List Int → Int
  | [] => -1
  | o :: os => if 30 ≤ o then o else inn os
def cmpd : List Int → Bool
  | [] => false
  | o :: os => if o ≤ 23 then cmpd os else decide (o ≤ 26)
def opn : List Int → Int
  | [] => 0
  | o :: os => opn os + if 30 ≤ o then 1 else 0
def tlo (l : Int) : List Int → Prop
  | [] => True
  | o :: _ => bnd o < l
def bad (i : Nat) : RSt := (9, i, 0, [], [])
def lfG (K W : Nat → Int) (op base : Int) (i : Nat) (lv : Int) (ops : List Int) (vs : List Mng) : RSt :=
  if K i = 2 ∧ W i ≤ 5 then (3, i + 1, lv, ops, mLf op (base + W i) :: vs) else bad i
def stPa (K W : Nat → Int) (i : Nat) (lv : Int) (ops : List Int) (vs : List Mng) : RSt :=
  if K i = 3 ∧ W i = 91 then (if opn ops < 8 then (1, i + 1, lv, 31 :: ops, vs) else bad i)
  else if 50 ≤ lv then bad i
  else if K i = 2 then (if W i ≤ 1000 then (3, i + 1, lv + 1, ops, mLf 0 (W i) :: vs) else bad i)
  else if K i = 1 ∧ W i = 146885 then (3, i + 1, lv + 1, ops, mLf 4 0 :: vs)
  else if K i = 1 ∧ W i = 218508 then lfG K W 1 0 (i + 1) (lv + 1) ops vs
  else if K i = 1 ∧ W i = 632645 then lfG K W 2 0 (i + 1) (lv + 1) ops vs
  else if K i = 1 ∧ W i = 21024389 then (if K (i + 1) = 2 ∧ W (i + 1) ≤ 3 then lfG K W 3 (6 * W (i + 1)) (i + 1 + 1) (lv + 1) ops vs else bad (i + 1))
  else bad i
def stPl (K W : Nat → Int) (i : Nat) (lv : Int) (ops : List Int) (vs : List Mng) : RSt :=
  if K i = 1 ∧ W i = 14836 then (0, i + 1, lv, 27 :: ops, vs)
  else if K i = 3 ∧ W i = 40 then (if opn ops < 8 then (0, i + 1, lv, 30 :: ops, vs) else bad i)
  else stPa K W i lv ops vs
def psh (t o l : Int) (i : Nat) (lv : Int) (ops : List Int) (vs : List Mng) : RSt := (t, i + 1, lv, o :: (stl l ops vs).1, (stl l ops vs).2)
def cls_ (t l : Int) (i : Nat) (lv : Int) (ops : List Int) (vs : List Mng) : RSt := (t, i + 1, lv, (stl l ops vs).1.tail, (stl l ops vs).2)
def stSu (K W : Nat → Int) (t : Bool) (i : Nat) (lv : Int) (ops : List Int) (vs : List Mng) : RSt :=
  if K i = 3 ∧ W i = 43 then psh 1 20 5 i lv ops vs
  else if K i = 3 ∧ W i = 45 then psh 1 21 5 i lv ops vs
  else if K i = 3 ∧ W i = 42 then psh 1 22 6 i lv ops vs
  else if K i = 3 ∧ W i = 47 then psh 1 23 6 i lv ops vs
  else if inn ops = 31 then (if K i = 3 ∧ W i = 93 then cls_ 3 5 i lv ops vs else bad i)
  else if inn ops = -1 ∧ t = false then (4, i, lv, ops, vs)
  else if cmpd ops = true then (2, i, lv, ops, vs)
  else if K i = 3 ∧ W i = 60 then psh 1 24 5 i lv ops vs
  else if K i = 3 ∧ W i = 62 then psh 1 25 5 i lv ops vs
  else if K i = 3 ∧ W i = 61 then psh 1 26 5 i lv ops vs
  else bad i
def stTe (K W : Nat → Int) (i : Nat) (lv : Int) (ops : List Int) (vs : List Mng) : RSt :=
  if K i = 1 ∧ W i = 1476 then psh 0 28 2 i lv ops vs
  else if K i = 1 ∧ W i = 498 then psh 0 29 1 i lv ops vs
  else if inn ops = -1 then (4, i, lv, ops, vs)
  else if K i = 3 ∧ W i = 41 then cls_ 2 1 i lv ops vs
  else bad i
def stp (K W : Nat → Int) (t : Bool) (s : RSt) : RSt :=
  if s.1 = 0 then stPl K W s.2.1 s.2.2.1 s.2.2.2.1 s.2.2.2.2
  else if s.1 = 1 then stPa K W s.2.1 s.2.2.1 s.2.2.2.1 s.2.2.2.2
  else if s.1 = 2 then stTe K W s.2.1 s.2.2.1 s.2.2.2.1 s.2.2.2.2
  else if s.1 = 3 then stSu K W t s.2.1 s.2.2.1 s.2.2.2.1 s.2.2.2.2
  else s
theorem stp_0 (K W : Nat → Int) (t : Bool) (i : Nat) (lv : Int) (ops : List Int) (vs : List Mng) : stp K W t (0, i, lv, ops, vs) = stPl K W i lv ops vs := rfl
theorem stp_1 (K W : Nat → Int) (t : Bool) (i : Nat) (lv : Int) (ops : List Int) (vs : List Mng) : stp K W t (1, i, lv, ops, vs) = stPa K W i lv ops vs := rfl
theorem stp_2 (K W : Nat → Int) (t : Bool) (i : Nat) (lv : Int) (ops : List Int) (vs : List Mng) : stp K W t (2, i, lv, ops, vs) = stTe K W i lv ops vs := rfl
theorem stp_3 (K W : Nat → Int) (t : Bool) (i : Nat) (lv : Int) (ops : List Int) (vs : List Mng) : stp K W t (3, i, lv, ops, vs) = stSu K W t i lv ops vs := rfl
def itS (K W : Nat → Int) (t : Bool) : Nat → RSt → RSt
  | 0, s => s
  | n + 1, s => itS K W t n (stp K W t s)
def RCH (K W : Nat → Int) (t : Bool) (a b : RSt) : Prop := ∃ n : Nat, itS K W t n a = b
theorem RCH.rf {K W : Nat → Int} {t : Bool} {a : RSt} : RCH K W t a a := ⟨0, rfl⟩
theorem itS_add (K W : Nat → Int) (t : Bool) : ∀ (n m : Nat) (a : RSt), itS K W t (n + m) a = itS K W t m (itS K W t n a)
  | 0, m, a => by rw [Nat.zero_add]; rfl
  | n + 1, m, a => by
    rw [show n + 1 + m = n + m + 1 by omega]
    exact itS_add K W t n m (stp K W t a)
theorem RCH.tr {K W : Nat → Int} {t : Bool} {a b c : RSt} (h : RCH K W t a b) (g : RCH K W t b c) : RCH K W t a c := by
  obtain ⟨n, rfl⟩ := h
  obtain ⟨m, rfl⟩ := g
  exact ⟨n + m, itS_add K W t n m a⟩
theorem RCH.on {K W : Nat → Int} {t : Bool} {a b : RSt} (h : stp K W t a = b) : RCH K W t a b := ⟨1, h⟩
theorem RCH.go {K W : Nat → Int} {t : Bool} {a b c : RSt} (h : stp K W t a = b) (g : RCH K W t b c) : RCH K W t a c := RCH.tr (RCH.on h) g
theorem itS_fix {K W : Nat → Int} {t : Bool} {a : RSt} (h : stp K W t a = a) : ∀ n : Nat, itS K W t n a = a
  | 0 => rfl
  | n + 1 => by
    show itS K W t n (stp K W t a) = a
    rw [h]
    exact itS_fix h n
theorem RCH.det {K W : Nat → Int} {t : Bool} {s a b : RSt} (ha : stp K W t a = a) (hb : stp K W t b = b) (h : RCH K W t s a) (g : RCH K W t s b) : a = b := by
  obtain ⟨n, hn⟩ := h
  obtain ⟨m, hm⟩ := g
  have e1 := itS_add K W t n m s
  rw [hn, itS_fix ha] at e1
  have e2 := itS_add K W t m n s
  rw [hm, itS_fix hb] at e2
  rw [Nat.add_comm] at e2
  exact e1.symm.trans e2
theorem stl_id {l : Int} {ops : List Int} {vs : List Mng} (h : tlo l ops) : stl l ops vs = (ops, vs) := by
  cases ops with
  | nil => rfl
  | cons o os =>
    have h' : bnd o < l := h
    show (if l ≤ bnd o then _ else _) = _
    rw [if_neg (by omega)]
theorem stl_tlo {l : Int} : ∀ (ops : List Int) (vs : List Mng), tlo l (stl l ops vs).1
  | [], _ => trivial
  | o :: os, vs => by
    unfold stl
    split
    · exact stl_tlo os (apO o vs)
    · rename_i h
      show bnd o < l
      omega
theorem stl_stl {a b : Int} (h : a ≤ b) : ∀ (ops : List Int) (vs : List Mng), stl a (stl b ops vs).1 (stl b ops vs).2 = stl a ops vs
  | [], _ => rfl
  | o :: os, vs => by
    by_cases c : b ≤ bnd o
    · rw [show stl b (o :: os) vs = stl b os (apO o vs) from if_pos c, show stl a (o :: os) vs = stl a os (apO o vs) from if_pos (by omega)]
      exact stl_stl h os (apO o vs)
    · rw [show stl b (o :: os) vs = (o :: os, vs) from if_neg c]
theorem stl_re {a b : Int} {os ops : List Int} {us vs : List Mng} (h : a ≤ b) (e : stl b os us = (ops, vs)) : stl a os us = stl a ops vs := by
  have k := stl_stl h os us
  rw [e] at k
  exact k.symm
theorem bnd_b {x : Int} : bnd x ≤ 6 ∧ 0 ≤ bnd x := by
  unfold bnd
  split
  · omega
  · split
    · omega
    · split
      · omega
      · split
        · omega
        · split
          · omega
          · split <;> omega
theorem tlo7 (ops : List Int) : tlo 7 ops := by
  cases ops with
  | nil => trivial
  | cons o os =>
    have := (bnd_b (x := o)).1
    show bnd o < 7
    omega
theorem stl_inn {l : Int} (hl : 1 ≤ l) : ∀ (ops : List Int) (vs : List Mng), inn (stl l ops vs).1 = inn ops
  | [], _ => rfl
  | o :: os, vs => by
    by_cases c : l ≤ bnd o
    · have h30 := bnd_lo c hl
      rw [show stl l (o :: os) vs = stl l os (apO o vs) from if_pos c, show inn (o :: os) = inn os from if_neg (by omega)]
      exact stl_inn hl os (apO o vs)
    · rw [show stl l (o :: os) vs = (o :: os, vs) from if_neg c]
theorem stl_opn {l : Int} (hl : 1 ≤ l) : ∀ (ops : List Int) (vs : List Mng), opn (stl l ops vs).1 = opn ops
  | [], _ => rfl
  | o :: os, vs => by
    by_cases c : l ≤ bnd o
    · have h30 := bnd_lo c hl
      rw [show stl l (o :: os) vs = stl l os (apO o vs) from if_pos c, show opn (o :: os) = opn os + (if 30 ≤ o then 1 else 0) from rfl, if_neg (by omega), Int.add_zero]
      exact stl_opn hl os (apO o vs)
    · rw [show stl l (o :: os) vs = (o :: os, vs) from if_neg c]
theorem bnd_5 {x : Int} : 5 ≤ bnd x ↔ x ≤ 23 := by
  unfold bnd
  split
  · omega
  · split
    · omega
    · split
      · omega
      · split
        · omega
        · split
          · omega
          · split <;> omega
theorem stl_cmpd : ∀ (ops : List Int) (vs : List Mng), cmpd (stl 5 ops vs).1 = cmpd ops
  | [], _ => rfl
  | o :: os, vs => by
    by_cases c : (5 : Int) ≤ bnd o
    · rw [show stl 5 (o :: os) vs = stl 5 os (apO o vs) from if_pos c, show cmpd (o :: os) = cmpd os from if_pos (bnd_5.mp c)]
      exact stl_cmpd os (apO o vs)
    · rw [show stl 5 (o :: os) vs = (o :: os, vs) from if_neg c]
abbrev isSg (K W : Nat → Int) (i : Nat) (c : Int) : Prop := K i = 3 ∧ W i = c
abbrev isWd (K W : Nat → Int) (i : Nat) (c : Int) : Prop := K i = 1 ∧ W i = c
/-- what can't stand behind -/
def NS (K W : Nat → Int) (l : Int) (i : Nat) : Prop := (l ≤ 6 → ¬ isSg K W i 42 ∧ ¬ isSg K W i 47) ∧ (l ≤ 5 → ¬ isSg K W i 43 ∧ ¬ isSg K W i 45)
def NT (K W : Nat → Int) (l : Int) (i : Nat) : Prop := (l ≤ 2 → ¬ isWd K W i 1476) ∧ (l ≤ 1 → ¬ isWd K W i 498)
/-- what the readers of sums (turn 1 to 3) and of tests (turn 0 to 2) promise -/
def RSm (K W : Nat → Int) (l b : Int) (i : Nat) (lv : Int) (i' : Nat) (lv' : Int) : Prop :=
  i < i' ∧ ∃ f : Mng, ∀ (t : Bool) (ops : List Int) (vs : List Mng), opn ops = b → tlo l ops → ∃ (os : List Int) (us : List Mng), RCH K W t (1, i, lv, ops, vs) (3, i', lv', os, us) ∧ stl l os us = (ops, f :: vs)
def RSo (K W : Nat → Int) (l b o : Int) (i : Nat) (lv : Int) (i' : Nat) (lv' : Int) : Prop :=
  i < i' ∧ ∃ f : Mng, ∀ (t : Bool) (ops : List Int) (vs : List Mng), opn ops = b → tlo l ops → RCH K W t (1, i, lv, ops, vs) (1, i', lv', o :: ops, f :: vs)
def RSb (K W : Nat → Int) (l b : Int) (i : Nat) (lv : Int) (i' : Nat) : Prop :=
  ∀ (t : Bool) (ops : List Int) (vs : List Mng), opn ops = b → tlo l ops → RCH K W t (1, i, lv, ops, vs) (bad i')
def RS (K W : Nat → Int) (l b : Int) (i : Nat) (lv r : Int) (i' : Nat) (lv' : Int) : Prop := (r = 1 → NS K W l i' ∧ RSm K W l b i lv i' lv') ∧ (r = 0 → RSb K W l b i lv i')
def RTm (K W : Nat → Int) (l b : Int) (i : Nat) (lv : Int) (i' : Nat) (lv' : Int) : Prop :=
  i < i' ∧ ∃ f : Mng, ∀ (ops : List Int) (vs : List Mng), opn ops = b → tlo l ops → inn ops ≠ 31 → ∃ (os : List Int) (us : List Mng), RCH K W true (0, i, lv, ops, vs) (2, i', lv', os, us) ∧ stl l os us = (ops, f :: vs)
def RTo (K W : Nat → Int) (l b o : Int) (i : Nat) (lv : Int) (i' : Nat) (lv' : Int) : Prop :=
  i < i' ∧ ∃ f : Mng, ∀ (ops : List Int) (vs : List Mng), opn ops = b → tlo l ops → inn ops ≠ 31 → RCH K W true (0, i, lv, ops, vs) (0, i', lv', o :: ops, f :: vs)
def RTb (K W : Nat → Int) (l b : Int) (i : Nat) (lv : Int) (i' : Nat) : Prop :=
  ∀ (ops : List Int) (vs : List Mng), opn ops = b → tlo l ops → inn ops ≠ 31 → RCH K W true (0, i, lv, ops, vs) (bad i')
def RT (K W : Nat → Int) (l b : Int) (i : Nat) (lv r : Int) (i' : Nat) (lv' : Int) : Prop := (r = 1 → NT K W l i' ∧ RTm K W l b i lv i' lv') ∧ (r = 0 → RTb K W l b i lv i')
theorem tlo.up {a b : Int} {ops : List Int} (h : tlo a ops) (hab : a ≤ b) : tlo b ops := by
  cases ops with
  | nil => trivial
  | cons o os =>
    have h' : bnd o < a := h
    show bnd o < b
    omega
theorem opn_c {o : Int} {ops : List Int} (h : o < 30) : opn (o :: ops) = opn ops := by
  show opn ops + (if 30 ≤ o then 1 else 0) = opn ops
  rw [if_neg (by omega), Int.add_zero]
theorem opn_b {o : Int} {ops : List Int} (h : 30 ≤ o) : opn (o :: ops) = opn ops + 1 := by
  show opn ops + (if 30 ≤ o then 1 else 0) = opn ops + 1
  rw [if_pos h]
theorem inn_c {o : Int} {ops : List Int} (h : o < 30) : inn (o :: ops) = inn ops := if_neg (by omega)
theorem inn_b {o : Int} {ops : List Int} (h : 30 ≤ o) : inn (o :: ops) = o := if_pos h
theorem tlo_c {l o : Int} {ops : List Int} (h : bnd o < l) : tlo l (o :: ops) := h
/-! steps of a part -/
section PAs
variable {K W : Nat → Int} {b : Int} {i : Nat} {lv : Int}
theorem RS.y {l : Int} {i' : Nat} {lv' : Int} (h : NS K W l i' ∧ RSm K W l b i lv i' lv') : RS K W l b i lv 1 i' lv' := ⟨fun _ => h, fun z => by omega⟩
theorem RS.n {l : Int} {i' : Nat} {lv' : Int} (h : RSb K W l b i lv i') : RS K W l b i lv 0 i' lv' := ⟨fun z => by omega, fun _ => h⟩
theorem NS7 (K W : Nat → Int) (i : Nat) : NS K W 7 i := ⟨fun z => by omega, fun z => by omega⟩
theorem pa_bad {i' : Nat} {lv' : Int} (h : ∀ (ops : List Int) (vs : List Mng), opn ops = b → stPa K W i lv ops vs = bad i') : RS K W 7 b i lv 0 i' lv' :=
  RS.n (fun t ops vs ho _ => RCH.on (h ops vs ho))
theorem pa_8 {lv' : Int} (h : isSg K W i 91) (h8 : 8 ≤ b) : RS K W 7 b i lv 0 i lv' := pa_bad (fun ops vs ho => by
  unfold stPa
  rw [if_pos h, if_neg (by omega)])
theorem pa_open {t : Bool} {ops : List Int} {vs : List Mng} (h : isSg K W i 91) (ho : opn ops = b) (h8 : b < 8) : RCH K W t (1, i, lv, ops, vs) (1, i + 1, lv, 31 :: ops, vs) := by
  refine RCH.on ?_
  rw [stp_1]
  unfold stPa
  rw [if_pos h, if_pos (by omega)]
theorem pa_in0 {i' : Nat} {lv' lv2 : Int} (h : isSg K W i 91) (h8 : b < 8) (g : RS K W 5 (b + 1) (i + 1) lv 0 i' lv') : RS K W 7 b i lv 0 i' lv2 :=
  RS.n (fun t ops vs ho _ => RCH.tr (pa_open h ho h8) (g.2 rfl t (31 :: ops) vs (by rw [opn_b (by omega), ho]) (by show bnd 31 < 5; decide)))
theorem su_sq {t : Bool} {i' : Nat} {lv' : Int} {os ops : List Int} {us vs : List Mng} {f : Mng} (hn : NS K W 5 i') (e : stl 5 os us = (31 :: ops, f :: vs)) : (isSg K W i' 93 → stp K W t (3, i', lv', os, us) = (3, i' + 1, lv', ops, f :: vs)) ∧ (¬ isSg K W i' 93 → stp K W t (3, i', lv', os, us) = bad i') := by
  have hi : inn os = 31 := by
    have := stl_inn (l := 5) (by omega) os us
    rw [e] at this
    rw [← this]
    exact inn_b (by omega)
  have h1 := hn.1 (by omega)
  have h2 := hn.2 (by omega)
  rw [stp_3]
  unfold stSu
  rw [if_neg h2.1, if_neg h2.2, if_neg h1.1, if_neg h1.2, if_pos hi]
  refine ⟨fun z => ?_, fun z => ?_⟩
  · rw [if_pos z]
    unfold cls_
    rw [e]
    rfl
  · rw [if_neg z]
theorem pa_in1 {i' : Nat} {lv' lv2 : Int} (h : isSg K W i 91) (h8 : b < 8) (g : RS K W 5 (b + 1) (i + 1) lv 1 i' lv') (hz : ¬ isSg K W i' 93) : RS K W 7 b i lv 0 i' lv2 :=
  RS.n (fun t ops vs ho _ => by
    obtain ⟨hn, -, f, k⟩ := g.1 rfl
    obtain ⟨os, us, k1, k2⟩ := k t (31 :: ops) vs (by rw [opn_b (by omega), ho]) (by show bnd 31 < 5; decide)
    exact RCH.tr (pa_open h ho h8) (RCH.tr k1 (RCH.on ((su_sq hn k2).2 hz))))
theorem pa_50 {lv' : Int} (h : ¬ isSg K W i 91) (h5 : 50 ≤ lv) : RS K W 7 b i lv 0 i lv' := pa_bad (fun ops vs ho => by
  unfold stPa
  rw [if_neg h, if_pos h5])
theorem pa_full0 {lv' : Int} (h : isWd K W i 218508) (h5 : lv < 50) (hk : ¬ (K (i + 1) = 2 ∧ W (i + 1) ≤ 5)) : RS K W 7 b i lv 0 (i + 1) lv' := pa_bad (fun ops vs _ => by
  have := h.1
  have := h.2
  unfold stPa
  rw [if_neg (by omega), if_neg (by omega), if_neg (by omega), if_neg (by omega), if_pos h]
  unfold lfG
  rw [if_neg hk])
theorem pa_size0 {lv' : Int} (h : isWd K W i 632645) (h5 : lv < 50) (hk : ¬ (K (i + 1) = 2 ∧ W (i + 1) ≤ 5)) : RS K W 7 b i lv 0 (i + 1) lv' := pa_bad (fun ops vs _ => by
  have := h.1
  have := h.2
  unfold stPa
  rw [if_neg (by omega), if_neg (by omega), if_neg (by omega), if_neg (by omega), if_neg (by omega), if_pos h]
  unfold lfG
  rw [if_neg hk])
theorem pa_taste0 {lv' : Int} (h : isWd K W i 21024389) (h5 : lv < 50) (hk : K (i + 1) = 2 ∧ W (i + 1) ≤ 3) (hg : ¬ (K (i + 1 + 1) = 2 ∧ W (i + 1 + 1) ≤ 5)) : RS K W 7 b i lv 0 (i + 1 + 1) lv' := pa_bad (fun ops vs _ => by
  have := h.1
  have := h.2
  unfold stPa
  rw [if_neg (by omega), if_neg (by omega), if_neg (by omega), if_neg (by omega), if_neg (by omega), if_neg (by omega), if_pos h, if_pos hk]
  unfold lfG
  rw [if_neg hg])
theorem pa_tasteX {lv' : Int} (h : isWd K W i 21024389) (h5 : lv < 50) (hk : ¬ (K (i + 1) = 2 ∧ W (i + 1) ≤ 3)) : RS K W 7 b i lv 0 (i + 1) lv' := pa_bad (fun ops vs _ => by
  have := h.1
  have := h.2
  unfold stPa
  rw [if_neg (by omega), if_neg (by omega), if_neg (by omega), if_neg (by omega), if_neg (by omega), if_neg (by omega), if_pos h, if_neg hk])
theorem pa_no {lv' : Int} (h0 : ¬ isSg K W i 91) (h1 : ¬ (K i = 2 ∧ W i ≤ 1000)) (h2 : ¬ isWd K W i 146885) (h3 : ¬ isWd K W i 218508) (h4 : ¬ isWd K W i 632645) (h5 : ¬ isWd K W i 21024389) : RS K W 7 b i lv 0 i lv' := pa_bad (fun ops vs _ => by
  unfold stPa
  rw [if_neg h0]
  split
  · rfl
  · split
    · rw [if_neg (by omega)]
    · first | rfl | rw [if_neg h2, if_neg h3, if_neg h4, if_neg h5])
end PAs
/-! terms, sums -/
section SUs
variable {K W : Nat → Int} {l b o : Int} {i i' i2 : Nat} {lv lv' lv2 : Int}
theorem RSm.up (h : RSm K W (l + 1) b i lv i' lv') : RSm K W l b i lv i' lv' := by
  obtain ⟨h1, f, h2⟩ := h
  refine ⟨h1, f, fun t ops vs ho hl => ?_⟩
  obtain ⟨os, us, k1, k2⟩ := h2 t ops vs ho (hl.up (by omega))
  refine ⟨os, us, k1, ?_⟩
  rw [stl_re (a := l) (b := l + 1) (by omega) k2]
  exact stl_id hl
theorem RSb.up (h : RSb K W (l + 1) b i lv i') : RSb K W l b i lv i' := fun t ops vs ho hl => h t ops vs ho (hl.up (by omega))
theorem RSo.no (h : RSo K W l b o i lv i' lv') (ho : bnd o = l) (h30 : o < 30) (g : RSb K W (l + 1) b i' lv' i2) : RSb K W l b i lv i2 := by
  obtain ⟨h1, f, h2⟩ := h
  intro t ops vs hb hl
  exact RCH.tr (h2 t ops vs hb hl) (g t (o :: ops) (f :: vs) (by rw [opn_c h30, hb]) (tlo_c (by omega)))
theorem RSo.nx (h : RSo K W l b o i lv i' lv') (ho : bnd o = l) (h30 : o < 27) (g : RSm K W (l + 1) b i' lv' i2 lv2) : RSm K W l b i lv i2 lv2 := by
  obtain ⟨h1, f, h2⟩ := h
  obtain ⟨g1, k, g2⟩ := g
  obtain ⟨x, hx⟩ : ∃ x : Mng, ∀ vs : List Mng, apO o (k :: f :: vs) = x :: vs := ⟨_, fun vs => by unfold apO; rw [if_neg (by omega)]⟩
  refine ⟨by omega, x, fun t ops vs hb hl => ?_⟩
  obtain ⟨os, us, k1, k2⟩ := g2 t (o :: ops) (f :: vs) (by rw [opn_c (by omega), hb]) (tlo_c (by omega))
  refine ⟨os, us, RCH.tr (h2 t ops vs hb hl) k1, ?_⟩
  rw [stl_re (a := l) (b := l + 1) (by omega) k2, show stl l (o :: ops) (k :: f :: vs) = stl l ops (apO o (k :: f :: vs)) from if_pos (by omega), hx]
  exact stl_id hl
theorem RSm.op (h : RSm K W l b i lv i' lv') (hs : ∀ (t : Bool) (os : List Int) (us : List Mng), stSu K W t i' lv' os us = psh 1 o l i' lv' os us) : RSo K W l b o i lv (i' + 1) lv' := by
  obtain ⟨h1, f, h2⟩ := h
  refine ⟨by omega, f, fun t ops vs hb hl => ?_⟩
  obtain ⟨os, us, k1, k2⟩ := h2 t ops vs hb hl
  refine RCH.tr k1 (RCH.on ?_)
  rw [stp_3, hs]
  unfold psh
  rw [k2]
theorem su_43 (h : isSg K W i' 43) (t : Bool) (os : List Int) (us : List Mng) : stSu K W t i' lv' os us = psh 1 20 5 i' lv' os us := if_pos h
theorem su_45 (h : isSg K W i' 45) (t : Bool) (os : List Int) (us : List Mng) : stSu K W t i' lv' os us = psh 1 21 5 i' lv' os us := by
  have := h.2
  unfold stSu
  rw [if_neg (by omega), if_pos h]
theorem su_42 (h : isSg K W i' 42) (t : Bool) (os : List Int) (us : List Mng) : stSu K W t i' lv' os us = psh 1 22 6 i' lv' os us := by
  have := h.2
  unfold stSu
  rw [if_neg (by omega), if_neg (by omega), if_pos h]
theorem su_47 (h : isSg K W i' 47) (t : Bool) (os : List Int) (us : List Mng) : stSu K W t i' lv' os us = psh 1 23 6 i' lv' os us := by
  have := h.2
  unfold stSu
  rw [if_neg (by omega), if_neg (by omega), if_neg (by omega), if_pos h]
end SUs
