/-! the reference's code: what is written of the values that lie there -/
def RL1q (M M1 : Mm) (its w : Int) : Prop := M1 97 18 = 0 → LO M M1 (M 97 21) ∧ M1 111 = M 111 ∧ (its = -1 → M1 109 (M 97 21).toNat = w)
def HSVq (b its sf w : Int) : Prop := b = 0 → (its = 3 → sf = w) ∧ (its ≠ 3 → sf = 0)
def HGVq (b its gl w1 w2 : Int) : Prop := b = 0 → (its = 3 → gl = w2) ∧ ((its = 1 ∨ its = 2) → gl = w1) ∧ (its = 4 → gl = 0)
def NTo (os : List Int) : Prop := match os with
  | [] => True
  | o :: _ => 27 ≤ o
def T1h (vs : List Mng) : Prop := match vs with
  | [] => False
  | f :: _ => T01 f
def T2s : List Int → List Mng → Prop
  | [], vs => T1h vs
  | o :: os, vs => if o ≤ 23 then T2s os (apO o vs) else if o ≤ 26 then True else T1h vs
def RLp (A B Q : Nat → Int) (F0 : Int) : List Int → List Mng → Nat → Prop
  | [], vs, e => vs = [] ∧ (e : Int) = F0
  | o :: os, vs, e =>
    (o = 31 ∧ RLp A B Q F0 os vs e) ∨
    ((o = 27 ∨ o = 30) ∧ NTo os ∧ RLp A B Q F0 os vs e) ∨
    ((20 ≤ o ∧ o ≤ 26) ∧ (24 ≤ o → NTo os) ∧ ∃ (f : Mng) (us : List Mng) (b : Nat), vs = f :: us ∧ MR A B b e f ∧ RLp A B Q F0 os us b) ∨
    ((o = 28 ∨ o = 29) ∧ NTo os ∧ ∃ (f : Mng) (us : List Mng) (q b : Nat), vs = f :: us ∧ e = q + 1 ∧ Q os.length = (q : Int) ∧ A q = o ∧ T01 f ∧ MR A B b q f ∧ RLp A B Q F0 os us b)
def RLs (A B Q : Nat → Int) (F0 : Int) (ops : List Int) (vs : List Mng) (e : Nat) : Prop := ∃ (f : Mng) (us : List Mng) (b : Nat), vs = f :: us ∧ MR A B b e f ∧ RLp A B Q F0 ops us b
section RLx
variable {A B Q A2 B2 Q2 : Nat → Int} {F0 o w : Int} {e : Nat} {os ops : List Int} {vs : List Mng}
theorem RLp.cg : ∀ {ops : List Int} {vs : List Mng} {e : Nat}, RLp A B Q F0 ops vs e → (∀ j, j < e → A2 j = A j ∧ B2 j = B j) → (∀ k, k < ops.length → Q2 k = Q k) → RLp A2 B2 Q2 F0 ops vs e
  | [], _, _, h, _, _ => h
  | o :: os, vs, e, h, hc, hq => by
    have hq' : ∀ k, k < os.length → Q2 k = Q k := fun k hk => hq k (by rw [List.length_cons]; omega)
    rcases h with ⟨a, b⟩ | ⟨a, n, b⟩ | ⟨a, n, f, us, b, e1, m, r⟩ | ⟨a, n, f, us, q, b, e1, e2, e3, e4, t, m, r⟩
    · exact Or.inl ⟨a, RLp.cg b hc hq'⟩
    · exact Or.inr (Or.inl ⟨a, n, RLp.cg b hc hq'⟩)
    · have := m.1
      exact Or.inr (Or.inr (Or.inl ⟨a, n, f, us, b, e1, m.cg (fun j x y => hc j y), RLp.cg r (fun j x => hc j (by omega)) hq'⟩))
    · have := m.1
      exact Or.inr (Or.inr (Or.inr ⟨a, n, f, us, q, b, e1, e2, by rw [hq _ (by rw [List.length_cons]; omega)]; exact e3, by rw [(hc q (by omega)).1]; exact e4, t, m.cg (fun j x y => hc j (by omega)), RLp.cg r (fun j x => hc j (by omega)) hq'⟩))
theorem RLs.cg (h : RLs A B Q F0 ops vs e) (hc : ∀ j, j < e → A2 j = A j ∧ B2 j = B j) (hq : ∀ k, k < ops.length → Q2 k = Q k) : RLs A2 B2 Q2 F0 ops vs e := by
  obtain ⟨f, us, b, e1, m, r⟩ := h
  have := m.1
  exact ⟨f, us, b, e1, m.cg (fun j x y => hc j y), r.cg (fun j x => hc j (by omega)) hq⟩
theorem RLp.bin (h : RLp A B Q F0 (o :: os) vs e) (ho : 20 ≤ o ∧ o ≤ 26) : (24 ≤ o → NTo os) ∧ ∃ (f : Mng) (us : List Mng) (b : Nat), vs = f :: us ∧ MR A B b e f ∧ RLp A B Q F0 os us b := by
  rcases h with ⟨a, -⟩ | ⟨a, -⟩ | ⟨-, h⟩ | ⟨a, -⟩
  · omega
  · omega
  · exact h
  · omega
theorem RLp.no (h : RLp A B Q F0 (o :: os) vs e) (ho : o = 27 ∨ o = 30) : NTo os ∧ RLp A B Q F0 os vs e := by
  rcases h with ⟨a, -⟩ | ⟨-, h⟩ | ⟨a, -⟩ | ⟨a, -⟩
  · omega
  · exact h
  · omega
  · omega
theorem RLp.sq (h : RLp A B Q F0 (o :: os) vs e) (ho : o = 31) : RLp A B Q F0 os vs e := by
  rcases h with ⟨-, h⟩ | ⟨a, -⟩ | ⟨a, -⟩ | ⟨a, -⟩
  · exact h
  · omega
  · omega
  · omega
theorem RLp.ao (h : RLp A B Q F0 (o :: os) vs e) (ho : o = 28 ∨ o = 29) : NTo os ∧ ∃ (f : Mng) (us : List Mng) (q b : Nat), vs = f :: us ∧ e = q + 1 ∧ Q os.length = (q : Int) ∧ A q = o ∧ T01 f ∧ MR A B b q f ∧ RLp A B Q F0 os us b := by
  rcases h with ⟨a, -⟩ | ⟨a, -⟩ | ⟨a, -⟩ | ⟨-, h⟩
  · omega
  · omega
  · omega
  · exact h
/-- one is taken off the pile and written -/
theorem RLs.pop (h : RLs A B Q F0 (o :: os) vs e) (ho : 20 ≤ o ∧ o ≤ 27) (ea : A2 = ms A e o) (eb : B2 = ms B e w) : RLs A2 B2 Q F0 os (apO o vs) (e + 1) := by
  obtain ⟨g, us, b, e1, m, r⟩ := h
  subst e1
  have hm := m.1
  have lo : ∀ j, j < e → A2 j = A j ∧ B2 j = B j := fun j hj => by rw [ea, eb, ms_ne _ _ (by omega), ms_ne _ _ (by omega)]; exact ⟨rfl, rfl⟩
  have at_ : A2 e = o := by rw [ea]; exact ms_at _ _ _
  by_cases z : o = 27
  · obtain ⟨-, r'⟩ := r.no (Or.inl z)
    exact ⟨mNot g, us, b, by rw [z]; rfl, MR.not_ (m.cg (fun j x y => lo j y)) (by rw [at_, z]), r'.cg (fun j x => lo j (by omega)) (fun _ _ => rfl)⟩
  · obtain ⟨-, f, us', b', e2, m', r'⟩ := r.bin (by omega)
    subst e2
    have hm' := m'.1
    exact ⟨mBin o f g, us', b', apO_bin (by omega), MR.bin (m'.cg (fun j x y => lo j (by omega))) (m.cg (fun j x y => lo j y)) at_ (by omega), r'.cg (fun j x => lo j (by omega)) (fun _ _ => rfl)⟩
/-- an and, an or is taken off: it leads here -/
theorem RLs.pat (h : RLs A B Q F0 (o :: os) vs e) (ho : o = 28 ∨ o = 29) {x : Nat} {v : Int} (hx : (x : Int) = Q os.length) (eb : B2 = ms B x v) (hv : v = (e : Int)) : RLs A B2 Q F0 os (apO o vs) e := by
  obtain ⟨g, us, b, e1, m, r⟩ := h
  subst e1
  have hm := m.1
  obtain ⟨-, f, us', q, b', e2, e3, e4, e5, t, m', r'⟩ := r.ao ho
  subst e2
  have hm' := m'.1
  have xq : x = q := by omega
  subst xq
  exact ⟨mAO o f g, us', b', apO_ao ho, MR.ao (q := x) (m'.cg (fun j y z => by rw [eb, ms_ne _ _ (by omega)]; exact ⟨rfl, rfl⟩)) t (by rw [← e3]; exact m.cg (fun j y z => by rw [eb, ms_ne _ _ (by omega)]; exact ⟨rfl, rfl⟩)) e5 ho (by rw [eb, ms_at]; exact hv), r'.cg (fun j y => by rw [eb, ms_ne _ _ (by omega)]; exact ⟨rfl, rfl⟩) (fun _ _ => rfl)⟩
theorem NTo.t2 (h : NTo os) (t : T1h vs) : T2s os vs := by
  cases os with
  | nil => exact t
  | cons o os =>
    have h' : 27 ≤ o := h
    show if o ≤ 23 then _ else if o ≤ 26 then _ else T1h vs
    rw [if_neg (by omega), if_neg (by omega)]
    exact t
theorem T2s.hi (h : T2s (o :: os) vs) (ho : 27 ≤ o) : T1h vs := by
  have h' : if o ≤ 23 then T2s os (apO o vs) else if o ≤ 26 then True else T1h vs := h
  rw [if_neg (by omega), if_neg (by omega)] at h'
  exact h'
theorem T2s.nt (h : T2s os vs) (n : NTo os) : T1h vs := by
  cases os with
  | nil => exact h
  | cons o os => exact T2s.hi h n
theorem T2s.pop (h : T2s (o :: os) vs) (r : RLs A B Q F0 (o :: os) vs e) (ho : 20 ≤ o ∧ o ≤ 29) : T2s os (apO o vs) := by
  by_cases c : o ≤ 23
  · have h' : if o ≤ 23 then T2s os (apO o vs) else if o ≤ 26 then True else T1h vs := h
    rw [if_pos c] at h'
    exact h'
  · obtain ⟨g, us, b, e1, m, r⟩ := r
    subst e1
    by_cases d : o ≤ 26
    · obtain ⟨n, f, us', b', e2, m', r'⟩ := r.bin (by omega)
      subst e2
      rw [apO_bin (by omega)]
      exact (n (by omega)).t2 (T01.bin (by omega) f g)
    · have tg : T01 g := h.hi (by omega)
      by_cases z : o = 27
      · obtain ⟨n, r'⟩ := r.no (Or.inl z)
        rw [z]
        exact n.t2 (show T01 (mNot g) from tg.not_)
      · obtain ⟨n, f, us', q, b', e2, e3, e4, e5, t, m', r'⟩ := r.ao (by omega)
        subst e2
        rw [apO_ao (by omega)]
        exact n.t2 (T01.ao t tg)
theorem T2s.cm : ∀ {ops : List Int} {vs : List Mng}, cmpd ops = true → T2s ops vs
  | [], _, h => by cases h
  | o :: os, vs, h => by
    have h' : (if o ≤ 23 then cmpd os else decide (o ≤ 26)) = true := h
    show if o ≤ 23 then T2s os (apO o vs) else if o ≤ 26 then True else T1h vs
    by_cases c : o ≤ 23
    · rw [if_pos c] at h' ⊢
      exact T2s.cm h'
    · rw [if_neg c] at h' ⊢
      rw [if_pos (of_decide_eq_true h')]
      trivial
theorem NTo.lo {l : Int} (h : tlo l ops) (hl : l ≤ 2) : NTo ops := by
  cases ops with
  | nil => trivial
  | cons o os =>
    have h' : bnd o < l := h
    show 27 ≤ o
    unfold bnd at h'
    split at h'
    · omega
    · split at h'
      · omega
      · split at h'
        · omega
        · split at h'
          · omega
          · split at h'
            · omega
            · split at h' <;> omega
theorem NTo.c5 (h : tlo 5 ops) (hc : cmpd ops = false) : NTo ops := by
  cases ops with
  | nil => trivial
  | cons o os =>
    have h' : bnd o < 5 := h
    have h5 := bnd_5 (x := o)
    have hc' : (if o ≤ 23 then cmpd os else decide (o ≤ 26)) = false := hc
    rw [if_neg (by omega)] at hc'
    have := of_decide_eq_false hc'
    show 27 ≤ o
    omega
theorem PIL.len {P : Nat → Int} : ∀ {n : Nat} {ops : List Int}, PIL P n ops → ops.length = n
  | 0, _, h => by
    have e : _ = [] := h
    rw [e]; rfl
  | n + 1, _, ⟨os, e, h⟩ => by rw [e, List.length_cons, PIL.len h]
/-! in memory -/
def RLM (M : Mm) (F0 : Int) (ops : List Int) (vs : List Mng) : Prop := PIL (M 110) (M 97 27).toNat ops ∧ RLs (M 108) (M 109) (M 111) F0 ops vs (M 97 21).toNat
def RLG (M M1 : Mm) (F0 l : Int) : Prop := ∀ (ops : List Int) (vs : List Mng), RLM M F0 ops vs → ∃ (ops1 : List Int) (vs1 : List Mng), RLM M1 F0 ops1 vs1 ∧ stl l ops vs = stl l ops1 vs1 ∧ (T2s ops vs → T2s ops1 vs1)
def RLF (M M1 : Mm) (F0 l : Int) : Prop := ∀ (ops : List Int) (vs : List Mng), RLM M F0 ops vs → RLM M1 F0 (stl l ops vs).1 (stl l ops vs).2 ∧ (T2s ops vs → T2s (stl l ops vs).1 (stl l ops vs).2)
variable {M M1 M2 : Mm} {l v : Int}
theorem RLG.rf (M : Mm) (F0 l : Int) : RLG M M F0 l := fun ops vs h => ⟨ops, vs, h, rfl, id⟩
theorem RLG.top (h : RLM M1 F0 ops vs) (h1 : 1 ≤ M1 97 27) (hv : v = M1 110 (M1 97 27 - 1).toNat) : ∃ os : List Int, ops = v :: os ∧ PIL (M1 110) (M1 97 27 - 1).toNat os ∧ RLs (M1 108) (M1 109) (M1 111) F0 (v :: os) vs (M1 97 21).toNat := by
  obtain ⟨p, r⟩ := h
  rw [show (M1 97 27).toNat = (M1 97 27 - 1).toNat + 1 by omega] at p
  obtain ⟨os, e, p⟩ := p
  rw [← hv] at e
  exact ⟨os, e, p, e ▸ r⟩
theorem RLG.pop (h : RLG M M1 F0 l) (h1 : 1 ≤ M1 97 27) (h0 : 0 ≤ M1 97 21) (hv : v = M1 110 (M1 97 27 - 1).toNat) (hr : 20 ≤ v ∧ v ≤ 27) (hl : l ≤ bnd v) (e8 : M2 108 = ms (M1 108) (M1 97 21).toNat v) (e9 : M2 109 = ms (M1 109) (M1 97 21).toNat w) (e0 : M2 110 = M1 110) (e1 : M2 111 = M1 111) (e27 : M2 97 27 = M1 97 27 - 1) (e21 : M2 97 21 = M1 97 21 + 1) : RLG M M2 F0 l := by
  intro ops vs q
  obtain ⟨ops1, vs1, m, e, t⟩ := h ops vs q
  obtain ⟨os, eo, p, r⟩ := RLG.top m h1 hv
  subst eo
  refine ⟨os, apO v vs1, ⟨by rw [e0, e27]; exact p, ?_⟩, by rw [e]; exact if_pos hl, fun z => (t z).pop r (by omega)⟩
  rw [e1, e21, show (M1 97 21 + 1).toNat = (M1 97 21).toNat + 1 by omega]
  exact r.pop hr e8 e9
theorem RLG.pat (h : RLG M M1 F0 l) (h1 : 1 ≤ M1 97 27) (h0 : 0 ≤ M1 97 21) (hv : v = M1 110 (M1 97 27 - 1).toNat) (hr : v = 28 ∨ v = 29) (hl : l ≤ bnd v) (hw : w = M1 111 (M1 97 27 - 1).toNat) (w0 : 0 ≤ w) {n : Int} (hn : n = M1 97 21) (e8 : M2 108 = M1 108) (e9 : M2 109 = ms (M1 109) w.toNat n) (e0 : M2 110 = M1 110) (e1 : M2 111 = M1 111) (e27 : M2 97 27 = M1 97 27 - 1) (e21 : M2 97 21 = M1 97 21) : RLG M M2 F0 l := by
  intro ops vs q
  obtain ⟨ops1, vs1, m, e, t⟩ := h ops vs q
  obtain ⟨os, eo, p, r⟩ := RLG.top m h1 hv
  subst eo
  refine ⟨os, apO v vs1, ⟨by rw [e0, e27]; exact p, ?_⟩, by rw [e]; exact if_pos hl, fun z => (t z).pop r (by omega)⟩
  rw [e1, e21, e8]
  exact r.pat hr (by rw [p.len, ← hw]; omega) e9 (by omega)
theorem RLG.fin (h : RLG M M1 F0 l) (h0 : 0 ≤ M1 97 27) (hz : M1 97 27 = 0 ∨ bnd (M1 110 (M1 97 27 - 1).toNat) < l) : RLF M M1 F0 l := by
  intro ops vs q
  obtain ⟨ops1, vs1, m, e, t⟩ := h ops vs q
  have id1 : stl l ops1 vs1 = (ops1, vs1) := by
    refine stl_id ?_
    rcases hz with z | z
    · have p := m.1
      rw [show (M1 97 27).toNat = 0 by omega] at p
      have p' : ops1 = [] := p
      rw [p']
      trivial
    · by_cases c : M1 97 27 = 0
      · have p := m.1
        rw [show (M1 97 27).toNat = 0 by omega] at p
        have p' : ops1 = [] := p
        rw [p']
        trivial
      · obtain ⟨os, eo, -, -⟩ := RLG.top m (by omega) rfl
        rw [eo]
        exact z
  rw [e, id1]
  exact ⟨m, t⟩
/-! turn by turn -/
def RLq (M : Mm) (F0 : Int) (ops : List Int) (vs : List Mng) : Prop := RLp (M 108) (M 109) (M 111) F0 ops vs (M 97 21).toNat
def RLz (M : Mm) (F0 : Int) (ops : List Int) (vs : List Mng) : Prop := RLs (M 108) (M 109) (M 111) F0 ops vs (M 97 21).toNat
def RLt (M : Mm) (F0 : Int) (s : RSt) : Prop := M 97 18 = 0 → (s.1 ≤ 1 → RLq M F0 s.2.2.2.1 s.2.2.2.2 ∧ (s.1 = 0 → NTo s.2.2.2.1)) ∧ (2 ≤ s.1 → RLz M F0 s.2.2.2.1 s.2.2.2.2) ∧ (s.1 = 2 → T2s s.2.2.2.1 s.2.2.2.2)
theorem RLt.bad {s : RSt} (h : M 97 18 ≠ 0) : RLt M F0 s := fun z => absurd z h
theorem RLt.eq {s : RSt} (h : RLt M F0 s) (e8 : M1 108 = M 108) (e9 : M1 109 = M 109) (e1 : M1 111 = M 111) (e21 : M1 97 21 = M 97 21) (hb : M1 97 18 = 0 → M 97 18 = 0) : RLt M1 F0 s := by
  intro z
  have q := h (hb z)
  unfold RLq RLz at q ⊢
  rw [e8, e9, e1, e21]
  exact q
theorem RLq.eq (h : RLq M F0 ops vs) (e8 : M1 108 = M 108) (e9 : M1 109 = M 109) (e1 : M1 111 = M 111) (e21 : M1 97 21 = M 97 21) : RLq M1 F0 ops vs := by
  unfold RLq
  rw [e8, e9, e1, e21]
  exact h
theorem RLz.eq (h : RLz M F0 ops vs) (e8 : M1 108 = M 108) (e9 : M1 109 = M 109) (e1 : M1 111 = M 111) (e21 : M1 97 21 = M 97 21) : RLz M1 F0 ops vs := by
  unfold RLz
  rw [e8, e9, e1, e21]
  exact h
/-- turn 0 or 1 -/
theorem RLt.p {s : RSt} {t : Int} {i : Nat} {lv : Int} (e : s = (t, i, lv, ops, vs)) (ht : t = 0 ∨ t = 1) (h : RLq M F0 ops vs) (n : t = 0 → NTo ops) : RLt M F0 s := by
  subst e
  exact fun _ => ⟨fun _ => ⟨h, n⟩, fun z => by have z' : 2 ≤ t := z; omega, fun z => by have z' : t = 2 := z; omega⟩
/-- turn 2, 3 or 4 -/
theorem RLt.s {s : RSt} {t : Int} {i : Nat} {lv : Int} (e : s = (t, i, lv, ops, vs)) (ht : 2 ≤ t) (h : RLz M F0 ops vs) (n : t = 2 → T2s ops vs) : RLt M F0 s := by
  subst e
  exact fun _ => ⟨fun z => by have z' : t ≤ 1 := z; omega, fun _ => h, n⟩
/-- a bracket, a not on the pile -/
theorem RLq.push {n : Nat} (h : RLq M F0 ops vs) (p : PIL (M 110) n ops) (hn : (n : Int) = M 97 27) (e8 : M1 108 = M 108) (e9 : M1 109 = M 109) (e1 : M1 111 = ms (M 111) (M 97 27).toNat w) (e21 : M1 97 21 = M 97 21) (ho : o = 31 ∨ ((o = 27 ∨ o = 30) ∧ NTo ops)) : RLq M1 F0 (o :: ops) vs := by
  have r : RLp (M1 108) (M1 109) (M1 111) F0 ops vs (M1 97 21).toNat := by
    rw [e8, e9, e21]
    refine RLp.cg h (fun j _ => ⟨rfl, rfl⟩) (fun k hk => ?_)
    rw [p.len] at hk
    rw [e1, ms_ne _ _ (by omega)]
  rcases ho with z | ⟨z, n⟩
  · exact Or.inl ⟨z, r⟩
  · exact Or.inr (Or.inl ⟨z, n, r⟩)
/-- an operator behind what has been settled -/
theorem RLM.op (h : RLM M F0 ops vs) (h0 : 0 ≤ M 97 27) (e8 : M1 108 = M 108) (e9 : M1 109 = M 109) (e1 : M1 111 = ms (M 111) (M 97 27).toNat w) (e21 : M1 97 21 = M 97 21) (ho : 20 ≤ o ∧ o ≤ 26) (n : 24 ≤ o → NTo ops) : RLq M1 F0 (o :: ops) vs := by
  obtain ⟨p, f, us, b, a1, m, r⟩ := h
  have hm := m.1
  refine Or.inr (Or.inr (Or.inl ⟨ho, n, f, us, b, a1, ?_, ?_⟩))
  · rw [e8, e9, e21]; exact m
  · rw [e8, e9]
    refine r.cg (fun j _ => ⟨rfl, rfl⟩) (fun k hk => ?_)
    rw [p.len] at hk
    rw [e1, ms_ne _ _ (by omega)]
theorem RLM.ao (h : RLM M F0 ops vs) (h0 : 0 ≤ M 97 27) (h1 : 0 ≤ M 97 21) (ho : o = 28 ∨ o = 29) (n : NTo ops) (t : T1h vs) (e8 : M1 108 = ms (M 108) (M 97 21).toNat o) (e9 : M1 109 = ms (M 109) (M 97 21).toNat 0) (e1 : M1 111 = ms (M 111) (M 97 27).toNat (M 97 21)) (e21 : M1 97 21 = M 97 21 + 1) : RLq M1 F0 (o :: ops) vs := by
  obtain ⟨p, f, us, b, a1, m, r⟩ := h
  have hm := m.1
  subst a1
  refine Or.inr (Or.inr (Or.inr ⟨ho, n, f, us, (M 97 21).toNat, b, rfl, by omega, ?_, ?_, t, m.cg (fun j _ _ => ?_), r.cg (fun j _ => ?_) (fun k hk => ?_)⟩))
  · rw [p.len, e1, ms_at]; omega
  · rw [e8]; exact ms_at _ _ _
  · rw [e8, e9, ms_ne _ _ (by omega), ms_ne _ _ (by omega)]; exact ⟨rfl, rfl⟩
  · rw [e8, e9, ms_ne _ _ (by omega), ms_ne _ _ (by omega)]; exact ⟨rfl, rfl⟩
  · rw [p.len] at hk
    rw [e1, ms_ne _ _ (by omega)]
/-- a bracket is taken off what has been settled -/
theorem RLM.cls (h : RLM M F0 ops vs) (h1 : 1 ≤ M 97 27) (e8 : M1 108 = M 108) (e9 : M1 109 = M 109) (e1 : M1 111 = M 111) (e21 : M1 97 21 = M 97 21) (hv : M 110 (M 97 27 - 1).toNat = 30 ∨ M 110 (M 97 27 - 1).toNat = 31) : RLz M1 F0 ops.tail vs ∧ (M 110 (M 97 27 - 1).toNat = 30 → T2s ops vs → T2s ops.tail vs) := by
  obtain ⟨os, e, p, f, us, b, a1, m, r⟩ := RLG.top h h1 rfl
  subst e
  refine ⟨⟨f, us, b, a1, by rw [e8, e9, e21]; exact m, ?_⟩, fun z t => ?_⟩
  · rw [e8, e9, e1]
    rcases hv with z | z
    · exact (r.no (Or.inr z)).2
    · exact r.sq z
  · exact (r.no (Or.inr z)).1.t2 (t.hi (by omega))
/-- a leaf is written -/
theorem RLq.leaf {op arg : Int} (h : RLq M F0 ops vs) (h1 : 0 ≤ M 97 21) (lo : ∀ k : Nat, (k : Int) < M 97 21 → M1 108 k = M 108 k ∧ M1 109 k = M 109 k) (e1 : M1 111 = M 111) (a : M1 108 (M 97 21).toNat = op) (b : M1 109 (M 97 21).toNat = arg) (ho : op < 20) (e21 : M1 97 21 = M 97 21 + 1) : RLz M1 F0 ops (mLf op arg :: vs) := by
  refine ⟨mLf op arg, vs, (M 97 21).toNat, rfl, ?_, ?_⟩
  · rw [show (M1 97 21).toNat = (M 97 21).toNat + 1 by omega]
    exact MR.leaf a b ho
  · refine RLp.cg h (fun j hj => lo j (by omega)) (fun k _ => by rw [e1])
theorem RLq.nil (h : F0 = M 97 21) (h0 : 0 ≤ F0) : RLq M F0 [] [] := ⟨rfl, by omega⟩
section RLr
variable {K W S E : Nat → Int} {m i : Nat} {lv its : Int}
theorem stPa_v1 (hs : ITS K W i its) (hi : its = -1) (h3 : (stPa K W i lv ops vs).1 = 3) : stPa K W i lv ops vs = (3, i + 1, lv + 1, ops, mLf 0 (W i) :: vs) := by
  by_cases c : 50 ≤ lv
  · rw [stPa_lv hs.1 c] at h3
    exact absurd h3 (show ¬ (9 : Int) = 3 by decide)
  · by_cases d : K i = 2 ∧ W i ≤ 1000
    · exact stPa_num hs (by omega) hi d
    · rw [stPa_no hs hi d] at h3
      exact absurd h3 (show ¬ (9 : Int) = 3 by decide)
theorem lfG_v {op base : Int} {j : Nat} (h3 : (lfG K W op base j lv ops vs).1 = 3) : lfG K W op base j lv ops vs = (3, j + 1, lv, ops, mLf op (base + W j) :: vs) := by
  by_cases c : K j = 2 ∧ W j ≤ 5
  · exact if_pos c
  · have e : lfG K W op base j lv ops vs = bad j := if_neg c
    rw [e] at h3
    exact absurd h3 (show ¬ (9 : Int) = 3 by decide)
theorem stPa_vw (hs : ITS K W i its) (hi : its ≠ -1) (h3 : (stPa K W i lv ops vs).1 = 3) : ∃ (j : Nat) (arg : Int), stPa K W i lv ops vs = (3, j, lv + 1, ops, mLf its arg :: vs) ∧ (its = 4 → arg = 0) ∧ ((its = 1 ∨ its = 2) → arg = W (i + 1)) ∧ (its = 3 → arg = 6 * W (i + 1) + W (i + 1 + 1)) := by
  by_cases c : 50 ≤ lv
  · rw [stPa_lv hs.1 c] at h3
    exact absurd h3 (show ¬ (9 : Int) = 3 by decide)
  · have hv := hs.2
    by_cases d : its = 4
    · exact ⟨_, 0, by rw [stPa_done hs (by omega) d, d], fun _ => rfl, fun z => by omega, fun z => by omega⟩
    · by_cases g : its = 3
      · rw [stPa_t hs (by omega) g] at h3 ⊢
        by_cases k : K (i + 1) = 2 ∧ W (i + 1) ≤ 3
        · rw [if_pos k] at h3 ⊢
          exact ⟨_, 6 * W (i + 1) + W (i + 1 + 1), by rw [lfG_v h3, g], fun z => by omega, fun z => by omega, fun _ => rfl⟩
        · rw [if_neg k] at h3
          exact absurd h3 (show ¬ (9 : Int) = 3 by decide)
      · rw [stPa_g hs (by omega) (by omega)] at h3 ⊢
        exact ⟨_, 0 + W (i + 1), lfG_v h3, fun z => by omega, fun _ => by omega, fun z => by omega⟩
theorem RLt.leafn (hs : ITS K W i its) (hi : its = -1) (pq : RFs K W S E m M1 3 (stPa K W i lv ops vs)) (hb : M1 97 18 = 0) (h : RLq M F0 ops vs) (h1 : 0 ≤ M 97 21) (lo : LO M M1 (M 97 21)) (e1 : M1 111 = M 111) (a : M1 108 (M 97 21).toNat = 0) (b : M1 109 (M 97 21).toNat = W i) (e21 : M1 97 21 = M 97 21 + 1) : RLt M1 F0 (stPa K W i lv ops vs) :=
  RLt.s (stPa_v1 hs hi (pq.t_ hb rfl)) (by decide) (h.leaf h1 lo e1 a b (by decide) e21) (fun z => absurd z (by decide))
theorem RLt.leafw {sf gl : Int} (hs : ITS K W i its) (hi : its ≠ -1) (pq : RFs K W S E m M1 3 (stPa K W i lv ops vs)) (hb : M1 97 18 = 0) (h : RLq M F0 ops vs) (h1 : 0 ≤ M 97 21) (lo : LO M M2 (M 97 21)) (e1 : M2 111 = M 111) (a : M2 108 (M 97 21).toNat = its) (b : M2 109 (M 97 21).toNat = 6 * sf + gl) (hsv : (its = 3 → sf = W (i + 1)) ∧ (its ≠ 3 → sf = 0)) (hgv : (its = 3 → gl = W (i + 1 + 1)) ∧ ((its = 1 ∨ its = 2) → gl = W (i + 1)) ∧ (its = 4 → gl = 0)) (e21 : M2 97 21 = M 97 21 + 1) : RLt M2 F0 (stPa K W i lv ops vs) := by
  have hv := hs.2
  have h12 : its ≠ 3 → its ≠ 4 → its = 1 ∨ its = 2 := by clear hsv hgv; omega
  obtain ⟨j, arg, e, v1, v2, v3⟩ := stPa_vw hs hi (pq.t_ hb rfl)
  refine RLt.s e (by decide) (h.leaf h1 lo e1 a ?_ (by clear hsv hgv v1 v2 v3; omega) e21) (fun z => absurd z (by decide))
  rw [b]
  by_cases c : its = 3
  · rw [v3 c, hsv.1 c, hgv.1 c]
  · rw [hsv.2 c]
    by_cases d : its = 4
    · rw [v1 d, hgv.2.2 d]
      rfl
    · rw [v2 (h12 c d), hgv.2.1 (h12 c d)]
      clear hsv hgv v1 v2 v3
      omega
theorem RLt.br (h : isSg K W i 91) (q : OBQ K W S E m i lv ops 31 M1) (z : M1 97 18 = 0 → RLq M1 F0 (31 :: ops) vs) : RLt M1 F0 (stPa K W i lv ops vs) := by
  intro hb
  rcases q with y | y
  · exact RLt.p (by rw [stPa_ob h, if_pos y.2.1]) (Or.inr rfl) (z hb) (fun x => absurd x (by decide)) hb
  · exact absurd hb y.1
theorem RLt.br0 (h1 : ¬ isWd K W i 14836) (h : isSg K W i 40) (q : OBQ K W S E m i lv ops 30 M1) (z : M1 97 18 = 0 → RLq M1 F0 (30 :: ops) vs) : RLt M1 F0 (stPl K W i lv ops vs) := by
  intro hb
  rcases q with y | y
  · exact RLt.p (by unfold stPl; rw [if_neg h1, if_pos h, if_pos y.2.1]) (Or.inl rfl) (z hb) (fun _ => show (27 : Int) ≤ 30 by decide) hb
  · exact absurd hb y.1
theorem stp4 {t : Bool} {s : RSt} (h : s.1 = 4) : stp K W t s = s := by
  unfold stp
  rw [if_neg (by omega), if_neg (by omega), if_neg (by omega), if_neg (by omega)]
end RLr
/-- a whole expression -/
theorem RLM.end_ {K W : Nat → Int} {t : Bool} {i : Nat} {lv : Int} {s : RSt} (h : RLF M M1 F0 1) (q : RLM M F0 s.2.2.2.1 s.2.2.2.2) (hp : M1 97 27 = 0) (ex : EXP K W t i lv s) (h4 : s.1 = 4) : MR (M1 108) (M1 109) F0.toNat (M1 97 21).toNat (exM K W t i lv) := by
  obtain ⟨⟨p, f, us, b, a1, m, r⟩, -⟩ := h _ _ q
  rw [hp] at p
  have p' : (stl 1 s.2.2.2.1 s.2.2.2.2).1 = [] := p
  rw [p'] at r
  obtain ⟨r1, r2⟩ : us = [] ∧ (b : Int) = F0 := r
  obtain ⟨s1, s2, s3, s4, s5⟩ := s
  have e4 : s1 = 4 := h4
  subst e4
  rw [exM_at ex a1, show F0.toNat = b by omega]
  exact m
end RLx
