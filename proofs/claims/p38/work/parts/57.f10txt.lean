/-! a text, clause by clause: (1, token, leaves) or (0, token of the fault, _) -/
abbrev S3 : Type := Int × Nat × Int
noncomputable def exF (K W : Nat → Int) (t : Bool) (i : Nat) (lv : Int) : S3 :=
  @dite _ (∃ φ : RSt, EXP K W t i lv φ) (Classical.propDecidable _) (fun h => ((if (Classical.choose h).1 = 4 then 1 else 0), (Classical.choose h).2.1, (Classical.choose h).2.2.1)) (fun _ => (0, 0, 0))
theorem exF_at {K W : Nat → Int} {t : Bool} {i : Nat} {lv : Int} {φ : RSt} (h : EXP K W t i lv φ) : exF K W t i lv = ((if φ.1 = 4 then 1 else 0), φ.2.1, φ.2.2.1) := by
  have hx : ∃ ψ : RSt, EXP K W t i lv ψ := ⟨φ, h⟩
  have e : Classical.choose hx = φ := EXP.det (Classical.choose_spec hx) h
  unfold exF
  rw [dif_pos hx, e]
def STq (s : S3) (r : Int) (j : Nat) (l : Int) : Prop := s.1 = r ∧ s.2.1 = j ∧ (r = 1 → s.2.2 = l)
theorem STq.s1 {s : S3} {r l : Int} {j : Nat} (h : STq s r j l) (hr : r = 1) : s = (1, j, l) := by
  obtain ⟨a, b, c⟩ := h
  obtain ⟨x, y, z⟩ := s
  have a' : x = r := a
  have b' : y = j := b
  have c' : z = l := c hr
  subst a' b' c' hr
  rfl
theorem STq.r {s : S3} {r r' l : Int} {j : Nat} (h : STq s r j l) (e : r = r') : STq s r' j l := e ▸ h
theorem STq.st {s : S3} {r l : Int} {j : Nat} {F : S3 → S3} (h : STq s r j l) (hF : ∀ s : S3, s.1 = 0 → F s = s) (hr : r = 0) : STq (F s) r j l := by
  rw [hF s (h.1.trans hr)]
  exact h
theorem STq.n {i : Nat} {x l : Int} : STq ((0, i, x) : S3) 0 i l := ⟨rfl, rfl, fun z => absurd z (by decide)⟩
theorem STq.y {i : Nat} {l : Int} : STq ((1, i, l) : S3) 1 i l := ⟨rfl, rfl, fun _ => rfl⟩
theorem exF_S {K W : Nat → Int} {i j : Nat} {lv r l : Int} (h : RS K W 5 0 i lv r j l) (hr : r = 0 ∨ r = 1) : STq (exF K W false i lv) r j l := by
  obtain ⟨h1, h0⟩ := h.exp
  rcases hr with z | z
  · rw [exF_at (h0 z), z]
    exact ⟨rfl, rfl, fun y => absurd y (by decide)⟩
  · obtain ⟨os, us, g⟩ := h1 z
    rw [exF_at g, z]
    exact ⟨rfl, rfl, fun _ => rfl⟩
theorem exF_T {K W : Nat → Int} {i j : Nat} {lv r l : Int} (h : RT K W 1 0 i lv r j l) (hr : r = 0 ∨ r = 1) : STq (exF K W true i lv) r j l := by
  obtain ⟨h1, h0⟩ := h.exp
  rcases hr with z | z
  · rw [exF_at (h0 z), z]
    exact ⟨rfl, rfl, fun y => absurd y (by decide)⟩
  · obtain ⟨os, us, g⟩ := h1 z
    rw [exF_at g, z]
    exact ⟨rfl, rfl, fun _ => rfl⟩
def sW (K W : Nat → Int) (w : Int) (s : S3) : S3 := if s.1 = 1 then (if K s.2.1 = 1 ∧ W s.2.1 = w then (1, s.2.1 + 1, s.2.2) else (0, s.2.1, s.2.2)) else s
def sN (K W : Nat → Int) (a b : Int) (s : S3) : S3 := if s.1 = 1 then (if K s.2.1 = 2 ∧ a ≤ W s.2.1 ∧ W s.2.1 ≤ b then (1, s.2.1 + 1, s.2.2) else (0, s.2.1, s.2.2)) else s
noncomputable def sE (K W : Nat → Int) (t : Bool) (s : S3) : S3 := if s.1 = 1 then exF K W t s.2.1 s.2.2 else s
def sFr (K W : Nat → Int) (s : S3) : S3 := sN K W 0 5 (sW K W 215533 s)
def sTo (K W : Nat → Int) (s : S3) : S3 := sN K W 0 5 (sW K W 655 s)
def sTm (K W : Nat → Int) (s : S3) : S3 := if s.1 = 1 ∧ K s.2.1 = 1 ∧ W s.2.1 = 21279923 then sN K W 1 20 (1, s.2.1 + 1, s.2.2) else s
noncomputable def sIf (K W : Nat → Int) (s : S3) : S3 := if s.1 = 1 ∧ K s.2.1 = 1 ∧ W s.2.1 = 294 then exF K W true (s.2.1 + 1) s.2.2 else s
noncomputable def sMv (K W : Nat → Int) (i : Nat) (lv : Int) : S3 :=
  if K i = 1 ∧ W i = 20463086 then sTo K W (sFr K W (exF K W false (i + 1) lv))
  else if K i = 1 ∧ W i = 402539 then sFr K W (exF K W false (i + 1) lv)
  else if K i = 1 ∧ W i = 206220 then sTo K W (sE K W false (sN K W 0 3 (1, i + 1, lv)))
  else (0, i, lv)
noncomputable def sCl (K W : Nat → Int) (i : Nat) (lv : Int) : S3 := sIf K W (sTm K W (sMv K W i lv))
noncomputable def tXf (K W : Nat → Int) : Nat → Nat → Int → Int × Nat
  | 0, i, _ => (0, i)
  | n + 1, i, lv => if (sCl K W i lv).1 = 1 then (if K (sCl K W i lv).2.1 = 0 then (1, (sCl K W i lv).2.1) else if K (sCl K W i lv).2.1 = 3 ∧ W (sCl K W i lv).2.1 = 59 then tXf K W n ((sCl K W i lv).2.1 + 1) (sCl K W i lv).2.2 else (0, (sCl K W i lv).2.1)) else (0, (sCl K W i lv).2.1)
theorem sW_0 (K W : Nat → Int) (w : Int) (s : S3) (h : s.1 = 0) : sW K W w s = s := if_neg (by omega)
theorem sN_0 (K W : Nat → Int) (a b : Int) (s : S3) (h : s.1 = 0) : sN K W a b s = s := if_neg (by omega)
theorem sE_0 (K W : Nat → Int) (t : Bool) (s : S3) (h : s.1 = 0) : sE K W t s = s := if_neg (by omega)
theorem sFr_0 (K W : Nat → Int) (s : S3) (h : s.1 = 0) : sFr K W s = s := by
  unfold sFr
  rw [sW_0 K W _ s h]
  exact sN_0 K W _ _ s h
theorem sTo_0 (K W : Nat → Int) (s : S3) (h : s.1 = 0) : sTo K W s = s := by
  unfold sTo
  rw [sW_0 K W _ s h]
  exact sN_0 K W _ _ s h
theorem sTm_0 (K W : Nat → Int) (s : S3) (h : s.1 = 0) : sTm K W s = s := if_neg (by omega)
theorem sIf_0 (K W : Nat → Int) (s : S3) (h : s.1 = 0) : sIf K W s = s := if_neg (by omega)
section S3s
variable {K W : Nat → Int} {w a b : Int} {i : Nat} {lv : Int}
theorem sW_1 (h : K i = 1 ∧ W i = w) : sW K W w (1, i, lv) = (1, i + 1, lv) := by
  unfold sW
  rw [if_pos rfl, if_pos h]
theorem sW_n (h : ¬ (K i = 1 ∧ W i = w)) : sW K W w (1, i, lv) = (0, i, lv) := by
  unfold sW
  rw [if_pos rfl, if_neg h]
theorem sN_1 (h : K i = 2 ∧ a ≤ W i ∧ W i ≤ b) : sN K W a b (1, i, lv) = (1, i + 1, lv) := by
  unfold sN
  rw [if_pos rfl, if_pos h]
theorem sN_n (h : ¬ (K i = 2 ∧ a ≤ W i ∧ W i ≤ b)) : sN K W a b (1, i, lv) = (0, i, lv) := by
  unfold sN
  rw [if_pos rfl, if_neg h]
theorem sE_1 {t : Bool} : sE K W t (1, i, lv) = exF K W t i lv := if_pos rfl
theorem sTm_1 (h : K i = 1 ∧ W i = 21279923) : sTm K W (1, i, lv) = sN K W 1 20 (1, i + 1, lv) := if_pos ⟨rfl, h⟩
theorem sTm_n (h : ¬ (K i = 1 ∧ W i = 21279923)) : sTm K W (1, i, lv) = (1, i, lv) := if_neg (fun z => h z.2)
theorem sIf_1 (h : K i = 1 ∧ W i = 294) : sIf K W (1, i, lv) = exF K W true (i + 1) lv := if_pos ⟨rfl, h⟩
theorem sIf_n (h : ¬ (K i = 1 ∧ W i = 294)) : sIf K W (1, i, lv) = (1, i, lv) := if_neg (fun z => h z.2)
theorem sMv_s (h : K i = 1 ∧ W i = 20463086) : sMv K W i lv = sTo K W (sFr K W (exF K W false (i + 1) lv)) := if_pos h
theorem sMv_l (h : K i = 1 ∧ W i = 402539) : sMv K W i lv = sFr K W (exF K W false (i + 1) lv) := by
  unfold sMv
  rw [if_neg (by omega), if_pos h]
theorem sMv_f (h : K i = 1 ∧ W i = 206220) : sMv K W i lv = sTo K W (sE K W false (sN K W 0 3 (1, i + 1, lv))) := by
  unfold sMv
  rw [if_neg (by omega), if_neg (by omega), if_pos h]
theorem sMv_n (h1 : ¬ (K i = 1 ∧ W i = 20463086)) (h2 : ¬ (K i = 1 ∧ W i = 402539)) (h3 : ¬ (K i = 1 ∧ W i = 206220)) : sMv K W i lv = (0, i, lv) := by
  unfold sMv
  rw [if_neg h1, if_neg h2, if_neg h3]
theorem tXf_0 {n j : Nat} {r l : Int} (g : STq (sCl K W i lv) r j l) (hr : r = 0) : tXf K W (n + 1) i lv = (0, j) := by
  unfold tXf
  rw [if_neg (by have := g.1; omega), g.2.1]
theorem tXf_e {n j : Nat} {r l : Int} (g : STq (sCl K W i lv) r j l) (hr : r = 1) (hk : K j = 0) : tXf K W (n + 1) i lv = (1, j) := by
  unfold tXf
  rw [g.s1 hr, if_pos rfl, if_pos hk]
theorem tXf_g {n j : Nat} {r l : Int} (g : STq (sCl K W i lv) r j l) (hr : r = 1) (hk : K j = 3 ∧ W j = 59) : tXf K W (n + 1) i lv = tXf K W n (j + 1) l := by
  rw [show tXf K W (n + 1) i lv = _ from by unfold tXf; rw [g.s1 hr]]
  rw [if_pos rfl, if_neg (by show ¬ K j = 0; omega), if_pos hk]
theorem tXf_n {n j : Nat} {r l : Int} (g : STq (sCl K W i lv) r j l) (hr : r = 1) (hk : K j ≠ 0) (hs : ¬ (K j = 3 ∧ W j = 59)) : tXf K W (n + 1) i lv = (0, j) := by
  unfold tXf
  rw [g.s1 hr, if_pos rfl, if_neg hk, if_neg hs]
end S3s
