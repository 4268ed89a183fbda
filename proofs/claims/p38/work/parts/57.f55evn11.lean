/-! a clause of the reference, run -/
section MVMs
variable {A B A' B' : Nat → Int} {E : Int → Int → Int} {f : Mng} {n d d1 r v w g s k br a b a' b' : Int} {m mm m1 z K W : Nat → Int} {i : Nat} {lv : Int}
theorem MR.e2 (h : MR A B a.toNat b.toNat f) (ea : a' = a) (eb : b' = b) (e8 : A' = A) (e9 : B' = B) : MR A' B' a'.toNat b'.toNat f := by
  subst ea eb e8 e9
  exact h
theorem VLQ.no (h : VLQ E f br v) (h0 : br ≠ 0 ∨ v = 0) : ¬ ∃ x : Int, f E = some x ∧ x ≠ 0 := by
  intro q
  obtain ⟨x, q1, q2⟩ := q
  have := h.2.1 x q1
  omega
theorem VLQ.yes (h : VLQ E f br v) (h0 : br = 0) : f E = some v := by
  cases e : f E with
  | none => have := h.2.2 e; omega
  | some x => rw [(h.2.1 x e).2]
theorem VLQ.bad (h : VLQ E f br v) (h0 : br ≠ 0) : f E = none := by
  cases e : f E with
  | none => rfl
  | some x => have := h.2.1 x e; omega
theorem E25.symm (h : E25 m mm) : E25 mm m := fun j hj => (h j hj).symm
theorem mvR_n (h : cF K W i lv (evE n d m z) = none) : mvR n z K W i lv m d = (-3, m) := by
  unfold mvR
  rw [h]
theorem mvR_v (h : cF K W i lv (evE n d m z) = some v) : mvR n z K W i lv m d = mvV n z K W i lv m v := by
  unfold mvR
  rw [h]
theorem mvV_out (h : ¬ (1 ≤ v ∧ v ≤ 60)) : mvV n z K W i lv m v = (-3, m) := by
  unfold mvV
  rw [if_pos h]
theorem mvV_no (h : ¬ ((cHd K W i = 2 ∧ 0 ≤ cTo K W i lv ∧ cTo K W i lv < n) ∨ (cHd K W i ≠ 2 ∧ (0 ≤ cFr K W i lv ∧ cFr K W i lv < n) ∧ (cHd K W i = 1 ∨ (0 ≤ cTo K W i lv ∧ cTo K W i lv < n))))) : mvV n z K W i lv m v = (-3, m) := by
  by_cases c : 1 ≤ v ∧ v ≤ 60
  · unfold mvV
    rw [if_neg (fun q => q c)]
    by_cases y : cHd K W i = 2
    · rw [if_pos y, if_neg (by omega)]
    · rw [if_neg y, if_neg (by omega)]
  · exact mvV_out c
theorem mvV_neg (h : (mvV n z K W i lv m v).1 < 0) : E25 m (mvV n z K W i lv m v).2 := by
  unfold mvV at h ⊢
  split
  · exact fun j _ => rfl
  · rename_i c1
    rw [if_neg c1] at h
    split
    · rename_i c2
      rw [if_pos c2] at h
      split
      · rename_i c3
        rw [if_pos c3] at h
        exact absurd h (by show ¬ (0 : Int) < 0; omega)
      · exact fun j _ => rfl
    · rename_i c2
      rw [if_neg c2] at h
      split
      · rename_i c3
        rw [if_pos c3] at h
        have h' : spR m z (cFr K W i lv) (mvK K W i lv) v < 0 := h
        intro j _
        show spM m z (cFr K W i lv) (mvK K W i lv) v j = m j
        unfold spM
        rw [if_neg (by omega)]
      · exact fun j _ => rfl
theorem FIL.F (h : FIL m z g s w r m1) (e : E25 m mm) (hg : 0 ≤ g ∧ g ≤ 5) (hs : 0 ≤ s ∧ s ≤ 3) : (w ≤ z g.toNat - flm mm g.toNat → r = 0 ∧ E25 (ms mm (4 * g + s).toNat (mm (4 * g + s).toNat + w * mm 24)) m1) ∧ (¬ w ≤ z g.toNat - flm mm g.toNat → r = -3 ∧ E25 mm m1) := by
  have ef : flm mm g.toNat = flm m g.toNat := flm_cg e (by omega)
  rw [ef]
  refine ⟨fun c => ?_, fun c => ?_⟩
  · obtain ⟨h1, h2⟩ := h.1 c
    refine ⟨h1, fun j hj => ?_⟩
    rw [h2, e _ (by omega), e 24 (by omega)]
    by_cases y : j = (4 * g + s).toNat
    · rw [y, ms_at, ms_at]
    · rw [ms_ne _ _ y, ms_ne _ _ y, e j hj]
  · obtain ⟨h1, h2⟩ := h.2 c
    refine ⟨h1, fun j hj => ?_⟩
    rw [h2, e j hj]
theorem MVM.fi (hd : cHd K W i = 2) (hv : 1 ≤ v ∧ v ≤ 60) (hg : g = cTo K W i lv) (hgn : 0 ≤ g ∧ g < n ∧ n ≤ 6) (hs : s = W (i + 1)) (hs3 : 0 ≤ s ∧ s ≤ 3) (h : FIL m z g s v r m1) (e : E25 m mm) : r = (mvV n z K W i lv mm v).1 ∧ E25 (mvV n z K W i lv mm v).2 m1 := by
  obtain ⟨f1, f2⟩ := h.F e ⟨hgn.1, by omega⟩ hs3
  unfold mvV
  rw [if_neg (fun q => q hv), if_pos hd, ← hg, ← hs]
  by_cases c : v ≤ z g.toNat - flm mm g.toNat
  · rw [if_pos ⟨⟨hgn.1, hgn.2.1⟩, c⟩]
    exact f1 c
  · rw [if_neg (fun q => c q.2)]
    exact f2 c
theorem MVM.sp (hd : cHd K W i ≠ 2) (hv : 1 ≤ v ∧ v ≤ 60) (hg : g = cFr K W i lv) (hgn : 0 ≤ g ∧ g < n ∧ n ≤ 6) (hk : k = mvK K W i lv) (hk5 : -1 ≤ k ∧ k ≤ 5) (hto : cHd K W i = 1 ∨ (0 ≤ cTo K W i lv ∧ cTo K W i lv < n)) (h : SPO m z g k v r m1) (e : E25 m mm) (pi : PI mm) : r = (mvV n z K W i lv mm v).1 ∧ E25 (mvV n z K W i lv mm v).2 m1 := by
  obtain ⟨q1, q2⟩ := h.F e pi ⟨hgn.1, by omega⟩ hk5 hv.1
  unfold mvV
  rw [if_neg (fun q => q hv), if_neg hd, ← hg, if_pos ⟨⟨hgn.1, hgn.2.1⟩, hto⟩, ← hk]
  exact ⟨q1, q2⟩
def MVQ (n : Int) (z K W : Nat → Int) (i : Nat) (lv : Int) (mm : Nat → Int) (d r : Int) (m1 : Nat → Int) (d1 : Int) : Prop := r = (evS n z K W i lv mm d).1 ∧ E25 (evS n z K W i lv mm d).2.1 m1 ∧ d1 = (evS n z K W i lv mm d).2.2
theorem MVM.nn (h : ¬ cOK K W i lv (evE n d mm z)) (e : E25 mm m1) (hr : r = 0) (hd : d1 = d) : MVQ n z K W i lv mm d r m1 d1 := by
  unfold MVQ
  rw [evS_no h]
  exact ⟨hr, e, hd⟩
theorem MVM.n3 (h : cOK K W i lv (evE n d mm z)) (x : mvR n z K W i lv mm d = (-3, mm)) (e : E25 mm m1) (hr : r = -3) (hd : d1 = d) : MVQ n z K W i lv mm d r m1 d1 := by
  have c : (mvR n z K W i lv mm d).1 < 0 := by rw [x]; show (-3 : Int) < 0; omega
  unfold MVQ
  rw [evS_bad h c, x]
  exact ⟨hr, e, hd⟩
theorem MVM.y (h : cOK K W i lv (evE n d mm z)) (hx : cF K W i lv (evE n d mm z) = some v) (x : r = (mvV n z K W i lv mm v).1 ∧ E25 (mvV n z K W i lv mm v).2 m1) (hr : r ≤ 0) (hd : (r < 0 ∧ d1 = d) ∨ (0 ≤ r ∧ d1 = d + 1)) : MVQ n z K W i lv mm d r m1 d1 := by
  have ev := mvR_v hx
  unfold MVQ
  by_cases c : r < 0
  · have c2 : (mvR n z K W i lv mm d).1 < 0 := by rw [ev, ← x.1]; exact c
    rw [evS_bad h c2, ev]
    refine ⟨x.1, fun j hj => ?_, by show d1 = d; omega⟩
    rw [x.2 j hj]
    exact mvV_neg (by rw [← x.1]; exact c) j hj
  · have c2 : ¬ (mvR n z K W i lv mm d).1 < 0 := by rw [ev, ← x.1]; exact c
    rw [evS_ok h c2, ev]
    exact ⟨by show r = 0; omega, x.2, by show d1 = d + 1; omega⟩
end MVMs
