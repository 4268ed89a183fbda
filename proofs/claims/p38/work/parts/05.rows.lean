/-! fields, arrays, calls -/
def lnk (own : String) (i : Nat) (f : String × String × String × Bool) : Prop := Cond.fieldLink own i f.1 f.2.1 f.2.2.1 ∈ tb ∨ ∃ host, Cond.fieldLinkNest own i f.1 f.2.1 f.2.2.1 host ∈ nb
def fl (own : String) (i ci k : Nat) : Prop := ∃ q : vw_C, cls[ci]? = some q ∧ k < q.2.2 ∧ lnk own i (q.2.1 k)
def pl (own : String) (i ci k : Nat) (ty : FieldType) : Prop := ∃ q : vw_C, cls[ci]? = some q ∧ k < q.2.2 ∧ lnk own i (q.2.1 k) ∧ (q.2.1 k).2.2.2 = false ∧ parseFieldDescriptor (q.2.1 k).2.2.1 = some ty
theorem kd_o {c ci k kk : Nat} {ks : List Nat} (hs : shp[c]? = some (0, ci, ks)) (hk : ks[k]? = some kk) : kd c k = kk := by
  simp [kd, hs, List.getD_eq_getElem?_getD, hk]
theorem kd_1 {c n : Nat} {r : List Nat} (hs : shp[c]? = some (1, n, r)) (k : Nat) : kd c k = 0 := by simp [kd, hs]
theorem kd_2 {c n : Nat} {r : List Nat} (hs : shp[c]? = some (2, n, r)) (k : Nat) : kd c k = 1 := by simp [kd, hs]
theorem kd_3 {c n : Nat} {r : List Nat} (hs : shp[c]? = some (3, n, r)) (k : Nat) : kd c k = 0 := by simp [kd, hs]
theorem ce_o (X : Cx) (ci : Nat) (ks : List Nat) (m : Nat → Int) : ce X (0, ci, ks) m = .inr (ci, (List.range ks.length).map (fun i => fv X (ks.getD i 0) (m i))) := rfl
theorem ce_f {X : Cx} {ks : List Nat} {m : Nat → Int} {k kk : Nat} (hk : ks[k]? = some kk) : ((List.range ks.length).map (fun i => fv X (ks.getD i 0) (m i)))[k]? = some (fv X kk (m k)) := by
  have hl : k < ks.length := (List.getElem?_eq_some_iff.mp hk).1
  rw [List.getElem?_map, List.getElem?_range hl]
  simp [List.getD_eq_getElem?_getD, hk]
theorem ce_fs {X : Cx} {ks : List Nat} {m : Nat → Int} {k kk : Nat} {x : Int} (hk : ks[k]? = some kk) : ((List.range ks.length).map (fun i => fv X (ks.getD i 0) (m i))).set k (fv X kk x) = (List.range ks.length).map (fun i => fv X (ks.getD i 0) (ms m k x i)) := by
  have hl : k < ks.length := (List.getElem?_eq_some_iff.mp hk).1
  apply List.ext_getElem?
  intro j
  by_cases hj : j = k
  · subst hj
    rw [List.getElem?_set_self (by simpa using hl), ce_f hk]
    simp [ms]
  · rw [List.getElem?_set_ne (Ne.symm hj)]
    simp only [List.getElem?_map]
    by_cases hjl : j < ks.length
    · rw [List.getElem?_range hjl]; simp [ms, hj]
    · rw [List.getElem?_eq_none (by simpa using hjl)]; rfl
section GF
variable {X : Cx} {rm : Nat} {own : String} {cc : ByteArray} {nL : Nat} {ret : Option FieldType} {Q : Option Value → Mm → Prop} {pc pc' : Nat} {L : List (Nat × Value)} {S : List Value} {M : Mm}
theorem g_sub (ks : List Nat) {L' : List (Nat × Value)} (hl' : lv_pick L ks = L') (k : G X rm own cc nL ret Q pc L' S M) : G X rm own cc nL ret Q pc L S M :=
  fun hR p e R s m args below meth c H locs ls hF hW hP hS hl => k hR p e R s m args below meth c H locs ls hF hW hP hS (lv_sub hl ks hl')
theorem g_getf {c ci k i kk : Nat} {ks : List Nat} (hd : decode cc pc = .ok (.getfield i, 3)) (hp : pc + 3 = pc') (hf : fl own i ci k) (hs : shp[c]? = some (0, ci, ks)) (hk : ks[k]? = some kk)
    (kt : G X rm own cc nL ret Q pc' L (fv X kk (M c k) :: S) M) : G X rm own cc nL ret Q pc L (vr X c :: S) M := by
  subst hp
  intro hR p e R s m args below meth c0 H locs ls hF hW hP hS hl
  obtain ⟨q, hq, hkN, hlk⟩ := hf
  have he := wd_at (X := X) (M := M) hs
  have k' := kt hR p e R s m args below meth c0 H locs ls hF hW hP hS hl
  rcases hlk with h | ⟨host, h⟩
  · exact va_get (D := X.2.2.1) (ci := ci) (C := q.1) (T := q.2.1) (N := q.2.2) hF.1 hF.2.1 hF.2.2.2.2.2.1 (cls_in ci q hq) hF.2.2.2.2.1 hW.1 hP c he hq k hkN (hF.2.2.2.2.2.1 _ h) (fun _ h9 => h9) (ce_f hk) hd k'
  · exact va_getN (D := X.2.2.1) (ci := ci) (C := q.1) (T := q.2.1) (N := q.2.2) (host := host) hF.1 hF.2.1 hF.2.2.2.2.2.1 (cls_in ci q hq) hF.2.2.2.2.1 hW.1 hP c he hq k hkN (va_Nw.use rfl (hW.2.2.1 _ h)) (fun _ h9 => h9) (ce_f hk) hd k'
theorem g_getI {c ci k i : Nat} {ks : List Nat} (hd : decode cc pc = .ok (.getfield i, 3)) (hp : pc + 3 = pc') (hf : fl own i ci k) (hs : shp[c]? = some (0, ci, ks)) (hk : ks[k]? = some 0)
    (kt : ∀ z : Int, z = M c k → inI z → G X rm own cc nL ret Q pc' L (vi z :: S) M) : G X rm own cc nL ret Q pc L (vr X c :: S) M := by
  intro hR
  have hr := hR c k
  rw [kd_o hs hk] at hr
  exact g_getf hd hp hf hs hk (kt _ rfl hr) hR
theorem g_getL {c ci k i : Nat} {ks : List Nat} (hd : decode cc pc = .ok (.getfield i, 3)) (hp : pc + 3 = pc') (hf : fl own i ci k) (hs : shp[c]? = some (0, ci, ks)) (hk : ks[k]? = some 1)
    (kt : ∀ z : Int, z = M c k → inL z → G X rm own cc nL ret Q pc' L (vl z :: S) M) : G X rm own cc nL ret Q pc L (vr X c :: S) M := by
  intro hR
  have hr := hR c k
  rw [kd_o hs hk] at hr
  exact g_getf hd hp hf hs hk (kt _ rfl hr) hR
theorem g_getD {c ci k i : Nat} {ks : List Nat} (hd : decode cc pc = .ok (.getfield i, 3)) (hp : pc + 3 = pc') (hf : fl own i ci k) (hs : shp[c]? = some (0, ci, ks)) (hk : ks[k]? = some 2)
    (kt : G X rm own cc nL ret Q pc' L (vr X (M c k).toNat :: S) M) : G X rm own cc nL ret Q pc L (vr X c :: S) M := g_getf hd hp hf hs hk kt
theorem g_getR {c ci k i r : Nat} {ks : List Nat} (hd : decode cc pc = .ok (.getfield i, 3)) (hp : pc + 3 = pc') (hf : fl own i ci k) (hs : shp[c]? = some (0, ci, ks)) (hk : ks[k]? = some (r + 3))
    (kt : G X rm own cc nL ret Q pc' L (vr X r :: S) M) : G X rm own cc nL ret Q pc L (vr X c :: S) M := g_getf hd hp hf hs hk kt
theorem g_putf {c ci k i kk : Nat} {ks : List Nat} {x : Int} {ty : FieldType} (hd : decode cc pc = .ok (.putfield i, 3)) (hp : pc + 3 = pc') (hf : pl own i ci k ty) (hs : shp[c]? = some (0, ci, ks)) (hk : ks[k]? = some kk) (hr : inK kk x) (hn : narrow ty (fv X kk x) = fv X kk x) (hfit : fits ty (fv X kk x) = true)
    (kt : G X rm own cc nL ret Q pc' L S (mu M c k x)) : G X rm own cc nL ret Q pc L (fv X kk x :: vr X c :: S) M := by
  subst hp
  intro hR p e R s m args below meth c0 H locs ls hF hW hP hS hl
  obtain ⟨q, hq, hkN, hlk, hfin, hty⟩ := hf
  have he := wd_at (X := X) (M := M) hs
  have hkl : k < ks.length := (List.getElem?_eq_some_iff.mp hk).1
  have hR' : Rg (mu M c k x) := hR.up (by rw [kd_o hs hk]; exact hr)
  have hwd : (wd X M).set c (X.2.1 c, .inr (ci, ((List.range ks.length).map (fun i => fv X (ks.getD i 0) (M c i))).set k (fv X kk x))) = wd X (mu M c k x) := by
    rw [ce_fs hk, ← ce_o, wd_up hs]
    rfl
  obtain ⟨ty0, hty0⟩ := cls_ty ci q hq
  have key : ∀ (H1 : Heap) (locs1 : List Loc), va_P X.2.2.1 cls ((wd X M).set c (X.2.1 c, .inr (ci, ((List.range ks.length).map (fun i => fv X (ks.getD i 0) (M c i))).set k (fv X kk x)))) H1 → va_D (ax X) ((wd X M).set c (X.2.1 c, .inr (ci, ((List.range ks.length).map (fun i => fv X (ks.getD i 0) (M c i))).set k (fv X kk x)))) → va_S (ax X) s.heap H1 locs1 → W p X.1 e R s m args below meth c0 H1 locs1 0 0 (MQ below (Qm X Q) args s 0 0 (ax X)) (F0 m (pc + 3) ls S) := by
    intro H1 locs1 h1 _ h3
    rw [hwd] at h1
    exact kt hR' p e R s m args below meth c0 H1 locs1 ls hF hW h1 h3 hl
  rcases hlk with h | ⟨host, h⟩
  · exact va_put (D := X.2.2.1) (ci := ci) (C := q.1) (T := q.2.1) (N := q.2.2) (ty := ty) hF.1 hF.2.1 hF.2.2.2.2.2.1 (cls_in ci q hq) ty0 hty0 (cls_nm ci q hq) hF.2.2.2.2.1 hW.1 hP (wd_D hW.2.1 M) hS c he hq k hkN (hF.2.2.2.2.2.1 _ h) (fun _ h9 => h9) hfin hty hn hfit (by simpa using hkl) hd key
  · exact va_putN (D := X.2.2.1) (ci := ci) (C := q.1) (T := q.2.1) (N := q.2.2) (ty := ty) (host := host) hF.1 hF.2.1 hF.2.2.2.2.2.1 (cls_in ci q hq) ty0 hty0 (cls_nm ci q hq) hF.2.2.2.2.1 hW.1 hP (wd_D hW.2.1 M) hS c he hq k hkN (va_Nw.use rfl (hW.2.2.1 _ h)) (fun _ h9 => h9) hfin hty hn hfit (by simpa using hkl) hd key
theorem g_putI {c ci k i : Nat} {ks : List Nat} {x : Int} (hd : decode cc pc = .ok (.putfield i, 3)) (hp : pc + 3 = pc') (hf : pl own i ci k .int) (hs : shp[c]? = some (0, ci, ks)) (hk : ks[k]? = some 0) (hr : inI x)
    (kt : ∀ M' : Mm, M' = mu M c k x → G X rm own cc nL ret Q pc' L S M') : G X rm own cc nL ret Q pc L (vi x :: vr X c :: S) M := g_putf (kk := 0) hd hp hf hs hk hr rfl rfl (kt _ rfl)
theorem g_putZ {c ci k i : Nat} {ks : List Nat} {x : Int} (hd : decode cc pc = .ok (.putfield i, 3)) (hp : pc + 3 = pc') (hf : pl own i ci k .boolean) (hs : shp[c]? = some (0, ci, ks)) (hk : ks[k]? = some 0) (hr : x = 0 ∨ x = 1)
    (kt : ∀ M' : Mm, M' = mu M c k x → G X rm own cc nL ret Q pc' L S M') : G X rm own cc nL ret Q pc L (vi x :: vr X c :: S) M := g_putf (kk := 0) hd hp hf hs hk (by rcases hr with rfl | rfl <;> (show inI _; unfold inI; omega)) (by rcases hr with rfl | rfl <;> rfl) (by rcases hr with rfl | rfl <;> rfl) (kt _ rfl)
theorem g_putL {c ci k i : Nat} {ks : List Nat} {x : Int} (hd : decode cc pc = .ok (.putfield i, 3)) (hp : pc + 3 = pc') (hf : pl own i ci k .long) (hs : shp[c]? = some (0, ci, ks)) (hk : ks[k]? = some 1) (hr : inL x)
    (kt : ∀ M' : Mm, M' = mu M c k x → G X rm own cc nL ret Q pc' L S M') : G X rm own cc nL ret Q pc L (vl x :: vr X c :: S) M := g_putf (kk := 1) hd hp hf hs hk hr rfl rfl (kt _ rfl)
theorem g_putD {c ci k i b : Nat} {ks : List Nat} (ty : FieldType) (hd : decode cc pc = .ok (.putfield i, 3)) (hp : pc + 3 = pc') (hf : pl own i ci k ty) (hs : shp[c]? = some (0, ci, ks)) (hk : ks[k]? = some 2) (hn : narrow ty (vr X b) = vr X b) (hfit : fits ty (vr X b) = true)
    (kt : ∀ M' : Mm, M' = mu M c k (b : Int) → G X rm own cc nL ret Q pc' L S M') : G X rm own cc nL ret Q pc L (vr X b :: vr X c :: S) M := g_putf (kk := 2) (x := (b : Int)) hd hp hf hs hk trivial hn hfit (kt _ rfl)
theorem ix32 {i : Int} {n : Nat} (h0 : 0 ≤ i) (h1 : i < n) (hn : n ≤ 300000) : vp_in (Int32.ofInt i) n ∧ (Int32.ofInt i).toNatClampNeg = i.toNat := by
  have hI : inI i := ⟨by omega, by omega⟩
  refine ⟨vp_in_iff.mpr (by rw [t32 hI]; exact ⟨h0, h1⟩), ?_⟩
  show (Int32.ofInt i).toInt.toNat = i.toNat
  rw [t32 hI]
theorem upd_ms (m : Nat → Int) (k : Nat) (x : Int) : upd (fun j => Int32.ofInt (m j)) k (Int32.ofInt x) = fun j => Int32.ofInt (ms m k x j) := by
  funext j
  simp only [upd, ms]
  split <;> rfl
theorem updL_ms (m : Nat → Int) (k : Nat) (x : Int) : vp_updL (fun j => Int64.ofInt (m j)) k (Int64.ofInt x) = fun j => Int64.ofInt (ms m k x j) := by
  funext j
  simp only [vp_updL, ms]
  split <;> rfl
theorem g_iald {c n : Nat} {r : List Nat} {i : Int} (hd : decode cc pc = .ok (.iaload, 1)) (hp : pc + 1 = pc') (hs : shp[c]? = some (1, n, r)) (h0 : 0 ≤ i) (h1 : i < n)
    (kt : ∀ z : Int, z = M c i.toNat → inI z → G X rm own cc nL ret Q pc' L (vi z :: S) M) : G X rm own cc nL ret Q pc L (vi i :: vr X c :: S) M := by
  subst hp
  intro hR p e R s m args below meth c0 H locs ls hF hW hP hS hl
  have hr := hR c i.toNat
  rw [kd_1 hs] at hr
  have k' := kt _ rfl hr hR p e R s m args below meth c0 H locs ls hF hW hP hS hl
  obtain ⟨h2, h3⟩ := ix32 h0 h1 (shp_sm hs)
  refine va_iald hF.1 hF.2.1 hW.1 hP c 0 (wd_at hs) rfl h2 hd ?_
  rw [h3]
  exact k'
theorem g_zald {c n : Nat} {r : List Nat} {i : Int} (hd : decode cc pc = .ok (.baload, 1)) (hp : pc + 1 = pc') (hs : shp[c]? = some (3, n, r)) (h0 : 0 ≤ i) (h1 : i < n)
    (kt : ∀ z : Int, z = M c i.toNat → inI z → G X rm own cc nL ret Q pc' L (vi z :: S) M) : G X rm own cc nL ret Q pc L (vi i :: vr X c :: S) M := by
  subst hp
  intro hR p e R s m args below meth c0 H locs ls hF hW hP hS hl
  have hr := hR c i.toNat
  rw [kd_3 hs] at hr
  have k' := kt _ rfl hr hR p e R s m args below meth c0 H locs ls hF hW hP hS hl
  obtain ⟨h2, h3⟩ := ix32 h0 h1 (shp_sm hs)
  refine va_zald hF.1 hF.2.1 hW.1 hP c 2 (wd_at hs) rfl h2 hd ?_
  rw [h3]
  exact k'
theorem g_lald {c n : Nat} {r : List Nat} {i : Int} (hd : decode cc pc = .ok (.laload, 1)) (hp : pc + 1 = pc') (hs : shp[c]? = some (2, n, r)) (h0 : 0 ≤ i) (h1 : i < n)
    (kt : ∀ z : Int, z = M c i.toNat → inL z → G X rm own cc nL ret Q pc' L (vl z :: S) M) : G X rm own cc nL ret Q pc L (vi i :: vr X c :: S) M := by
  subst hp
  intro hR p e R s m args below meth c0 H locs ls hF hW hP hS hl
  have hr := hR c i.toNat
  rw [kd_2 hs] at hr
  have k' := kt _ rfl hr hR p e R s m args below meth c0 H locs ls hF hW hP hS hl
  obtain ⟨h2, h3⟩ := ix32 h0 h1 (shp_sm hs)
  refine va_lald hF.1 hF.2.1 hW.1 hP c 1 (wd_at hs) rfl h2 hd ?_
  rw [h3]
  exact k'
theorem g_aald {c n t : Nat} {r : List Nat} {i : Int} {C : String} (hd : decode cc pc = .ok (.aaload, 1)) (hp : pc + 1 = pc') (hs : shp[c]? = some (t + 4, n, r)) (ht : ∀ Y : Cx, (tyl Y)[t + 3]? = some (Y.2.2.2.1 (t + 3), .object C)) (h0 : 0 ≤ i) (h1 : i < n)
    (kt : G X rm own cc nL ret Q pc' L (vr X (r.getD i.toNat 0) :: S) M) : G X rm own cc nL ret Q pc L (vi i :: vr X c :: S) M := by
  subst hp
  intro hR p e R s m args below meth c0 H locs ls hF hW hP hS hl
  have k' := kt hR p e R s m args below meth c0 H locs ls hF hW hP hS hl
  obtain ⟨h2, h3⟩ := ix32 h0 h1 (shp_sm hs)
  refine va_aldq hF.1 hF.2.1 hW.1 hP c (t + 3) (wd_at hs) (ht X) h2 hd ?_
  rw [h3]
  exact k'
theorem g_iast {c n : Nat} {r : List Nat} {i x : Int} (hd : decode cc pc = .ok (.iastore, 1)) (hp : pc + 1 = pc') (hs : shp[c]? = some (1, n, r)) (h0 : 0 ≤ i) (h1 : i < n) (hx : inI x)
    (kt : ∀ M' : Mm, M' = mu M c i.toNat x → G X rm own cc nL ret Q pc' L S M') : G X rm own cc nL ret Q pc L (vi x :: vi i :: vr X c :: S) M := by
  subst hp
  intro hR p e R s m args below meth c0 H locs ls hF hW hP hS hl
  obtain ⟨h2, h3⟩ := ix32 h0 h1 (shp_sm hs)
  have hR' : Rg (mu M c i.toNat x) := hR.up (by rw [kd_1 hs]; exact hx)
  refine va_iast hF.1 hF.2.1 hW.1 hP (wd_D hW.2.1 M) hS c 0 (wd_at hs) rfl h2 hd (fun H1 locs1 hP1 _ hS1 => ?_)
  rw [h3, upd_ms] at hP1
  have hP2 : va_P X.2.2.1 cls ((wd X M).set c (X.2.1 c, ce X (1, n, r) (ms (M c) i.toNat x))) H1 := hP1
  rw [wd_up hs] at hP2
  exact kt _ rfl hR' p e R s m args below meth c0 H1 locs1 ls hF hW hP2 hS1 hl
theorem g_zast {c n : Nat} {r : List Nat} {i x : Int} (hd : decode cc pc = .ok (.bastore, 1)) (hp : pc + 1 = pc') (hs : shp[c]? = some (3, n, r)) (h0 : 0 ≤ i) (h1 : i < n) (hx : x = 0 ∨ x = 1)
    (kt : ∀ M' : Mm, M' = mu M c i.toNat x → G X rm own cc nL ret Q pc' L S M') : G X rm own cc nL ret Q pc L (vi x :: vi i :: vr X c :: S) M := by
  subst hp
  intro hR p e R s m args below meth c0 H locs ls hF hW hP hS hl
  obtain ⟨h2, h3⟩ := ix32 h0 h1 (shp_sm hs)
  have hR' : Rg (mu M c i.toNat x) := hR.up (by rw [kd_3 hs]; show inI x; rcases hx with rfl | rfl <;> (unfold inI; omega))
  have hz : vp_nar .boolean (Int32.ofInt x) = Int32.ofInt x := by rcases hx with rfl | rfl <;> rfl
  refine va_zast hF.1 hF.2.1 hW.1 hP (wd_D hW.2.1 M) hS c 2 (wd_at hs) rfl h2 hd (fun H1 locs1 hP1 _ hS1 => ?_)
  rw [h3, hz, upd_ms] at hP1
  have hP2 : va_P X.2.2.1 cls ((wd X M).set c (X.2.1 c, ce X (3, n, r) (ms (M c) i.toNat x))) H1 := hP1
  rw [wd_up hs] at hP2
  exact kt _ rfl hR' p e R s m args below meth c0 H1 locs1 ls hF hW hP2 hS1 hl
theorem g_last {c n : Nat} {r : List Nat} {i x : Int} (hd : decode cc pc = .ok (.lastore, 1)) (hp : pc + 1 = pc') (hs : shp[c]? = some (2, n, r)) (h0 : 0 ≤ i) (h1 : i < n) (hx : inL x)
    (kt : ∀ M' : Mm, M' = mu M c i.toNat x → G X rm own cc nL ret Q pc' L S M') : G X rm own cc nL ret Q pc L (vl x :: vi i :: vr X c :: S) M := by
  subst hp
  intro hR p e R s m args below meth c0 H locs ls hF hW hP hS hl
  obtain ⟨h2, h3⟩ := ix32 h0 h1 (shp_sm hs)
  have hR' : Rg (mu M c i.toNat x) := hR.up (by rw [kd_2 hs]; exact hx)
  refine va_last hF.1 hF.2.1 hW.1 hP (wd_D hW.2.1 M) hS c 1 (wd_at hs) rfl h2 hd (fun H1 locs1 hP1 _ hS1 => ?_)
  rw [h3, updL_ms] at hP1
  have hP2 : va_P X.2.2.1 cls ((wd X M).set c (X.2.1 c, ce X (2, n, r) (ms (M c) i.toNat x))) H1 := hP1
  rw [wd_up hs] at hP2
  exact kt _ rfl hR' p e R s m args below meth c0 H1 locs1 ls hF hW hP2 hS1 hl
/-- how a method is linked: number of parameters -/
def lm (own : String) (i : Nat) (y : MethodName) (n : Nat) : Prop := (y.cls ≠ "java/lang/invoke/MethodHandle" ∧ y.cls ≠ "java/lang/invoke/VarHandle" ∧ (parseMethodDescriptor y.desc).map (fun d => d.parameters.length) = some n) ∧ Cond.initialized y.cls ∈ tb ∧ (Cond.methodLink own i y ∈ tb ∨ ∃ host, Cond.methodLinkNest own i y host ∈ nb)
def lmV (own : String) (i : Nat) (y : MethodName) (n : Nat) : Prop := lm own i y n ∧ Cond.instanceMethod y ∈ tb ∧ Cond.selects y.cls y y ∈ tb
def lmS (own : String) (i : Nat) (y : MethodName) (n : Nat) : Prop := lm own i y n ∧ Cond.static y ∈ tb
def isO (b : Nat) (C : String) : Prop := ∃ (ci : Nat) (ks : List Nat) (q : vw_C), shp[b]? = some (0, ci, ks) ∧ cls[ci]? = some q ∧ q.1 = C
theorem yw_good {y : MethodName} {cc : ByteArray} {nL : Nat} {ret : Option FieldType} (h : Cond.code y cc nL ret ∈ tb) : GoodIn tb (yw y cc nL ret) := by
  intro w hw
  rcases List.mem_cons.mp hw with rfl | hw
  · exact ⟨h, tb_gd _ h⟩
  · exact ⟨hw, tb_gd _ hw⟩
theorem Wo.step {X : Cx} {s U : State} {locs : List Loc} (h : Wo X s) (hW : s.WarmedH U.vm) (hS : va_S (ax X) s.heap U.heap locs) : Wo X U := ⟨va_K.moved hW.alike h.1, h.2.1, fun w hw => nb_warm hw hW (h.2.2.1 w hw), Str.step h.2.2.2 hW hS⟩
theorem pc_blind (X : Cx) (As : List Value) (M : Mm) : FrameBlind (va_Pc As (fun U => Wo X U ∧ va_P X.2.2.1 cls (wd X M) U.heap)) := by
  intro a U g mk q
  obtain ⟨q0, q1, q2⟩ := q
  exact ⟨q0, ⟨va_K.moved (u := U) (U := U.calling g mk a) (Vm.Alike.refl U.vm) q1.1, q1.2.1, fun w hw => va_Nw.same (u := U) (U := U.calling g mk a) (nb_on hw) rfl (q1.2.2.1 w hw), Str.calling q1.2.2.2⟩, q2⟩
theorem g_run {p : Program} {e : Env} {R : Room} {s : State} {m : MethodId} {args : Array Value} {below : List Frame} {meth : Method} {c : Code} {H : Heap} {locs : List Loc} {ls : Array Slot} {st0 rest : List Value} {a : Array Value} {Q' : Option Value → Mm → Prop} {Qf : State → Prop}
    (hr : va_Run p X.1 e R s m args below meth c H locs 0 0 0 0 (F0 m pc ls st0) rest (Qm X Q' a) (ax X)) (hS : va_S (ax X) s.heap H locs)
    (kk : ∀ (v : Option Value) (M' : Mm) (H1 : Heap) (locs1 : List Loc), Q' v M' → Rg M' → va_P X.2.2.1 cls (wd X M') H1 → va_S (ax X) s.heap H1 locs1 → W p X.1 e R s m args below meth c H1 locs1 0 0 Qf (F0 m (pc + 3) ls (v.toList ++ rest))) :
    W p X.1 e R s m args below meth c H locs 0 0 Qf (F0 m pc ls st0) := by
  intro T hT X0
  obtain ⟨v, st₀, t, T', L', h0, X', hL, e1, e2, ⟨v', M', hv, hq, hRg, hP', hz, hk⟩, st⟩ := hr T hT X0
  cases hv
  rw [h0] at hz hk
  obtain ⟨t2, a1, b1⟩ := kk v M' T'.heap (locs ++ L') hq hRg (by rw [e1]; exact hP')
    ⟨Nat.le_trans hS.1 (by rw [e1]; exact hz), fun q h1 h2 => by rw [e1, hk q (Nat.lt_of_lt_of_le h1 hS.1) h2]; exact hS.2.1 q h1 h2, fun q hq => by
      rcases List.mem_append.mp hq with h | h
      · exact hS.2.2 q h
      · exact hL q h⟩ T' rfl X'
  exact ⟨t2, st t2 a1, b1⟩
theorem rmo_ok {d rm nL : Nat} (h : d + 1 ≤ rm) (hn : nL ≤ 45) : (rmo d).frames + 1 ≤ (rmo rm).frames ∧ 8 + (nL + 11) + (rmo d).locals ≤ (rmo rm).locals := by
  refine ⟨h, ?_⟩
  show 8 + (nL + 11) + 64 * d ≤ 64 * rm
  omega
theorem g_callV {i n d nL' : Nat} {y : MethodName} {cc' : ByteArray} {ret' : Option FieldType} {As St : List Value} {b : Nat} {Q' : Option Value → Mm → Prop} (hd : decode cc pc = .ok (.invokevirtual i, 3)) (hp : pc + 3 = pc') (hm : lmV own i y n) (hcode : Cond.code y cc' nL' ret' ∈ tb) (hc : Con X d y cc' nL' ret' (vr X b :: As) M Q') (hn : As.length = n) (ho : isO b y.cls) (hr : d + 1 ≤ rm) (hnL : nL' ≤ 45) (hst : St = As.reverse ++ vr X b :: S) (hw : (S.map fun v => v.category).sum ≤ 8)
    (kk : ∀ (v : Option Value) (M' : Mm), Q' v M' → G X rm own cc nL ret Q pc' L (v.toList ++ S) M') : G X rm own cc nL ret Q pc L St M := by
  subst hp; subst hst
  intro hR p e R s m args below meth c0 H locs ls hF hW hP hS hl
  obtain ⟨⟨hdd, hini, hlk⟩, hins, hsel⟩ := hm
  obtain ⟨ci, ks, q, ho1, ho2, ho3⟩ := ho
  obtain ⟨hx, hb, hret, hml, hown, hts, hlo, hRm⟩ := id hF
  have hM := hc hR
  have hroom : (rmo d).frames + 1 ≤ R.frames ∧ 8 + (nL' + 11) + (rmo d).locals ≤ R.locals := by rw [hRm]; exact rmo_ok hr hnL
  have hpre : PreV s H y.cls (X.2.1 b) (va_Pc (vr X b :: As) (fun U => Wo X U ∧ va_P X.2.2.1 cls (wd X M) U.heap)) As :=
    ⟨pc_blind X _ M, by rw [← ho3]; exact va_recv hW.1 hP ho2 (wd_at ho1), fun U hU hWU => ⟨rfl, hW.step hWU (by rw [hU]; exact hS), by rw [hU]; exact hP⟩⟩
  refine g_run (Q' := Q') (rest := S) (a := (Value.ref (X.2.1 b) :: As).toArray) ?_ hS (fun v M' H1 locs1 hq hRg hP1 hS1 => kk v M' hq hRg p e R s m args below meth c0 H1 locs1 ls hF hW hP1 hS1 hl)
  rcases hlk with h | ⟨host, h⟩
  · exact va_runV (C := y.cls) (n := n) ⟨hx, hb, hml, hown, hts⟩ hM ⟨callB_of n hts (yw_good hcode) rfl rfl rfl (hts _ hini) (hts _ h) hdd hroom, hts _ hins, hts _ hsel⟩ hpre rfl hn hl.1 rfl (lv_room hw) hd ⟨Nat.zero_le _, Nat.zero_le _⟩
  · exact va_runVN (C := y.cls) (host := host) (n := n) ⟨hx, hb, hml, hown, hts⟩ hM ⟨va_cnB n hts (yw_good hcode) rfl rfl rfl (hW.2.2.1 _ h) (hts _ hini) hdd hroom, hts _ hins, hts _ hsel⟩ hpre rfl hn hl.1 rfl (lv_room hw) hd ⟨Nat.zero_le _, Nat.zero_le _⟩
theorem g_callS {i n d nL' : Nat} {y : MethodName} {cc' : ByteArray} {ret' : Option FieldType} {As St : List Value} {Q' : Option Value → Mm → Prop} (hd : decode cc pc = .ok (.invokestatic i, 3)) (hp : pc + 3 = pc') (hm : lmS own i y n) (hcode : Cond.code y cc' nL' ret' ∈ tb) (hc : Con X d y cc' nL' ret' As M Q') (hn : As.length = n) (hr : d + 1 ≤ rm) (hnL : nL' ≤ 45) (hst : St = As.reverse ++ S) (hw : (S.map fun v => v.category).sum ≤ 8)
    (kk : ∀ (v : Option Value) (M' : Mm), Q' v M' → G X rm own cc nL ret Q pc' L (v.toList ++ S) M') : G X rm own cc nL ret Q pc L St M := by
  subst hp; subst hst
  intro hR p e R s m args below meth c0 H locs ls hF hW hP hS hl
  obtain ⟨⟨hdd, hini, hlk⟩, hsta⟩ := hm
  obtain ⟨hx, hb, hret, hml, hown, hts, hlo, hRm⟩ := id hF
  have hM := hc hR
  have hroom : (rmo d).frames + 1 ≤ R.frames ∧ 8 + (nL' + 11) + (rmo d).locals ≤ R.locals := by rw [hRm]; exact rmo_ok hr hnL
  have hpre : PreS s H (va_Pc As (fun U => Wo X U ∧ va_P X.2.2.1 cls (wd X M) U.heap)) As :=
    ⟨pc_blind X _ M, fun U hU hWU => ⟨rfl, hW.step hWU (by rw [hU]; exact hS), by rw [hU]; exact hP⟩⟩
  refine g_run (Q' := Q') (rest := S) (a := As.toArray) ?_ hS (fun v M' H1 locs1 hq hRg hP1 hS1 => kk v M' hq hRg p e R s m args below meth c0 H1 locs1 ls hF hW hP1 hS1 hl)
  rcases hlk with h | ⟨host, h⟩
  · exact va_runS (n := n) ⟨hx, hb, hml, hown, hts⟩ hM ⟨callB_of n hts (yw_good hcode) rfl rfl rfl (hts _ hini) (hts _ h) hdd hroom, hts _ hsta⟩ hpre rfl hn hl.1 rfl (lv_room hw) hd ⟨Nat.zero_le _, Nat.zero_le _⟩
  · exact va_runSN (host := host) (n := n) ⟨hx, hb, hml, hown, hts⟩ hM ⟨va_cnB n hts (yw_good hcode) rfl rfl rfl (hW.2.2.1 _ h) (hts _ hini) hdd hroom, hts _ hsta, trivial⟩ hpre rfl hn hl.1 rfl (lv_room hw) hd ⟨Nat.zero_le _, Nat.zero_le _⟩
theorem g_callVi {i n d nL' : Nat} {y : MethodName} {cc' : ByteArray} {ret' : Option FieldType} {As St : List Value} {b : Nat} {post : Int → Mm → Prop} (hd : decode cc pc = .ok (.invokevirtual i, 3)) (hp : pc + 3 = pc') (hm : lmV own i y n) (hcode : Cond.code y cc' nL' ret' ∈ tb) (hc : Con X d y cc' nL' ret' (vr X b :: As) M (Qi post)) (hn : As.length = n) (ho : isO b y.cls) (hr : d + 1 ≤ rm) (hnL : nL' ≤ 45) (hst : St = As.reverse ++ vr X b :: S) (hw : (S.map fun v => v.category).sum ≤ 8)
    (kk : ∀ (x : Int) (M' : Mm), post x M' → G X rm own cc nL ret Q pc' L (vi x :: S) M') : G X rm own cc nL ret Q pc L St M := g_callV hd hp hm hcode hc hn ho hr hnL hst hw (fun v M' ⟨x, hv, hq⟩ => by subst hv; exact kk x M' hq)
theorem g_callVip {i n d nL' : Nat} {y : MethodName} {cc' : ByteArray} {ret' : Option FieldType} {As St : List Value} {b : Nat} {post : Int → Prop} (hd : decode cc pc = .ok (.invokevirtual i, 3)) (hp : pc + 3 = pc') (hm : lmV own i y n) (hcode : Cond.code y cc' nL' ret' ∈ tb) (hc : Con X d y cc' nL' ret' (vr X b :: As) M (Qi (fun r M1 => M1 = M ∧ post r))) (hn : As.length = n) (ho : isO b y.cls) (hr : d + 1 ≤ rm) (hnL : nL' ≤ 45) (hst : St = As.reverse ++ vr X b :: S) (hw : (S.map fun v => v.category).sum ≤ 8)
    (kk : ∀ (x : Int), post x → G X rm own cc nL ret Q pc' L (vi x :: S) M) : G X rm own cc nL ret Q pc L St M := g_callV hd hp hm hcode hc hn ho hr hnL hst hw (fun v M' ⟨x, hv, hM, hq⟩ => by subst hv; subst hM; exact kk x hq)
theorem g_callVl {i n d nL' : Nat} {y : MethodName} {cc' : ByteArray} {ret' : Option FieldType} {As St : List Value} {b : Nat} {post : Int → Mm → Prop} (hd : decode cc pc = .ok (.invokevirtual i, 3)) (hp : pc + 3 = pc') (hm : lmV own i y n) (hcode : Cond.code y cc' nL' ret' ∈ tb) (hc : Con X d y cc' nL' ret' (vr X b :: As) M (Ql post)) (hn : As.length = n) (ho : isO b y.cls) (hr : d + 1 ≤ rm) (hnL : nL' ≤ 45) (hst : St = As.reverse ++ vr X b :: S) (hw : (S.map fun v => v.category).sum ≤ 8)
    (kk : ∀ (x : Int) (M' : Mm), post x M' → G X rm own cc nL ret Q pc' L (vl x :: S) M') : G X rm own cc nL ret Q pc L St M := g_callV hd hp hm hcode hc hn ho hr hnL hst hw (fun v M' ⟨x, hv, hq⟩ => by subst hv; exact kk x M' hq)
theorem g_callVlp {i n d nL' : Nat} {y : MethodName} {cc' : ByteArray} {ret' : Option FieldType} {As St : List Value} {b : Nat} {post : Int → Prop} (hd : decode cc pc = .ok (.invokevirtual i, 3)) (hp : pc + 3 = pc') (hm : lmV own i y n) (hcode : Cond.code y cc' nL' ret' ∈ tb) (hc : Con X d y cc' nL' ret' (vr X b :: As) M (Ql (fun r M1 => M1 = M ∧ post r))) (hn : As.length = n) (ho : isO b y.cls) (hr : d + 1 ≤ rm) (hnL : nL' ≤ 45) (hst : St = As.reverse ++ vr X b :: S) (hw : (S.map fun v => v.category).sum ≤ 8)
    (kk : ∀ (x : Int), post x → G X rm own cc nL ret Q pc' L (vl x :: S) M) : G X rm own cc nL ret Q pc L St M := g_callV hd hp hm hcode hc hn ho hr hnL hst hw (fun v M' ⟨x, hv, hM, hq⟩ => by subst hv; subst hM; exact kk x hq)
theorem g_callVv {i n d nL' : Nat} {y : MethodName} {cc' : ByteArray} {ret' : Option FieldType} {As St : List Value} {b : Nat} {post : Mm → Prop} (hd : decode cc pc = .ok (.invokevirtual i, 3)) (hp : pc + 3 = pc') (hm : lmV own i y n) (hcode : Cond.code y cc' nL' ret' ∈ tb) (hc : Con X d y cc' nL' ret' (vr X b :: As) M (Qv post)) (hn : As.length = n) (ho : isO b y.cls) (hr : d + 1 ≤ rm) (hnL : nL' ≤ 45) (hst : St = As.reverse ++ vr X b :: S) (hw : (S.map fun v => v.category).sum ≤ 8)
    (kk : ∀ (M' : Mm), post M' → G X rm own cc nL ret Q pc' L S M') : G X rm own cc nL ret Q pc L St M := g_callV hd hp hm hcode hc hn ho hr hnL hst hw (fun v M' ⟨hv, hq⟩ => by subst hv; exact kk M' hq)
theorem g_callSi {i n d nL' : Nat} {y : MethodName} {cc' : ByteArray} {ret' : Option FieldType} {As St : List Value} {post : Int → Mm → Prop} (hd : decode cc pc = .ok (.invokestatic i, 3)) (hp : pc + 3 = pc') (hm : lmS own i y n) (hcode : Cond.code y cc' nL' ret' ∈ tb) (hc : Con X d y cc' nL' ret' As M (Qi post)) (hn : As.length = n) (hr : d + 1 ≤ rm) (hnL : nL' ≤ 45) (hst : St = As.reverse ++ S) (hw : (S.map fun v => v.category).sum ≤ 8)
    (kk : ∀ (x : Int) (M' : Mm), post x M' → G X rm own cc nL ret Q pc' L (vi x :: S) M') : G X rm own cc nL ret Q pc L St M := g_callS hd hp hm hcode hc hn hr hnL hst hw (fun v M' ⟨x, hv, hq⟩ => by subst hv; exact kk x M' hq)
theorem g_callSip {i n d nL' : Nat} {y : MethodName} {cc' : ByteArray} {ret' : Option FieldType} {As St : List Value} {post : Int → Prop} (hd : decode cc pc = .ok (.invokestatic i, 3)) (hp : pc + 3 = pc') (hm : lmS own i y n) (hcode : Cond.code y cc' nL' ret' ∈ tb) (hc : Con X d y cc' nL' ret' As M (Qi (fun r M1 => M1 = M ∧ post r))) (hn : As.length = n) (hr : d + 1 ≤ rm) (hnL : nL' ≤ 45) (hst : St = As.reverse ++ S) (hw : (S.map fun v => v.category).sum ≤ 8)
    (kk : ∀ (x : Int), post x → G X rm own cc nL ret Q pc' L (vi x :: S) M) : G X rm own cc nL ret Q pc L St M := g_callS hd hp hm hcode hc hn hr hnL hst hw (fun v M' ⟨x, hv, hM, hq⟩ => by subst hv; subst hM; exact kk x hq)
theorem g_callSl {i n d nL' : Nat} {y : MethodName} {cc' : ByteArray} {ret' : Option FieldType} {As St : List Value} {post : Int → Mm → Prop} (hd : decode cc pc = .ok (.invokestatic i, 3)) (hp : pc + 3 = pc') (hm : lmS own i y n) (hcode : Cond.code y cc' nL' ret' ∈ tb) (hc : Con X d y cc' nL' ret' As M (Ql post)) (hn : As.length = n) (hr : d + 1 ≤ rm) (hnL : nL' ≤ 45) (hst : St = As.reverse ++ S) (hw : (S.map fun v => v.category).sum ≤ 8)
    (kk : ∀ (x : Int) (M' : Mm), post x M' → G X rm own cc nL ret Q pc' L (vl x :: S) M') : G X rm own cc nL ret Q pc L St M := g_callS hd hp hm hcode hc hn hr hnL hst hw (fun v M' ⟨x, hv, hq⟩ => by subst hv; exact kk x M' hq)
theorem g_callSlp {i n d nL' : Nat} {y : MethodName} {cc' : ByteArray} {ret' : Option FieldType} {As St : List Value} {post : Int → Prop} (hd : decode cc pc = .ok (.invokestatic i, 3)) (hp : pc + 3 = pc') (hm : lmS own i y n) (hcode : Cond.code y cc' nL' ret' ∈ tb) (hc : Con X d y cc' nL' ret' As M (Ql (fun r M1 => M1 = M ∧ post r))) (hn : As.length = n) (hr : d + 1 ≤ rm) (hnL : nL' ≤ 45) (hst : St = As.reverse ++ S) (hw : (S.map fun v => v.category).sum ≤ 8)
    (kk : ∀ (x : Int), post x → G X rm own cc nL ret Q pc' L (vl x :: S) M) : G X rm own cc nL ret Q pc L St M := g_callS hd hp hm hcode hc hn hr hnL hst hw (fun v M' ⟨x, hv, hM, hq⟩ => by subst hv; subst hM; exact kk x hq)
theorem g_callSv {i n d nL' : Nat} {y : MethodName} {cc' : ByteArray} {ret' : Option FieldType} {As St : List Value} {post : Mm → Prop} (hd : decode cc pc = .ok (.invokestatic i, 3)) (hp : pc + 3 = pc') (hm : lmS own i y n) (hcode : Cond.code y cc' nL' ret' ∈ tb) (hc : Con X d y cc' nL' ret' As M (Qv post)) (hn : As.length = n) (hr : d + 1 ≤ rm) (hnL : nL' ≤ 45) (hst : St = As.reverse ++ S) (hw : (S.map fun v => v.category).sum ≤ 8)
    (kk : ∀ (M' : Mm), post M' → G X rm own cc nL ret Q pc' L S M') : G X rm own cc nL ret Q pc L St M := g_callS hd hp hm hcode hc hn hr hnL hst hw (fun v M' ⟨hv, hq⟩ => by subst hv; exact kk M' hq)
end GF
section GM
variable {X : Cx} {rm : Nat} {own : String} {cc : ByteArray} {nL : Nat} {ret : Option FieldType} {Q : Option Value → Mm → Prop} {pc pc' : Nat} {L : List (Nat × Value)} {S : List Value} {M : Mm}
theorem g_mmin {i : Nat} {x y : Int} (hd : decode cc pc = .ok (.invokestatic i, 3)) (hp : pc + 3 = pc') (hlk : Cond.methodLink own i Lib.Math.min.name ∈ tb) (hst : Cond.static Lib.Math.min.name ∈ tb) (hin : Cond.initialized "java/lang/Math" ∈ tb) (hco : Cond.code Lib.Math.min.name Lib.Math.min.code 2 (some .int) ∈ tb) (hr : 1 ≤ rm) (hw : (S.map fun v => v.category).sum ≤ 8) (hx : inI x) (hy : inI y)
    (kt : G X rm own cc nL ret Q pc' L (vi (if y < x then y else x) :: S) M) : G X rm own cc nL ret Q pc L (vi y :: vi x :: S) M := by
  subst hp
  intro hR p e R s m args below meth c0 H locs ls hF hW hP hS hl
  obtain ⟨hx0, hb, hret, hml, hown, hts, hlo, hRm⟩ := id hF
  have k' := kt hR p e R s m args below meth c0 H locs ls hF hW hP hS hl
  refine va_mmin hx0 hb (by rw [hml]; exact hl.1.symm) hown (hts _ hlk) (hts _ hst) (hts _ hin) (hts _ hco) (by rw [hRm]; exact hr) (by rw [hRm]; show _ ≤ 64 * rm; omega) (Nat.zero_le _) (Nat.zero_le _) hd ?_
  rw [show (if Int32.ofInt y < Int32.ofInt x then Int32.ofInt y else Int32.ofInt x) = Int32.ofInt (if y < x then y else x) from by
    by_cases h : y < x
    · rw [if_pos h, if_pos ((c32_lt' hy hx).mpr h)]
    · rw [if_neg h, if_neg (fun z => h ((c32_lt' hy hx).mp z))]]
  exact k'
theorem g_mmax {i : Nat} {x y : Int} (hd : decode cc pc = .ok (.invokestatic i, 3)) (hp : pc + 3 = pc') (hlk : Cond.methodLink own i Lib.Math.max.name ∈ tb) (hst : Cond.static Lib.Math.max.name ∈ tb) (hin : Cond.initialized "java/lang/Math" ∈ tb) (hco : Cond.code Lib.Math.max.name Lib.Math.max.code 2 (some .int) ∈ tb) (hr : 1 ≤ rm) (hw : (S.map fun v => v.category).sum ≤ 8) (hx : inI x) (hy : inI y)
    (kt : G X rm own cc nL ret Q pc' L (vi (if x < y then y else x) :: S) M) : G X rm own cc nL ret Q pc L (vi y :: vi x :: S) M := by
  subst hp
  intro hR p e R s m args below meth c0 H locs ls hF hW hP hS hl
  obtain ⟨hx0, hb, hret, hml, hown, hts, hlo, hRm⟩ := id hF
  have k' := kt hR p e R s m args below meth c0 H locs ls hF hW hP hS hl
  refine va_mmax hx0 hb (by rw [hml]; exact hl.1.symm) hown (hts _ hlk) (hts _ hst) (hts _ hin) (hts _ hco) (by rw [hRm]; exact hr) (by rw [hRm]; show _ ≤ 64 * rm; omega) (Nat.zero_le _) (Nat.zero_le _) hd ?_
  rw [show (if Int32.ofInt x < Int32.ofInt y then Int32.ofInt y else Int32.ofInt x) = Int32.ofInt (if x < y then y else x) from by
    by_cases h : x < y
    · rw [if_pos h, if_pos ((c32_lt' hx hy).mpr h)]
    · rw [if_neg h, if_neg (fun z => h ((c32_lt' hx hy).mp z))]]
  exact k'
theorem g_mabsL {i : Nat} {x : Int} (hd : decode cc pc = .ok (.invokestatic i, 3)) (hp : pc + 3 = pc') (hlk : Cond.methodLink own i Lib.MathLoose.abs_long.x ∈ tb) (hst : Cond.static Lib.MathLoose.abs_long.x ∈ tb) (hin : Cond.initialized "java/lang/Math" ∈ tb) (hco : Cond.code Lib.MathLoose.abs_long.x Lib.MathLoose.abs_long.code 2 (some .long) ∈ tb) (hr : 1 ≤ rm) (hw : (S.map fun v => v.category).sum ≤ 8) (hx : inL x)
    (kt : G X rm own cc nL ret Q pc' L (vl (if 0 < x then x else -x) :: S) M) : G X rm own cc nL ret Q pc L (vl x :: S) M := by
  subst hp
  intro hR p e R s m args below meth c0 H locs ls hF hW hP hS hl
  obtain ⟨hx0, hb, hret, hml, hown, hts, hlo, hRm⟩ := id hF
  have k' := kt hR p e R s m args below meth c0 H locs ls hF hW hP hS hl
  refine va_mabs_long hx0 hb (by rw [hml]; exact hl.1.symm) hown (hts _ hlk) (hts _ hst) (hts _ hin) (hts _ hco) (by rw [hRm]; exact hr) (by rw [hRm]; show _ ≤ 64 * rm; omega) (Nat.zero_le _) (Nat.zero_le _) hd ?_
  have h0 : inL 0 := by unfold inL; omega
  rw [show (if 0 < Int64.ofInt x then Int64.ofInt x else -Int64.ofInt x) = Int64.ofInt (if 0 < x then x else -x) from by
    by_cases h : 0 < x
    · have h' : (0 : Int64) < Int64.ofInt x := (c64_lt' h0 hx).mpr h
      rw [if_pos h, if_pos h']
    · have h' : ¬ (0 : Int64) < Int64.ofInt x := fun z => h ((c64_lt' h0 hx).mp z)
      rw [if_neg h, if_neg h', Int64.ofInt_neg]]
  exact k'
theorem nfw : nativeFrameWords "java/lang/System" "arraycopy" 5 + 11 ≤ 40 := by decide +kernel
def mcp (M : Mm) (c0 sp c dp n : Nat) : Mm := fun c' => if c' = c then (fun j => if dp ≤ j ∧ j < dp + n then M c0 (sp + (j - dp)) else M c j) else M c'
theorem ix32c {n : Nat} (hn : n ≤ 300000) : ¬ Int32.ofInt (n : Int) < 0 ∧ (Int32.ofInt (n : Int)).toNatClampNeg = n := by
  have hI : inI (n : Int) := ⟨by omega, by omega⟩
  refine ⟨fun h => ?_, ?_⟩
  · have := (c32_lt0 hI).mp h; omega
  · show (Int32.ofInt (n : Int)).toInt.toNat = n
    rw [t32 hI]
    rfl
theorem g_copyI {i c0 c n0 n1 sp dp n : Nat} {r0 r1 : List Nat} (hd : decode cc pc = .ok (.invokestatic i, 3)) (hp : pc + 3 = pc') (hlk : Cond.methodLink own i arraycopyName ∈ tb) (hna : Cond.native arraycopyName ∈ tb) (hst : Cond.static arraycopyName ∈ tb) (hin : Cond.initialized "java/lang/System" ∈ tb) (hs0 : shp[c0]? = some (1, n0, r0)) (hs1 : shp[c]? = some (1, n1, r1)) (h4 : sp + n ≤ n0) (h5 : dp + n ≤ n1) (hr : 1 ≤ rm) (hw : (S.map fun v => v.category).sum ≤ 8)
    (kt : ∀ M' : Mm, M' = mcp M c0 sp c dp n → G X rm own cc nL ret Q pc' L S M') : G X rm own cc nL ret Q pc L (vi (n : Int) :: vi (dp : Int) :: vr X c :: vi (sp : Int) :: vr X c0 :: S) M := by
  subst hp
  intro hR p e R s m args below meth cC H locs ls hF hW hP hS hl
  obtain ⟨hx0, hb, hret, hml, hown, hts, hlo, hRm⟩ := id hF
  have z0 := shp_sm hs0
  have z1 := shp_sm hs1
  obtain ⟨a1, a2⟩ := ix32c (n := sp) (by omega)
  obtain ⟨b1, b2⟩ := ix32c (n := dp) (by omega)
  obtain ⟨d1, d2⟩ := ix32c (n := n) (by omega)
  have hR' : Rg (mcp M c0 sp c dp n) := by
    intro c' i'
    unfold mcp
    by_cases hc : c' = c
    · subst hc
      simp only [if_true]
      rw [kd_1 hs1]
      split
      · have := hR c0 (sp + (i' - dp)); rwa [kd_1 hs0] at this
      · have := hR c' i'; rwa [kd_1 hs1] at this
    · simpa [hc] using hR c' i'
  have hfr : 1 ≤ R.frames := by rw [hRm]; exact hr
  have hnw := nfw
  have hlc : (S.map fun v => v.category).sum + (nativeFrameWords "java/lang/System" "arraycopy" 5 + 11) ≤ R.locals := by
    rw [hRm]
    show _ ≤ 64 * rm
    omega
  refine va_copyi hx0 hb (by rw [hml]; exact hl.1.symm) hown (hts _ hlk) (hts _ hna) (hts _ hst) (hts _ hin) hW.1 hP (wd_D hW.2.1 M) hS c0 c 0 0 (ty := .int) (wd_at hs0) (wd_at hs1) rfl rfl rfl a1 b1 d1 (by rw [a2, d2]; exact h4) (by rw [b2, d2]; exact h5) (fun _ _ => rfl) hfr hlc hd (fun H1 locs1 hP1 _ hS1 => ?_)
  rw [a2, b2, d2] at hP1
  have hf : va_cpy (fun j => Int32.ofInt (M c0 j)) (fun j => Int32.ofInt (M c j)) sp dp n = fun j => Int32.ofInt (if dp ≤ j ∧ j < dp + n then M c0 (sp + (j - dp)) else M c j) := by
    funext j
    simp only [va_cpy]
    split <;> rfl
  rw [hf] at hP1
  have hP2 : va_P X.2.2.1 cls ((wd X M).set c (X.2.1 c, ce X (1, n1, r1) (fun j => if dp ≤ j ∧ j < dp + n then M c0 (sp + (j - dp)) else M c j))) H1 := hP1
  rw [wd_up hs1] at hP2
  exact kt _ rfl hR' p e R s m args below meth cC H1 locs1 ls hF hW hP2 hS1 hl
theorem g_copyL {i c0 c n0 n1 sp dp n : Nat} {r0 r1 : List Nat} (hd : decode cc pc = .ok (.invokestatic i, 3)) (hp : pc + 3 = pc') (hlk : Cond.methodLink own i arraycopyName ∈ tb) (hna : Cond.native arraycopyName ∈ tb) (hst : Cond.static arraycopyName ∈ tb) (hin : Cond.initialized "java/lang/System" ∈ tb) (hs0 : shp[c0]? = some (2, n0, r0)) (hs1 : shp[c]? = some (2, n1, r1)) (h4 : sp + n ≤ n0) (h5 : dp + n ≤ n1) (hr : 1 ≤ rm) (hw : (S.map fun v => v.category).sum ≤ 8)
    (kt : ∀ M' : Mm, M' = mcp M c0 sp c dp n → G X rm own cc nL ret Q pc' L S M') : G X rm own cc nL ret Q pc L (vi (n : Int) :: vi (dp : Int) :: vr X c :: vi (sp : Int) :: vr X c0 :: S) M := by
  subst hp
  intro hR p e R s m args below meth cC H locs ls hF hW hP hS hl
  obtain ⟨hx0, hb, hret, hml, hown, hts, hlo, hRm⟩ := id hF
  have z0 := shp_sm hs0
  have z1 := shp_sm hs1
  obtain ⟨a1, a2⟩ := ix32c (n := sp) (by omega)
  obtain ⟨b1, b2⟩ := ix32c (n := dp) (by omega)
  obtain ⟨d1, d2⟩ := ix32c (n := n) (by omega)
  have hR' : Rg (mcp M c0 sp c dp n) := by
    intro c' i'
    unfold mcp
    by_cases hc : c' = c
    · subst hc
      simp only [if_true]
      rw [kd_2 hs1]
      split
      · have := hR c0 (sp + (i' - dp)); rwa [kd_2 hs0] at this
      · have := hR c' i'; rwa [kd_2 hs1] at this
    · simpa [hc] using hR c' i'
  have hfr : 1 ≤ R.frames := by rw [hRm]; exact hr
  have hnw := nfw
  have hlc : (S.map fun v => v.category).sum + (nativeFrameWords "java/lang/System" "arraycopy" 5 + 11) ≤ R.locals := by
    rw [hRm]
    show _ ≤ 64 * rm
    omega
  refine va_copyl hx0 hb (by rw [hml]; exact hl.1.symm) hown (hts _ hlk) (hts _ hna) (hts _ hst) (hts _ hin) hW.1 hP (wd_D hW.2.1 M) hS c0 c 1 1 (ty := .long) (wd_at hs0) (wd_at hs1) rfl rfl rfl a1 b1 d1 (by rw [a2, d2]; exact h4) (by rw [b2, d2]; exact h5) (fun _ _ => rfl) hfr hlc hd (fun H1 locs1 hP1 _ hS1 => ?_)
  rw [a2, b2, d2] at hP1
  have hf : va_cpy (fun j => Int64.ofInt (M c0 j)) (fun j => Int64.ofInt (M c j)) sp dp n = fun j => Int64.ofInt (if dp ≤ j ∧ j < dp + n then M c0 (sp + (j - dp)) else M c j) := by
    funext j
    simp only [va_cpy]
    split <;> rfl
  rw [hf] at hP1
  have hP2 : va_P X.2.2.1 cls ((wd X M).set c (X.2.1 c, ce X (2, n1, r1) (fun j => if dp ≤ j ∧ j < dp + n then M c0 (sp + (j - dp)) else M c j))) H1 := hP1
  rw [wd_up hs1] at hP2
  exact kt _ rfl hR' p e R s m args below meth cC H1 locs1 ls hF hW hP2 hS1 hl
theorem g_tabIn {dflt lo hi off : Int} {offs : Array Int} {len tgt : Nat} {x : Int} (hx : inI x) (hd : decode cc pc = .ok (.tableswitch dflt lo hi offs, len)) (h1 : lo ≤ x) (h2 : x ≤ hi) (ho : offs[(x - lo).toNat]? = some off) (ht : (pc : Int) + off = (tgt : Int)) (kt : G X rm own cc nL ret Q tgt L S M) : G X rm own cc nL ret Q pc L (vi x :: S) M := by
  intro hR p e R s m args below meth c0 H locs ls hF hW hP hS hl
  have k' := kt hR p e R s m args below meth c0 H locs ls hF hW hP hS hl
  exact lv_tableIn hF.1 hF.2.1 hd (by rw [t32 hx]; omega) (by rw [t32 hx]; omega) (by rw [t32 hx]; exact ho) ht k'
theorem g_tabOut {dflt lo hi : Int} {offs : Array Int} {len tgt : Nat} {x : Int} (hx : inI x) (hd : decode cc pc = .ok (.tableswitch dflt lo hi offs, len)) (h : x < lo ∨ hi < x) (ht : (pc : Int) + dflt = (tgt : Int)) (kt : G X rm own cc nL ret Q tgt L S M) : G X rm own cc nL ret Q pc L (vi x :: S) M := by
  intro hR p e R s m args below meth c0 H locs ls hF hW hP hS hl
  have k' := kt hR p e R s m args below meth c0 H locs ls hF hW hP hS hl
  exact lv_tableOut hF.1 hF.2.1 hd (by rw [t32 hx]; exact h) ht k'
theorem g_look {dflt off : Int} {ps : Array (Int × Int)} {len tgt : Nat} {x : Int} (hx : inI x) (hd : decode cc pc = .ok (.lookupswitch dflt ps, len)) (hps : (ps.toList.zip (ps.toList.drop 1)).all (fun (a, next) => a.1 < next.1) = true) (ho : Op.lookupswitch.offset ps.toList dflt x = off) (ht : (pc : Int) + off = (tgt : Int)) (kt : G X rm own cc nL ret Q tgt L S M) : G X rm own cc nL ret Q pc L (vi x :: S) M := by
  intro hR p e R s m args below meth c0 H locs ls hF hW hP hS hl
  have k' := kt hR p e R s m args below meth c0 H locs ls hF hW hP hS hl
  exact lv_lookup hF.1 hF.2.1 hd hps (by rw [t32 hx]; exact ho) ht k'
theorem g_ldcS {i j : Nat} {tx : String} (hd : decode cc pc = .ok (.ldc i, 2)) (hp : pc + 2 = pc') (hs : sTx[j]? = some (own, i, tx)) (kt : G X rm own cc nL ret Q pc' L (vs X j :: S) M) : G X rm own cc nL ret Q pc L S M := by
  subst hp
  intro hR p e R s m args below meth c0 H locs ls hF hW hP hS hl
  have k' := kt hR p e R s m args below meth c0 H locs ls hF hW hP hS hl
  exact va_ldcS hF.1 hF.2.1 hF.2.2.2.2.1 (hW.2.2.2.2.1 j _ hs) hd k'
theorem g_sload_n {k : Fin 4} {x : Nat} (q : Nat) (hd : decode cc pc = .ok (.aload_n k, 1)) (hp : pc + 1 = pc') (hq : L[q]? = some ((k : Nat), vs X x)) (k : G X rm own cc nL ret Q pc' L (vs X x :: S) M) : G X rm own cc nL ret Q pc L S M := by
  subst hp
  intro hR p e R s m args below meth c H locs ls hF hW hP hS hl
  refine lv_aload_n hF.1 hF.2.1 hd rfl (lv_at hl q hq) ?_
  exact k hR p e R s m args below meth c H locs ls hF hW hP hS hl
end GM
