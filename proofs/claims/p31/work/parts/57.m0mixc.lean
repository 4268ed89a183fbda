/-! mixes: the class's side -/
def FX (c : Nat) : Prop := c = 84 ∨ c = 85 ∨ c = 86
/-- what the search stands on: wines, and what was looked up of those behind -/
def MX (M : Mm) : Prop := (0 ≤ M 1 6 ∧ M 1 6 ≤ 6) ∧ wOK (M 9) 0 (M 1 6).toNat ∧ ∀ j : Nat, j ≤ (M 1 6).toNat → M 87 j = agA (M 9) j ((M 1 6).toNat - j) ∧ M 88 j = agW (M 9) j ((M 1 6).toNat - j) ∧ M 89 j = agS (M 9) j ((M 1 6).toNat - j) ∧ M 90 j = agC (M 9) j ((M 1 6).toNat - j)
theorem MX.fr {P : Nat → Prop} {M M1 : Mm} (h : MX M) (f : Fr P M M1) (hP : ∀ c, P c → c = 84 ∨ c = 85 ∨ c = 86) : MX M1 := by
  have e : ∀ c, ¬ (c = 84 ∨ c = 85 ∨ c = 86) → M1 c = M c := fun c hc => f c (fun z => hc (hP c z))
  unfold MX
  rw [e 1 (by decide), e 9 (by decide), e 87 (by decide), e 88 (by decide), e 89 (by decide), e 90 (by decide)]
  exact h
theorem MX.wr {M M1 : Mm} {c i : Nat} {x : Int} (h : MX M) (e : M1 = mu M c i x) (hc : c = 84 ∨ c = 85 ∨ c = 86) : MX M1 := by
  refine h.fr (P := fun q => q = c) (fun q hq => ?_) (fun q hq => by rw [hq]; exact hc)
  rw [e, mu_cell _ _ hq]
theorem MX.at {M : Mm} {w : Int} (h : MX M) (h0 : 0 ≤ w) (h1 : w ≤ M 1 6) : M 87 w.toNat = agA (M 9) w.toNat ((M 1 6).toNat - w.toNat) ∧ M 88 w.toNat = agW (M 9) w.toNat ((M 1 6).toNat - w.toNat) ∧ M 89 w.toNat = agS (M 9) w.toNat ((M 1 6).toNat - w.toNat) ∧ M 90 w.toNat = agC (M 9) w.toNat ((M 1 6).toNat - w.toNat) ∧ (0 ≤ M 88 w.toNat ∧ M 88 w.toNat ≤ 100) ∧ (0 ≤ M 89 w.toNat ∧ M 89 w.toNat ≤ 100) ∧ (0 ≤ M 90 w.toNat ∧ M 90 w.toNat ≤ 99) := by
  obtain ⟨b, o, k⟩ := h
  obtain ⟨k1, k2, k3, k4⟩ := k w.toNat (by omega)
  have g := ag_b ((M 1 6).toNat - w.toNat) w.toNat (fun j a b => o j (by omega) (by omega))
  rw [← k2, ← k3, ← k4] at g
  exact ⟨k1, k2, k3, k4, g.2.1, g.2.2.1, g.2.2.2⟩
theorem MX.ok {M : Mm} {w : Int} (h : MX M) (h0 : 0 ≤ w) (h1 : w ≤ M 1 6) : wOK (M 9) w.toNat ((M 1 6).toNat - w.toNat) := fun j a b => h.2.1 j (by omega) (by have := h.1; omega)
theorem MX.wine {M : Mm} {w : Int} (h : MX M) (h0 : 0 ≤ w) (h1 : w < M 1 6) : (0 ≤ M 9 (3 * w).toNat ∧ M 9 (3 * w).toNat ≤ 100) ∧ (0 ≤ M 9 (3 * w + 1).toNat ∧ M 9 (3 * w + 1).toNat ≤ 99) ∧ (0 ≤ M 9 (3 * w + 2).toNat ∧ M 9 (3 * w + 2).toNat ≤ 20) := by
  have k := h.2.1 w.toNat (by omega) (by have := h.1; omega)
  rw [show (3 * w).toNat = 3 * w.toNat by omega, show (3 * w + 1).toNat = 3 * w.toNat + 1 by omega, show (3 * w + 2).toNat = 3 * w.toNat + 2 by omega]
  exact k
def TKm (M M1 : Mm) (w al sl pr : Int) : Prop := TK1 (M 9) w.toNat ((M 1 6).toNat - w.toNat) al sl pr (M 84 2) (M1 84 2) (M 85) (M1 85) (M 86) (M1 86)
def TKLm (M M1 : Mm) (w al sl pr tk : Int) : Prop := TKL (M 9) w.toNat ((M 1 6).toNat - w.toNat - 1) al sl pr (M 84 2) (M1 84 2) (M 85) (M1 85) (M 86) (M1 86) tk.toNat
theorem TKm.cut1 {M : Mm} {w al sl pr : Int} (h : MX M) (h0 : 0 ≤ w) (h1 : w ≤ M 1 6) (q : M 87 w.toNat < al ∨ sl < al * M 88 w.toNat ∨ al * M 89 w.toNat < sl) : TKm M M w al sl pr := by
  obtain ⟨k1, k2, k3, k4, -⟩ := h.at h0 h1
  rw [k1, k2, k3] at q
  exact TK1.cut (h.ok h0 h1) (Or.inl q)
theorem TKm.cut2 {M : Mm} {w al sl pr : Int} (h : MX M) (h0 : 0 ≤ w) (h1 : w ≤ M 1 6) (q : M 84 2 ≠ -1 ∧ M 84 2 ≤ pr + al * M 90 w.toNat) : TKm M M w al sl pr := by
  obtain ⟨k1, k2, k3, k4, -⟩ := h.at h0 h1
  rw [k4] at q
  exact TK1.cut (h.ok h0 h1) (Or.inr q)
theorem TKm.leaf {M M2 M3 : Mm} {w al sl pr : Int} (h : MX M) (h0 : 0 ≤ w) (h1 : w ≤ M 1 6) (hw : M 1 6 ≤ w) (ha : 0 ≤ al) (q1 : al ≤ M 87 w.toNat ∧ al * M 88 w.toNat ≤ sl ∧ sl ≤ al * M 89 w.toNat) (q2 : M 84 2 = -1 ∨ pr + al * M 90 w.toNat < M 84 2) (e2 : M2 = mu M 84 2 pr) (e3 : M3 = mcp M2 85 0 86 0 6) : TKm M M3 w al sl pr := by
  have hb := h.1
  have hwe : (M 1 6).toNat - w.toNat = 0 := by omega
  obtain ⟨k1, k2, k3, k4, -⟩ := h.at h0 h1
  rw [hwe] at k1
  have a0 : al = 0 := by
    have : agA (M 9) w.toNat 0 = 0 := rfl
    omega
  rw [a0, Int.zero_mul, Int.zero_mul] at q1
  rw [a0, Int.zero_mul] at q2
  have c84 : M3 84 2 = pr := by rw [e3, mcp_cell _ (by decide), e2, mu_at]
  have c85 : M3 85 = M 85 := by rw [e3, mcp_cell _ (by decide), e2, mu_cell _ _ (by decide)]
  have c86 : ∀ i : Nat, i < 6 → M3 86 i = M 85 i := fun i hi => by
    rw [e3]
    unfold mcp
    rw [if_pos rfl, if_pos ⟨by omega, by omega⟩, e2, mu_cell _ _ (by decide)]
    rw [show 0 + (i - 0) = i by omega]
  unfold TKm
  rw [hwe, c85]
  exact TK1.leaf a0 (by omega) (by omega) c84 (fun i hi => c86 i (by omega))
theorem TKLm.start {M : Mm} {w al sl pr : Int} : TKLm M M w al sl pr 0 := TKL.start _ _ _ _ _ _ _ _ _
theorem TKLm.done {M M1 : Mm} {w al sl pr tk mo : Int} (hw0 : 0 ≤ w) (hwn : w < M 1 6) (hmo : mo = if M 9 (3 * w + 2).toNat < al then M 9 (3 * w + 2).toNat else al) (h0 : 0 ≤ tk) (ht : mo < tk) (ht2 : tk ≤ mo + 1) (h : TKLm M M1 w al sl pr tk) : TKm M M1 w al sl pr := by
  unfold TKm
  rw [show (M 1 6).toNat - w.toNat = (M 1 6).toNat - w.toNat - 1 + 1 by omega]
  refine TKL.done h ?_
  unfold mK
  rw [show 3 * w.toNat + 2 = (3 * w + 2).toNat by omega, ← hmo]
  congr 1
  omega
theorem TKLm.step {P : Nat → Prop} {M M1 M5 M6 : Mm} {w al sl pr tk st co mo pp pq : Int} (hx : MX M) (hw0 : 0 ≤ w) (hwn : w < M 1 6) (hal : al ≤ 20) (hpr : 0 ≤ pr) (hst : st = M 9 (3 * w).toNat) (hco : co = M 9 (3 * w + 1).toNat) (hmo : mo = if M 9 (3 * w + 2).toNat < al then M 9 (3 * w + 2).toNat else al) (h0 : 0 ≤ tk) (h1 : tk ≤ mo) (hpp : pp = tk * st) (hpq : pq = tk * co)
    (fr1 : Fr P M M1) (hP : ∀ c, P c → c = 84 ∨ c = 85 ∨ c = 86) (h : TKLm M M1 w al sl pr tk) (e5 : M5 = mu M1 85 w.toNat tk) (k : TKm M5 M6 (w + 1) (al - tk) (sl - pp) (pr + pq)) : TKLm M M6 w al sl pr (tk + 1) := by
  have hb := hx.1
  have e9 : M5 9 = M 9 := by rw [e5, mu_cell _ _ (by decide)]; exact fr1 9 (fun z => by have := hP 9 z; omega)
  have e1 : M5 1 = M 1 := by rw [e5, mu_cell _ _ (by decide)]; exact fr1 1 (fun z => by have := hP 1 z; omega)
  have e84 : M5 84 2 = M1 84 2 := by rw [e5, mu_cell _ _ (by decide)]
  have e86 : M5 86 = M1 86 := by rw [e5, mu_cell _ _ (by decide)]
  obtain ⟨t, rfl⟩ := Int.eq_ofNat_of_zero_le h0
  unfold TKLm at h ⊢
  unfold TKm at k
  rw [e9, e1, e84, e86] at k
  rw [Int.toNat_natCast] at h
  rw [show ((t : Int) + 1).toNat = t + 1 by omega]
  have a1 : (M 1 6).toNat - w.toNat = (M 1 6).toNat - w.toNat - 1 + 1 := by omega
  refine TKL.step (trT := M5 85) (t := t) (by rw [← a1]; exact hx.ok hw0 (by omega)) hal ?_ hpr h (by rw [e5, mu_is]) ?_
  · unfold mK
    rw [show 3 * w.toNat + 2 = (3 * w + 2).toNat by omega, ← hmo]
    omega
  · rw [show 3 * w.toNat = (3 * w).toNat by omega, show (3 * w).toNat + 1 = (3 * w + 1).toNat by omega, ← hst, ← hco, ← hpp, ← hpq, show (M 1 6).toNat - w.toNat - 1 = (M 1 6).toNat - (w + 1).toNat by omega, show w.toNat + 1 = (w + 1).toNat by omega]
    exact k
/-- what was looked up from j on -/
def AGP (M1 : Mm) (r : Nat → Int) (n : Nat) (i : Int) : Prop := ∀ j : Nat, i ≤ j → j ≤ n → M1 87 j = agA r j (n - j) ∧ M1 88 j = agW r j (n - j) ∧ M1 89 j = agS r j (n - j) ∧ M1 90 j = agC r j (n - j)
theorem AGP.init {M M1 M2 M3 M4 : Mm} {r : Nat → Int} {n : Nat} {b : Int} (hb : b = n) (h1 : M1 = mu M 87 b.toNat 0) (h2 : M2 = mu M1 88 b.toNat 100) (h3 : M3 = mu M2 89 b.toNat 0) (h4 : M4 = mu M3 90 b.toNat 99) : AGP M4 r n b := by
  intro j g1 g2
  have e : b.toNat = n := by omega
  have ej : j = n := by omega
  rw [e] at h1 h2 h3 h4
  subst ej
  rw [Nat.sub_self]
  refine ⟨?_, ?_, ?_, ?_⟩
  · rw [h4, mu_cell _ _ (by decide), h3, mu_cell _ _ (by decide), h2, mu_cell _ _ (by decide), h1, mu_at]; rfl
  · rw [h4, mu_cell _ _ (by decide), h3, mu_cell _ _ (by decide), h2, mu_at]; rfl
  · rw [h4, mu_cell _ _ (by decide), h3, mu_at]; rfl
  · rw [h4, mu_at]; rfl
theorem AGP.step {M1 Ma Mb Mc Md : Mm} {r : Nat → Int} {n : Nat} {i v1 v2 v3 v4 x1 x2 x3 x4 y1 y2 y3 y4 : Int} (h : AGP M1 r n (i + 1)) (h9 : M1 9 = r) (h0 : 0 ≤ i) (h1 : i < n) (ha : Ma = mu M1 88 i.toNat v1) (hb : Mb = mu Ma 89 i.toNat v2) (hc : Mc = mu Mb 90 i.toNat v3) (hd : Md = mu Mc 87 i.toNat v4)
    (a1 : x1 = M1 88 (i + 1).toNat) (b1 : y1 = M1 9 (3 * i).toNat) (z1 : v1 = if y1 < x1 then y1 else x1) (a2 : x2 = Ma 89 (i + 1).toNat) (b2 : y2 = Ma 9 (3 * i).toNat) (z2 : v2 = if x2 < y2 then y2 else x2) (a3 : x3 = Mb 90 (i + 1).toNat) (b3 : y3 = Mb 9 (3 * i + 1).toNat) (z3 : v3 = if y3 < x3 then y3 else x3) (a4 : x4 = Mc 87 (i + 1).toNat) (b4 : y4 = Mc 9 (3 * i + 2).toNat) (z4 : v4 = x4 + y4) : AGP Md r n i := by
  have ca : ∀ c, c ≠ 88 → Ma c = M1 c := fun c hc => by rw [ha, mu_cell _ _ hc]
  have cb : ∀ c, c ≠ 88 → c ≠ 89 → Mb c = M1 c := fun c h2 h3 => by rw [hb, mu_cell _ _ h3, ca c h2]
  have cc : ∀ c, c ≠ 88 → c ≠ 89 → c ≠ 90 → Mc c = M1 c := fun c h2 h3 h4 => by rw [hc, mu_cell _ _ h4, cb c h2 h3]
  rw [ca 89 (by decide)] at a2
  rw [ca 9 (by decide)] at b2
  rw [cb 90 (by decide) (by decide)] at a3
  rw [cb 9 (by decide) (by decide)] at b3
  rw [cc 87 (by decide) (by decide) (by decide)] at a4
  rw [cc 9 (by decide) (by decide) (by decide)] at b4
  rw [h9] at b1 b2 b3 b4
  have d87 : Md 87 = ms (M1 87) i.toNat v4 := by rw [hd, mu_is, cc 87 (by decide) (by decide) (by decide)]
  have d88 : Md 88 = ms (M1 88) i.toNat v1 := by rw [hd, mu_cell _ _ (by decide), hc, mu_cell _ _ (by decide), hb, mu_cell _ _ (by decide), ha, mu_is]
  have d89 : Md 89 = ms (M1 89) i.toNat v2 := by rw [hd, mu_cell _ _ (by decide), hc, mu_cell _ _ (by decide), hb, mu_is, ca 89 (by decide)]
  have d90 : Md 90 = ms (M1 90) i.toNat v3 := by rw [hd, mu_cell _ _ (by decide), hc, mu_is, cb 90 (by decide) (by decide)]
  intro j g1 g2
  rw [d87, d88, d89, d90]
  by_cases hj : j = i.toNat
  · obtain ⟨k1, k2, k3, k4⟩ := h (i + 1).toNat (by omega) (by omega)
    have en : n - j = n - (i + 1).toNat + 1 := by omega
    have ei : (i + 1).toNat = j + 1 := by omega
    rw [ei] at a1 a2 a3 a4 k1 k2 k3 k4
    rw [show (3 * i).toNat = 3 * j by omega] at b1 b2
    rw [show (3 * i + 1).toNat = 3 * j + 1 by omega] at b3
    rw [show (3 * i + 2).toNat = 3 * j + 2 by omega] at b4
    rw [← hj, en, ei]
    unfold ms
    rw [if_pos rfl, if_pos rfl, if_pos rfl, if_pos rfl]
    refine ⟨?_, ?_, ?_, ?_⟩
    · rw [z4, a4, b4, k1]; rfl
    · rw [z1, a1, b1, k2]; rfl
    · rw [z2, a2, b2, k3]; rfl
    · rw [z3, a3, b3, k4]; rfl
  · have := h j (by omega) g2
    unfold ms
    rw [if_neg hj, if_neg hj, if_neg hj, if_neg hj]
    exact this
theorem AGP.mx {M M1 : Mm} {i : Int} (h : AGP M1 (M 9) (M 1 6).toNat i) (hi : i ≤ 0) (hb : 0 ≤ M 1 6 ∧ M 1 6 ≤ 6) (hw : wOK (M 9) 0 (M 1 6).toNat) (e1 : M1 1 = M 1) (e9 : M1 9 = M 9) : MX M1 := by
  unfold MX
  rw [e1, e9]
  exact ⟨hb, hw, fun j hj => h j (by omega) hj⟩
/-- the answer of a mix: n wines r, amount a, strength b, what w -/
def mixQ (r : Nat → Int) (n : Nat) (a b w x : Int) : Prop :=
  ((1 ≤ a ∧ a ≤ 20 ∧ 0 ≤ b ∧ b ≤ 100 ∧ 0 ≤ w ∧ w ≤ n) → (ls r 0 n a (a * b) < 1000000 → (w = 0 → x = ls r 0 n a (a * b)) ∧ (w ≠ 0 → x = lsR r 0 n a (a * b) (w - 1).toNat)) ∧ (¬ ls r 0 n a (a * b) < 1000000 → x = -1)) ∧
  (¬ (1 ≤ a ∧ a ≤ 20 ∧ 0 ≤ b ∧ b ≤ 100 ∧ 0 ≤ w ∧ w ≤ n) → x = -1)
theorem mixQ.det {r r' : Nat → Int} {n : Nat} {a b w x y : Int} (h : mixQ r n a b w x) (g : mixQ r' n a b w y) (e : ∀ k, k < 3 * n → r k = r' k) : x = y := by
  have e1 := ls_cg (r := r) (r' := r') n 0 (fun k _ h2 => e k (by omega))
  have e2 := lsR_cg (r := r) (r' := r') n 0 (fun k _ h2 => e k (by omega))
  unfold mixQ at h g
  rw [← e1, ← e2] at g
  by_cases c : 1 ≤ a ∧ a ≤ 20 ∧ 0 ≤ b ∧ b ≤ 100 ∧ 0 ≤ w ∧ w ≤ n
  · by_cases d : ls r 0 n a (a * b) < 1000000
    · have h1 := (h.1 c).1 d
      have g1 := (g.1 c).1 d
      by_cases z : w = 0
      · rw [h1.1 z, g1.1 z]
      · rw [h1.2 z, g1.2 z]
    · rw [(h.1 c).2 d, (g.1 c).2 d]
  · rw [h.2 c, g.2 c]
theorem LPQ {r : Nat → Int} {n : Nat} {a s B B1 z : Int} {tr tr1 bs bs1 : Nat → Int} (h : TK1 r (Int.toNat 0) (n - Int.toNat 0) a s 0 B B1 tr tr1 bs bs1) (hB : B = -1) (hz : z = B1) : (ls r 0 n a s < 1000000 → z = ls r 0 n a s ∧ ∀ i : Nat, i < n → bs1 i = lsR r 0 n a s i) ∧ (¬ ls r 0 n a s < 1000000 → z = -1) := by
  rw [show Int.toNat 0 = 0 from rfl, Nat.sub_zero] at h
  obtain ⟨-, h2, h3⟩ := h
  refine ⟨fun c => ?_, fun c => ?_⟩
  · obtain ⟨k1, -, k3⟩ := h2 c (Or.inl hB)
    refine ⟨by omega, fun i hi => ?_⟩
    have := k3 i hi
    rw [Nat.zero_add] at this
    exact this
  · have := (h3 (fun q => c q.1)).1
    omega
theorem mixQ.no {r : Nat → Int} {n : Nat} {a b w : Int} (c : ¬ (1 ≤ a ∧ a ≤ 20 ∧ 0 ≤ b ∧ b ≤ 100 ∧ 0 ≤ w ∧ w ≤ n)) : mixQ r n a b w (-1) := ⟨fun z => absurd z c, fun _ => rfl⟩
theorem mixQ.price {r bs : Nat → Int} {n : Nat} {a b w x : Int} (c : 1 ≤ a ∧ a ≤ 20 ∧ 0 ≤ b ∧ b ≤ 100 ∧ 0 ≤ w ∧ w ≤ n) (h : (ls r 0 n a (a * b) < 1000000 → x = ls r 0 n a (a * b) ∧ ∀ i : Nat, i < n → bs i = lsR r 0 n a (a * b) i) ∧ (¬ ls r 0 n a (a * b) < 1000000 → x = -1)) (hw : w = 0 ∨ x = -1) (h0 : ∀ v : Int, v = ls r 0 n a (a * b) → 0 ≤ v) : mixQ r n a b w x := by
  refine ⟨fun _ => ⟨fun d => ?_, h.2⟩, fun z => absurd c z⟩
  have k := (h.1 d).1
  have := h0 _ rfl
  refine ⟨fun _ => k, fun z => ?_⟩
  omega
theorem mixQ.row {r bs : Nat → Int} {n : Nat} {a b w x v : Int} (c : 1 ≤ a ∧ a ≤ 20 ∧ 0 ≤ b ∧ b ≤ 100 ∧ 0 ≤ w ∧ w ≤ n) (h : (ls r 0 n a (a * b) < 1000000 → x = ls r 0 n a (a * b) ∧ ∀ i : Nat, i < n → bs i = lsR r 0 n a (a * b) i) ∧ (¬ ls r 0 n a (a * b) < 1000000 → x = -1)) (hw : w ≠ 0) (hx : x ≠ -1) (hv : v = bs (w - 1).toNat) : mixQ r n a b w v := by
  refine ⟨fun _ => ⟨fun d => ⟨fun z => absurd z hw, fun _ => ?_⟩, fun d => absurd (h.2 d) hx⟩, fun z => absurd c z⟩
  rw [hv, (h.1 d).2 _ (by omega)]
