/-! the reference's moves -/
theorem comq {a b r : Int} (h : r = ((Int.gcd a b : Nat) : Int)) (ha : 1 ≤ a) : 1 ≤ r ∧ r ≤ a ∧ r ∣ a ∧ r ∣ b := by
  have g := gcd1 (a := b) (b := a) ha
  rw [Int.gcd_comm, ← h] at g
  refine ⟨g.1, g.2, ?_, ?_⟩
  · rw [h]; exact Int.gcd_dvd_left _ _
  · rw [h]; exact Int.gcd_dvd_right _ _
theorem gF_st2 {p : Nat → Int} {x u i v r : Int} (hu : u = gF p x i.toNat) (hi : 0 ≤ i) (hv : v = p i.toNat) (hr : r = ((Int.gcd u v : Nat) : Int)) : r = gF p x (i + 1).toNat := gF_st hu hi hv (by rw [hr, Int.gcd_comm])
def LSQ (m m1 : Nat → Int) : Prop := ∀ j : Nat, j < 25 → m j = m1 j * gF m (m 24) 24
theorem LSQ.of {m m1 : Nat → Int} {d : Int} (hd : d = gF m (m 24) 24) (dv : ∀ j : Nat, j < 25 → d ∣ m j) (e : ∀ j : Nat, j < 25 → m1 j = m j / d) : LSQ m m1 := by
  intro j hj
  rw [e j hj, ← hd, Int.ediv_mul_cancel (dv j hj)]
theorem shr_of {m N : Nat → Int} {h g t a : Int} (hg : 0 ≤ g ∧ g ≤ 5) (ht : -1 ≤ t ∧ t ≤ 5) (hne : t ≠ g) (pf : ∀ j : Nat, j < 4 → N (4 * g.toNat + j) = m (4 * g.toNat + j) * h - m (4 * g.toNat + j) * a) (pt : 0 ≤ t → ∀ j : Nat, j < 4 → N (4 * t.toNat + j) = m (4 * t.toNat + j) * h + m (4 * g.toNat + j) * a) (pr : ∀ k : Nat, k < 25 → ¬ (4 * g.toNat ≤ k ∧ k < 4 * g.toNat + 4) → (0 ≤ t → ¬ (4 * t.toNat ≤ k ∧ k < 4 * t.toNat + 4)) → N k = m k * h) : ∀ j : Nat, j < 24 → N j = shr m h g t a j := by
  intro j hj
  unfold shr
  by_cases c1 : (j : Int) / 4 = g
  · rw [if_pos c1, if_neg (by omega), show j = 4 * g.toNat + j % 4 by omega, pf _ (by omega)]
    omega
  · rw [if_neg c1]
    by_cases c2 : (j : Int) / 4 = t
    · rw [if_pos c2]
      have e : j = 4 * t.toNat + j % 4 := by omega
      have q := pt (by omega) (j % 4) (by omega)
      rw [← e] at q
      rw [q]
      omega
    · rw [if_neg c2, pr j (by omega) (by omega) (fun z => by omega)]
      omega
theorem SPO.no {m z m1 : Nat → Int} {g k w : Int} (h : ¬ (g ≠ k ∧ w ≤ flm m g.toNat ∧ (k = -1 ∨ w ≤ z k.toNat - flm m k.toNat))) (e : ∀ j : Nat, j < 25 → m1 j = m j) : SPO m z g k w (-3) m1 := ⟨fun _ => ⟨rfl, e⟩, fun q => absurd q h⟩
theorem SPO.room {m z N K m1 : Nat → Int} {g k w f : Int} (h : g ≠ k ∧ w ≤ flm m g.toNat ∧ (k = -1 ∨ w ≤ z k.toNat - flm m k.toNat)) (hf : flm m g.toNat = f) (hN : ∀ j : Nat, j < 24 → N j = shr m f g k w j) (h24 : N 24 = m 24 * f) (hp : 1 ≤ N 24) (l : LSQ N K) (hr : 100000000000000 < K 24) (e : ∀ j : Nat, j < 25 → m1 j = m j) : SPO m z g k w (-5) m1 := by
  refine ⟨fun q => absurd h q, fun _ => Or.inr ⟨rfl, e, ?_⟩⟩
  have d1 := gF_pos (p := N) hp 24
  have l24 := l 24 (by omega)
  rw [hf, ← h24, ← gF_cg (p := N) 24 hN]
  have q : (100000000000000 + 1) * gF N (N 24) 24 ≤ K 24 * gF N (N 24) 24 := Int.mul_le_mul_of_nonneg_right (by omega) (by omega)
  omega
theorem SPO.yes {m z N m1 : Nat → Int} {g k w f : Int} (h : g ≠ k ∧ w ≤ flm m g.toNat ∧ (k = -1 ∨ w ≤ z k.toNat - flm m k.toNat)) (hf : flm m g.toNat = f) (hN : ∀ j : Nat, j < 24 → N j = shr m f g k w j) (h24 : N 24 = m 24 * f) (l : LSQ N m1) (hr : m1 24 ≤ 100000000000000) : SPO m z g k w 0 m1 := by
  refine ⟨fun q => absurd h q, fun _ => Or.inl ⟨rfl, hr, gF N (N 24) 24, ?_, fun j hj => ?_, ?_⟩⟩
  · rw [hf, ← h24]; exact gF_cg 24 hN
  · rw [hf, ← hN j hj]; exact l j (by omega)
  · rw [hf, ← h24]; exact l 24 (by omega)
def FIL (m z : Nat → Int) (g s w r : Int) (m1 : Nat → Int) : Prop := (w ≤ z g.toNat - flm m g.toNat → r = 0 ∧ m1 = ms m (4 * g + s).toNat (m (4 * g + s).toNat + w * m 24)) ∧ (¬ w ≤ z g.toNat - flm m g.toNat → r = -3 ∧ m1 = m)
def tsM (m : Nat → Int) (g s : Int) : Int := if flm m g.toNat = 0 then 0 else (100 * m (4 * g + s).toNat).tdiv (flm m g.toNat * m 24)
/-! they keep the likeness -/
theorem dvd1 {e : Int} (h0 : 1 ≤ e) (h : e ∣ 1) : e = 1 := by
  have := Int.le_of_dvd (by decide) h
  omega
theorem ZR.fill {n : Int} {m : Nat → Int} {x : Nat} {w : Int} (h : ZR n m) (hR : 1 ≤ m 24) (hx : (x : Int) < 4 * n) (hn : n ≤ 6) : ZR n (ms m x (m x + w * m 24)) := by
  have e24 : ms m x (m x + w * m 24) 24 = m 24 := ms_ne _ _ (by omega)
  refine ⟨fun k h1 h2 => by rw [ms_ne _ _ (by omega)]; exact h.1 k h1 h2, ?_⟩
  rw [e24]
  have d := gF_dvd (p := ms m x (m x + w * m 24)) (d := m 24) 24
  have p := gF_pos (p := ms m x (m x + w * m 24)) hR 24
  refine dvd1 p ?_
  have g : gF (ms m x (m x + w * m 24)) (m 24) 24 ∣ gF m (m 24) 24 := gF_gr d.1 24 (fun k hk => by
    have q := d.2 k hk
    by_cases c : k = x
    · subst c
      rw [ms_at] at q
      exact (Int.dvd_add_left (Int.dvd_mul_of_dvd_right d.1)).mp q
    · rwa [ms_ne _ _ c] at q)
  rw [h.2] at g
  exact g
theorem sm4_ms {m : Nat → Int} {x i : Nat} {v : Int} : sm4 (ms m x (m x + v)) i = sm4 m i + if x / 4 = i then v else 0 := by
  unfold sm4
  by_cases c : x / 4 = i
  · rw [if_pos c]
    rcases (show x = 4 * i ∨ x = 4 * i + 1 ∨ x = 4 * i + 2 ∨ x = 4 * i + 3 by omega) with z | z | z | z <;> subst z
    · rw [ms_at, ms_ne _ _ (by omega), ms_ne _ _ (by omega), ms_ne _ _ (by omega)]; omega
    · rw [ms_at, ms_ne _ _ (by omega), ms_ne _ _ (by omega), ms_ne _ _ (by omega)]; omega
    · rw [ms_at, ms_ne _ _ (by omega), ms_ne _ _ (by omega), ms_ne _ _ (by omega)]; omega
    · rw [ms_at, ms_ne _ _ (by omega), ms_ne _ _ (by omega), ms_ne _ _ (by omega)]; omega
  · rw [if_neg c, ms_ne _ _ (by omega), ms_ne _ _ (by omega), ms_ne _ _ (by omega), ms_ne _ _ (by omega)]
    omega
theorem PF {n P L F Z m z g s w r r' P1 F1 m1} (hn : 0 ≤ n ∧ n ≤ 6) (er : ERl n P L F m) (zr : ZR n m) (pi : PI m) (hz : ∀ j : Nat, (j : Int) < n → Z j = z j) (hg : 0 ≤ g ∧ g < n) (hs : 0 ≤ s ∧ s ≤ 3) (hw : 1 ≤ w ∧ w ≤ 60) (c : POU n P L F Z g s w r P1 F1) (f : FIL m z g s w r' m1) : r = r' ∧ ERl n P1 L F1 m1 ∧ ZR n m1 := by
  have hR := pi.1.1
  have eg : flm m g.toNat = F g.toNat := er.full pi (by omega)
  have ez := hz g.toNat (by omega)
  obtain ⟨c1, c2⟩ := c
  obtain ⟨f1, f2⟩ := f
  rw [eg] at f1 f2
  by_cases can : w ≤ z g.toNat - F g.toNat
  · obtain ⟨x1, x2, x3⟩ := c2 ⟨hw, hs, hg, by omega⟩
    obtain ⟨y1, y2⟩ := f1 can
    rw [show (4 * g + s).toNat = (g * 4 + s).toNat by omega] at y2
    refine ⟨by omega, ⟨er.1, fun k hk => ?_, fun i hi => ?_⟩, ?_⟩
    · have e := er.2.1 k hk
      rw [x2, y2, ms_ne (i := (g * 4 + s).toNat) (j := 24) _ _ (by omega)]
      by_cases q : k = (g * 4 + s).toNat
      · subst q
        rw [ms_at, ms_at, Int.add_mul, Int.add_mul, e]
        have : w * L * m 24 = w * m 24 * L := by ac_rfl
        rw [this]
      · rw [ms_ne _ _ q, ms_ne _ _ q]; exact e
    · rw [x3, y2, sm4_ms, ms_ne (i := (g * 4 + s).toNat) (j := 24) _ _ (by omega), ← er.2.2 i hi]
      by_cases q : i = g.toNat
      · subst q
        rw [ms_at, if_pos (by omega), Int.add_mul]
      · rw [ms_ne _ _ q, if_neg (by omega), Int.add_zero]
    · rw [y2]
      exact zr.fill hR (by omega) hn.2
  · obtain ⟨x1, x2, x3⟩ := c1 (fun q => can (by omega))
    obtain ⟨y1, y2⟩ := f2 can
    rw [x2, x3, y2]
    exact ⟨by omega, er, zr⟩
theorem LOW {n P L F m P1 L1} (hn : 0 ≤ n ∧ n ≤ 6) (er : ERl n P L F m) (zr : ZR n m) (pi : PI m) (d : DVD P P1 (gF P L (4 * n).toNat) n) (l : L = L1 * gF P L (4 * n).toNat) : ERl n P1 L1 F m ∧ L1 = m 24 := by
  have hR := pi.1.1
  have u := er.U zr hn hR
  have gp := gF_pos (p := P) er.1.1 (4 * n).toNat
  have e : L1 = m 24 := by
    refine Int.eq_of_mul_eq_mul_right (a := gF P L (4 * n).toNat) (by omega) ?_
    rw [← l, Int.mul_comm (m 24)]
    exact u.symm
  refine ⟨⟨by rw [e]; exact pi.1, fun k hk => ?_, er.2.2⟩, e⟩
  have q := er.2.1 k hk
  have dk := (d k hk).1
  refine Int.eq_of_mul_eq_mul_right (a := gF P L (4 * n).toNat) (by omega) ?_
  have t1 : P1 k * m 24 * gF P L (4 * n).toNat = P1 k * gF P L (4 * n).toNat * m 24 := by ac_rfl
  rw [t1, ← dk, q, Int.mul_assoc, ← l]
theorem ERl.eq {n P L F m} (er : ERl n P L F m) (pi : PI m) (h : L = m 24) {k : Nat} (hk : (k : Int) < 4 * n) : P k = m k := by
  have hR := pi.1.1
  have q := er.2.1 k hk
  rw [h] at q
  exact Int.eq_of_mul_eq_mul_right (by omega) q
/-- emptied -/
theorem CE {n P L F m g P0 F1 m0 m1} (hn : 0 ≤ n ∧ n ≤ 6) (er : ERl n P L F m) (zr : ZR n m) (pi : PI m) (hg : 0 ≤ g ∧ g < n) (c : CLR P P0 F F1 g) (h0 : ∀ j : Nat, j < 25 → m0 j = if (j : Int) / 4 = g then 0 else m j) (l : LSQ m0 m1) : ERl n P0 L F1 m1 ∧ ZR n m1 := by
  have hR := pi.1.1
  have e24 : m0 24 = m 24 := by rw [h0 24 (by omega), if_neg (by omega)]
  obtain ⟨c1, c2, c3⟩ := c
  have gp := gF_pos (p := m0) (d := m0 24) (by omega) 24
  have l24 := l 24 (by omega)
  have x1 : 1 ≤ m1 24 := by
    by_cases q : m1 24 ≤ 0
    · have := Int.mul_nonpos_of_nonpos_of_nonneg q (show 0 ≤ gF m0 (m0 24) 24 by omega)
      omega
    · omega
  refine ⟨⟨er.1, fun k hk => ?_, fun i hi => ?_⟩, fun k h1 h2 => ?_, gF_dv (p := m0) (L := m0 24) (by omega) rfl (fun k hk => l k (by omega)) l24⟩
  · have lk := l k (by omega)
    refine Int.eq_of_mul_eq_mul_right (a := gF m0 (m0 24) 24) (by omega) ?_
    have t1 : m1 k * L * gF m0 (m0 24) 24 = m1 k * gF m0 (m0 24) 24 * L := by ac_rfl
    rw [Int.mul_assoc, ← l24, t1, ← lk, e24, h0 k (by omega)]
    by_cases q : (k : Int) / 4 = g
    · rw [if_pos q, c2 k q, Int.zero_mul, Int.zero_mul]
    · rw [if_neg q, c1 k q]; exact er.2.1 k hk
  · have sl : sm4 m0 i = sm4 m1 i * gF m0 (m0 24) 24 := by
      unfold sm4
      rw [l (4 * i) (by omega), l (4 * i + 1) (by omega), l (4 * i + 2) (by omega), l (4 * i + 3) (by omega), Int.add_mul, Int.add_mul, Int.add_mul]
    refine Int.eq_of_mul_eq_mul_right (a := gF m0 (m0 24) 24) (by omega) ?_
    rw [← sl, Int.mul_assoc, ← l24, e24, c3]
    unfold sm4
    rw [h0 _ (by omega), h0 _ (by omega), h0 _ (by omega), h0 _ (by omega)]
    by_cases q : i = g.toNat
    · rw [if_pos (by omega), if_pos (by omega), if_pos (by omega), if_pos (by omega), q, ms_at]
      omega
    · rw [if_neg (by omega), if_neg (by omega), if_neg (by omega), if_neg (by omega), ms_ne _ _ q]
      exact er.2.2 i hi
  · have lk := l k (by omega)
    rw [h0 k (by omega)] at lk
    have z : m1 k * gF m0 (m0 24) 24 = 0 := by
      rw [← lk]
      split
      · rfl
      · exact zr.1 k h1 h2
    rcases Int.mul_eq_zero.mp z with q | q
    · exact q
    · omega
/-- a new glass -/
theorem AD {n P L F m P1 F1} (hn : 0 ≤ n ∧ n < 6) (er : ERl n P L F m) (zr : ZR n m) (c : CLR P P1 F F1 n) : ERl (n + 1) P1 L F1 m ∧ ZR (n + 1) m := by
  obtain ⟨c1, c2, c3⟩ := c
  refine ⟨⟨er.1, fun k hk => ?_, fun i hi => ?_⟩, fun k h1 h2 => zr.1 k (by omega) h2, zr.2⟩
  · by_cases q : (k : Int) / 4 = n
    · rw [c2 k q, zr.1 k (by omega) (by omega), Int.zero_mul, Int.zero_mul]
    · rw [c1 k q]; exact er.2.1 k (by omega)
  · rw [c3]
    by_cases q : i = n.toNat
    · unfold sm4
      rw [q, ms_at, zr.1 (4 * n.toNat) (by omega) (by omega), zr.1 (4 * n.toNat + 1) (by omega) (by omega), zr.1 (4 * n.toNat + 2) (by omega) (by omega), zr.1 (4 * n.toNat + 3) (by omega) (by omega)]
      omega
    · rw [ms_ne _ _ q]; exact er.2.2 i (by omega)
/-- tastes -/
theorem TE {n P L F m g s} (hn : 0 ≤ n ∧ n ≤ 6) (er : ERl n P L F m) (pi : PI m) (hg : 0 ≤ g ∧ g < n) (hs : 0 ≤ s ∧ s ≤ 3) : tsO n P L F g s = tsM m g s := by
  have hR := pi.1.1
  have eg : flm m g.toNat = F g.toNat := er.full pi (by omega)
  have fb := er.fb pi hn.2 (g := g.toNat) (by omega)
  unfold tsM
  rw [eg]
  by_cases z : F g.toNat = 0
  · rw [if_pos z, tsO_n (by omega)]
  · rw [if_neg z, tsO_y ⟨hg, hs⟩ (by omega), show (4 * g + s).toNat = (g * 4 + s).toNat by omega]
    have q := er.2.1 (g * 4 + s).toNat (by omega)
    have m0 := pi.2.1 (g * 4 + s).toNat (by omega)
    have p0 : 0 ≤ P (g * 4 + s).toNat := by
      have mL := Int.mul_nonneg m0 (show 0 ≤ L by have := er.1; omega)
      by_cases y : P (g * 4 + s).toNat < 0
      · have := Int.mul_neg_of_neg_of_pos y (show 0 < m 24 by omega)
        omega
      · omega
    have f1 : 1 ≤ F g.toNat := by omega
    have b1 : 1 ≤ L * F g.toNat := by
      have := Int.mul_le_mul er.1.1 f1 (by omega) (by have := er.1; omega)
      omega
    have b2 : 1 ≤ F g.toNat * m 24 := by
      have := Int.mul_le_mul f1 hR (by omega) (by omega)
      omega
    refine tdv (by omega) b1 (by omega) b2 ?_
    have t1 : 100 * P (g * 4 + s).toNat * (F g.toNat * m 24) = 100 * F g.toNat * (P (g * 4 + s).toNat * m 24) := by ac_rfl
    have t2 : 100 * m (g * 4 + s).toNat * (L * F g.toNat) = 100 * F g.toNat * (m (g * 4 + s).toNat * L) := by ac_rfl
    rw [t1, t2, q]
theorem tsM_b {m : Nat → Int} {g s : Int} (pi : PI m) (hg : 0 ≤ g ∧ g ≤ 5) (hs : 0 ≤ s ∧ s ≤ 3) : 0 ≤ tsM m g s ∧ tsM m g s ≤ 100 := by
  obtain ⟨f, hf, hsm⟩ := pi.2.2 g.toNat (by omega)
  have hR := pi.1.1
  have e := flm_at (g := g.toNat) hR (by unfold sm4; exact hsm.symm)
  unfold tsM
  rw [e]
  split
  · omega
  · have m0 := pi.2.1 (4 * g.toNat) (by omega)
    have m1 := pi.2.1 (4 * g.toNat + 1) (by omega)
    have m2 := pi.2.1 (4 * g.toNat + 2) (by omega)
    have m3 := pi.2.1 (4 * g.toNat + 3) (by omega)
    have hp : 0 ≤ m (4 * g + s).toNat ∧ m (4 * g + s).toNat ≤ f * m 24 := by
      rcases (show s = 0 ∨ s = 1 ∨ s = 2 ∨ s = 3 by omega) with z | z | z | z <;> subst z
      · rw [show (4 * g + 0).toNat = 4 * g.toNat by omega]; omega
      · rw [show (4 * g + 1).toNat = 4 * g.toNat + 1 by omega]; omega
      · rw [show (4 * g + 2).toNat = 4 * g.toNat + 2 by omega]; omega
      · rw [show (4 * g + 3).toNat = 4 * g.toNat + 3 by omega]; omega
    have f1 : 1 ≤ f * m 24 := by
      have := Int.mul_le_mul (show 1 ≤ f by omega) hR (by omega) (by omega)
      omega
    exact ts_b hp.1 hp.2 f1
