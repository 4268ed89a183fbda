/-! reading an expression -/
def TK (M : Mm) : Prop := (0 ≤ M 97 13 ∧ M 97 13 ≤ M 97 14 ∧ M 97 14 ≤ M 97 12) ∧ (0 ≤ M 97 15 ∧ M 97 15 ≤ 3) ∧ (M 97 15 ≠ 0 → M 97 13 < M 97 14) ∧ (M 97 15 = 2 → 0 ≤ M 97 16 ∧ M 97 16 ≤ 10000009)
theorem TK.b {M : Mm} (h : TK M) : (0 ≤ M 97 13 ∧ M 97 13 ≤ M 97 14 ∧ M 97 14 ≤ M 97 12) ∧ (0 ≤ M 97 15 ∧ M 97 15 ≤ 3) := ⟨h.1, h.2.1⟩
theorem TK.lt {M : Mm} (h : TK M) : M 97 15 ≠ 0 → M 97 13 < M 97 14 := h.2.2.1
theorem TK.wo {M : Mm} (h : TK M) : M 97 15 = 2 → 0 ≤ M 97 16 ∧ M 97 16 ≤ 10000009 := h.2.2.2
theorem TK.eq {M M1 : Mm} (h : TK M) (e2 : M1 97 12 = M 97 12) (e3 : M1 97 13 = M 97 13) (e4 : M1 97 14 = M 97 14) (e5 : M1 97 15 = M 97 15) (e6 : M1 97 16 = M 97 16) : TK M1 := by
  unfold TK at *; rw [e2, e3, e4, e5, e6]; exact h
def qt (t : Int) : Int := if 2 ≤ t then 1 else 0
def PS (M : Mm) (F0 t : Int) : Prop := SI M F0 ∧ (M 97 18 = 0 → HI M F0 (qt t) ∧ SQ M t)
theorem PS.mk_ {M : Mm} {F0 t q : Int} (hs : SI M F0) (hh : HI M F0 q) (hq : SQ M t) (e : (2 ≤ t ∧ q = 1) ∨ (t < 2 ∧ q = 0)) : PS M F0 t := by
  refine ⟨hs, fun _ => ⟨?_, hq⟩⟩
  have : qt t = q := by unfold qt; split <;> omega
  rw [this]; exact hh
theorem PS.bad {M : Mm} {F0 t : Int} (hs : SI M F0) (hb : M 97 18 ≠ 0) : PS M F0 t := ⟨hs, fun z => absurd z hb⟩
theorem PS.hi {M : Mm} {F0 t q : Int} (h : PS M F0 t) (hb : M 97 18 = 0) (e : (2 ≤ t ∧ q = 1) ∨ (t < 2 ∧ q = 0)) : HI M F0 q := by
  have : qt t = q := by unfold qt; split <;> omega
  rw [← this]; exact (h.2 hb).1
theorem PS.sq {M : Mm} {F0 t : Int} (h : PS M F0 t) (hb : M 97 18 = 0) : SQ M t := (h.2 hb).2
theorem PS.t_ {M : Mm} {F0 t t' : Int} (h : PS M F0 t) (e : t = t') : PS M F0 t' := e ▸ h
def mz (f b t : Int) : Int := if b ≠ 0 ∨ t = 4 then 0 else 2 * (400 - f) + 1 + (if t = 3 then 1 else 0)
theorem mz_lt {f f1 b1 b t r : Int} (hb : b = 0) (ht : t ≠ 4) (h1 : f ≤ f1 ∧ f1 ≤ 400) (h : b1 = 0 → f < f1 ∨ r = 4 ∨ (r = 2 ∧ t = 3)) : mz f1 b1 r < mz f b t := by
  unfold mz
  rw [if_neg (show ¬ (b ≠ 0 ∨ t = 4) by omega)]
  split
  · split <;> omega
  · have := h (by omega)
    split <;> split <;> omega
theorem mz_nn {f b t : Int} (h : f ≤ 400) : 0 ≤ mz f b t := by
  unfold mz
  split
  · omega
  · split <;> omega
def LF (M : Mm) (F0 n v : Int) : Prop := M 97 18 = 0 → HI M F0 1 ∧ M 108 n.toNat = v
theorem LF.nx {M M1 : Mm} {F0 n v : Int} (h : LF M F0 n v) (e8 : M1 108 = M 108) (e9 : M1 109 = M 109) (e0 : M1 110 = M 110) (e1 : M1 111 = M 111) (e21 : M1 97 21 = M 97 21) (e27 : M1 97 27 = M 97 27) (hb : M1 97 18 = 0 → M 97 18 = 0) : LF M1 F0 n v := fun z => ⟨HI.nx (h (hb z)).1 e8 e9 e0 e1 e21 e27, by rw [e8]; exact (h (hb z)).2⟩
theorem LF.bad {M : Mm} {F0 n v : Int} (h : M 97 18 ≠ 0) : LF M F0 n v := fun z => absurd z h
theorem LF.hi {M : Mm} {F0 n v : Int} (h : LF M F0 n v) (hb : M 97 18 = 0) : HI M F0 1 := (h hb).1
theorem LF.at_ {M : Mm} {F0 n v : Int} (h : LF M F0 n v) (hb : M 97 18 = 0) : M 108 n.toNat = v := (h hb).2
/-- a comparison: the token went on first -/
theorem SI.cmp {M M1 M2 M3 : Mm} {F0 v w l : Int} (hs : SI M F0) (s2 : SI M2 F0) (hp : STP M1 M2 l) (hx : SX M1 M2) (a0 : M1 110 = M 110) (a21 : M1 97 21 = M 97 21) (a27 : M1 97 27 = M 97 27) (b0 : M2 110 = M1 110) (hv : 20 ≤ v ∧ v ≤ 31) (ha : v ≠ 28 ∧ v ≠ 29) (e0 : M3 110 = ms (M2 110) (M2 97 27).toNat v) (e1 : M3 111 = ms (M2 111) (M2 97 27).toNat w) (e21 : M3 97 21 = M2 97 21) (e27 : M3 97 27 = M2 97 27 + 1) (h1 : M 97 13 < M3 97 13) (h2 : M3 97 13 ≤ 400) : SI M3 F0 := by
  have g := hs
  obtain ⟨x1, x2, x3, x4, x5⟩ := hs
  obtain ⟨y1, y2, y3, y4, y5⟩ := s2
  have p1 := hp.1
  unfold SX at hx
  rw [a0, a21, a27] at hx
  have k2 : SIv (M2 110) (M2 111) (M2 97 21) (M2 97 27) (M 97 13) F0 := ⟨y1, by omega, by rw [b0, a0]; omega, x4, y5⟩
  unfold SI; rw [e0, e1, e21, e27]
  exact SIv.push k2 h1 h2 hv (by unfold AO; omega)
theorem SI.zero {M : Mm} {F0 : Int} (h0 : 0 ≤ F0) (h : F0 = M 97 21) (hp : M 97 27 = 0) (hf : M 97 21 ≤ M 97 13 ∧ M 97 13 ≤ 400) : SI M F0 := by
  unfold SI SIv
  rw [hp]
  exact ⟨by omega, by omega, by simp [cn]; omega, by omega, fun j hj => by omega⟩
theorem HI.zero {M : Mm} {F0 : Int} (h : F0 = M 97 21) (hp : M 97 27 = 0) : HI M F0 0 := by
  unfold HI; rw [hp, h]; exact HIv.start _ _ _ _ _
theorem SQ.zero {M : Mm} {t : Int} (hp : M 97 27 = 0) : SQ M t := ⟨fun j j' h1 h2 => by omega, fun _ j hj => by omega, fun _ j hj => by omega⟩
def RX (M : Mm) (a : Int) : Prop := M 97 18 = 0 → RG (M 108) (M 109) a (M 97 21)
theorem RX.fin {M M1 : Mm} {F0 t : Int} (hb : M1 97 18 = M 97 18) (hp : PS M F0 t) (ht : M 97 18 = 0 → t = 4) (hs : SI M1 F0) (hT : HT M M1 F0) (hz : STP M M1 1) : RX M1 F0 := by
  intro z
  rw [hb] at z
  have h4 := ht z
  have a1 := hT (hp.hi z (q := 1) (by omega))
  have p0 := hz.z (h4 ▸ hp.sq z)
  have sa := hs.ar
  exact HIv.done a1 (by omega) p0
theorem INN.nx {M M1 : Mm} {r r' : Int} (h : INN M r) (e : r = r') (e0 : M1 110 = M 110) (e27 : M1 97 27 = M 97 27) : INN M1 r' := by
  subst e; unfold INN INNp at *; rw [e0, e27]; exact h
theorem PS.lf {M : Mm} {F0 n v : Int} (hs : SI M F0) (h : LF M F0 n v) (hq : SQ M 3) : PS M F0 3 := ⟨hs, fun z => ⟨(h z).1, hq⟩⟩
theorem mz_t {a b c f d t t' : Int} (h : mz a b c < mz f d t) (e : t' = t) : mz a b c < mz f d t' := by rw [e]; exact h
