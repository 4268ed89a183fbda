/-! clauses -/
def CLv (cl op ar : Nat → Int) (n b : Int) : Prop := (0 ≤ cl b.toNat ∧ cl b.toNat ≤ 2) ∧ (0 ≤ cl (b + 1).toNat ∧ cl (b + 1).toNat ≤ 5 ∧ (cl b.toNat = 2 → cl (b + 1).toNat ≤ 3)) ∧ (-1 ≤ cl (b + 2).toNat ∧ cl (b + 2).toNat ≤ 5) ∧ (0 ≤ cl (b + 7).toNat ∧ cl (b + 7).toNat ≤ 20) ∧ (RG op ar (cl (b + 3).toNat) (cl (b + 4).toNat) ∧ cl (b + 4).toNat ≤ n) ∧ (RG op ar (cl (b + 5).toNat) (cl (b + 6).toNat) ∧ cl (b + 6).toNat ≤ n)
theorem RG.e {op ar op' ar' : Nat → Int} {a b a' b' : Int} (h : RG op ar a b) (ea : a' = a) (eb : b' = b) (e8 : op' = op) (e9 : ar' = ar) : RG op' ar' a' b' := by subst ea eb e8 e9; exact h
theorem CLv.cg {cl op ar cl' op' ar' : Nat → Int} {n n' b : Int} (h : CLv cl op ar n b) (e : ∀ j : Int, 0 ≤ j → j < 8 → cl' (b + j).toNat = cl (b + j).toNat) (lo : ∀ k : Nat, (k : Int) < n → op' k = op k ∧ ar' k = ar k) (hn : n ≤ n') : CLv cl' op' ar' n' b := by
  obtain ⟨h0, h1, h2, h7, ⟨h4, h4n⟩, ⟨h6, h6n⟩⟩ := h
  have e0 : cl' b.toNat = cl b.toNat := by have := e 0 (by omega) (by omega); rw [Int.add_zero] at this; exact this
  have e1 := e 1 (by omega) (by omega)
  have e2 := e 2 (by omega) (by omega)
  have e3 := e 3 (by omega) (by omega)
  have e4 := e 4 (by omega) (by omega)
  have e5 := e 5 (by omega) (by omega)
  have e6 := e 6 (by omega) (by omega)
  have e7 := e 7 (by omega) (by omega)
  unfold CLv
  rw [e0, e1, e2, e3, e4, e5, e6, e7]
  exact ⟨h0, h1, h2, h7, ⟨RG.cg h4 (fun k hk => lo k (by omega)), by omega⟩, ⟨RG.cg h6 (fun k hk => lo k (by omega)), by omega⟩⟩
def CLS (M : Mm) : Prop := ∀ i : Int, 0 ≤ i → i < M 97 19 → CLv (M 107) (M 108) (M 109) (M 97 21) (8 * i)
def CB (M : Mm) : Prop := M 97 18 = 0 → CLS M
theorem CLS.nx {M M1 : Mm} (h : CLS M) (e7 : M1 107 = M 107) (e8 : M1 108 = M 108) (e9 : M1 109 = M 109) (e19 : M1 97 19 = M 97 19) (e21 : M1 97 21 = M 97 21) : CLS M1 := by
  unfold CLS at *; rw [e7, e8, e9, e19, e21]; exact h
theorem CLS.zero {M : Mm} (h : M 97 19 = 0) : CLS M := fun i h0 h1 => by omega
theorem CB.nx {M M1 : Mm} (h : CB M) (e7 : M1 107 = M 107) (e8 : M1 108 = M 108) (e9 : M1 109 = M 109) (e19 : M1 97 19 = M 97 19) (e21 : M1 97 21 = M 97 21) (hb : M1 97 18 = 0 → M 97 18 = 0) : CB M1 := fun z => CLS.nx (h (hb z)) e7 e8 e9 e19 e21
def KQ (M M1 : Mm) : Prop := ∀ q : Nat, 25 ≤ q → M1 104 q = M 104 q
theorem KQ.e {M M1 : Mm} (h : M1 104 = M 104) : KQ M M1 := fun q _ => by rw [h]
theorem KQ.tr {M M1 M2 : Mm} (h : KQ M M1) (g : KQ M1 M2) : KQ M M2 := fun q hq => (g q hq).trans (h q hq)
def K1a (b v hd : Int) : Prop := hd = 2 → b = 0 → 0 ≤ v ∧ v ≤ 3
def K1 (b v hd : Int) : Prop := b = 0 → 0 ≤ v ∧ v ≤ 5 ∧ (hd = 2 → v ≤ 3)
def K2 (b v : Int) : Prop := b = 0 → -1 ≤ v ∧ v ≤ 5
def K7 (b v : Int) : Prop := b = 0 → 0 ≤ v ∧ v ≤ 20
def K4 (M : Mm) (n v : Int) : Prop := M 97 18 = 0 → RG (M 108) (M 109) n v
theorem K1a.nx {b b1 v v1 hd : Int} (h : K1a b v hd) (hb : b1 = 0 → b = 0) (e : v1 = v) : K1a b1 v1 hd := by subst e; exact fun z y => h z (hb y)
theorem K1.nx {b b1 v v1 hd : Int} (h : K1 b v hd) (hb : b1 = 0 → b = 0) (e : v1 = v) : K1 b1 v1 hd := by subst e; exact fun y => h (hb y)
theorem K2.nx {b b1 v v1 : Int} (h : K2 b v) (hb : b1 = 0 → b = 0) (e : v1 = v) : K2 b1 v1 := by subst e; exact fun y => h (hb y)
theorem K7.nx {b b1 v v1 : Int} (h : K7 b v) (hb : b1 = 0 → b = 0) (e : v1 = v) : K7 b1 v1 := by subst e; exact fun y => h (hb y)
theorem K1.or {b v hd : Int} (h : K1a b v hd) (e : hd = 2 ∨ b ≠ 0) : K1 b v hd := fun z => by
  have := h (by omega) z
  omega
theorem K4.nx {M M1 : Mm} {n v n1 v1 : Int} (h : K4 M n v) (hb : M1 97 18 = 0 → M 97 18 = 0) (e8 : M1 108 = M 108) (e9 : M1 109 = M 109) (en : n1 = n) (ev : v1 = v) : K4 M1 n1 v1 := by
  subst en ev
  intro z
  rw [e8, e9]; exact h (hb z)
theorem K4.lo {M M1 : Mm} {n v n1 v1 F : Int} (h : K4 M n v) (hb : M1 97 18 = 0 → M 97 18 = 0) (lo : LO M M1 F) (hv : v ≤ F) (en : n1 = n) (ev : v1 = v) : K4 M1 n1 v1 := by
  subst en ev
  intro z
  exact RG.cg (h (hb z)) (fun k hk => lo k (by omega))
theorem K4.rx {M : Mm} {a n v : Int} (h : RX M a) (en : n = a) (e : v = M 97 21) : K4 M n v := by subst e en; exact h
theorem K4.bad {M : Mm} {n v : Int} (hb : M 97 18 ≠ 0) : K4 M n v := fun z => absurd z hb
theorem K4.nil {M : Mm} {n v : Int} (e : n = v) (h : 0 ≤ n ∧ n ≤ 400) : K4 M n v := by subst e; exact fun _ => RG.nil _ _ h
def UN (M M1 : Mm) (cx : Int) : Prop := ∀ k : Nat, (k : Int) < cx → M1 107 k = M 107 k
theorem UN.rf (M : Mm) (cx : Int) : UN M M cx := fun _ _ => rfl
theorem UN.nx {M M1 M2 : Mm} {cx : Int} (h : UN M M1 cx) (e : M2 107 = M1 107) : UN M M2 cx := fun k hk => by rw [e]; exact h k hk
theorem UN.wr {M M1 M2 : Mm} {cx i v : Int} (h : UN M M1 cx) (e : M2 = mu M1 107 i.toNat v) (hi : 0 ≤ cx ∧ cx ≤ i) : UN M M2 cx := fun k hk => by
  rw [e, mu_ne _ _ (by omega)]; exact h k hk
theorem CB.add {M M1 : Mm} {cx hd : Int} (hc : CLS M) (hcx : cx = 8 * M 97 19) (h0 : 0 ≤ M 97 19) (ncl : M1 97 19 = M 97 19 + 1) (un : UN M M1 cx) (lo : LO M M1 (M 97 21)) (n1 : M 97 21 ≤ M1 97 21) (k0 : M1 107 cx.toNat = hd) (hhd : 0 ≤ hd ∧ hd ≤ 2) (k1 : K1 (M1 97 18) (M1 107 (cx + 1).toNat) hd) (k2 : K2 (M1 97 18) (M1 107 (cx + 2).toNat)) (k7 : K7 (M1 97 18) (M1 107 (cx + 7).toNat)) (k3 : M1 107 (cx + 3).toNat = M 97 21) (k4 : K4 M1 (M 97 21) (M1 107 (cx + 4).toNat)) (k4n : M1 107 (cx + 4).toNat ≤ M1 97 21) (k6 : K4 M1 (M1 107 (cx + 5).toNat) (M1 107 (cx + 6).toNat)) (k6n : M1 107 (cx + 6).toNat ≤ M1 97 21) : CB M1 := by
  intro z i hi0 hi1
  by_cases hi : i < M 97 19
  · exact CLv.cg (hc i hi0 hi) (fun j _ _ => un _ (by omega)) lo n1
  · have hi2 : 8 * i = cx := by omega
    rw [hi2]
    refine ⟨by omega, ?_, k2 z, k7 z, ⟨by rw [k3]; exact k4 z, k4n⟩, ⟨k6 z, k6n⟩⟩
    rw [k0]; exact k1 z
theorem RX.nx {M M1 : Mm} {a : Int} (h : RX M a) (hb : M1 97 18 = 0 → M 97 18 = 0) (e8 : M1 108 = M 108) (e9 : M1 109 = M 109) (e21 : M1 97 21 = M 97 21) : RX M1 a := by
  intro z
  rw [e8, e9, e21]; exact h (hb z)
theorem RX.e {M : Mm} {a b : Int} (h : RX M a) (e : a = b) : RX M b := e ▸ h
theorem RX.bad {M : Mm} {a : Int} (h : M 97 18 ≠ 0) : RX M a := fun z => absurd z h
theorem LO.mo {M M1 : Mm} {F F' : Int} (h : LO M M1 F) (e : F' ≤ F) : LO M M1 F' := fun k hk => h k (by omega)
theorem K1a.no {b v hd : Int} (h : hd ≠ 2) : K1a b v hd := fun z => absurd z h
theorem CB.bad {M : Mm} (h : M 97 18 ≠ 0) : CB M := fun z => absurd z h
