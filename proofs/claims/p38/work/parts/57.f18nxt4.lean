theorem nv_cg {T U : Nat → Int} {s u : Nat} : ∀ n : Nat, (∀ k, k < n → T (s + k) = U (u + k)) → nv T s n = nv U u n
  | 0, _ => rfl
  | n + 1, h => by
    unfold nv
    rw [nv_cg n (fun k hk => h k (by omega)), h n (by omega)]
/-! a whole text: the reference -/
section TXs
variable {K W S E : Nat → Int} {m i : Nat} {lv n : Int} {M M1 M2 : Mm}
theorem tXf01 (K W : Nat → Int) : ∀ (n i : Nat) (lv : Int), (tXf K W n i lv).1 = 0 ∨ (tXf K W n i lv).1 = 1
  | 0, _, _ => Or.inl rfl
  | n + 1, i, lv => by
    unfold tXf
    split
    · split
      · exact Or.inr rfl
      · split
        · exact tXf01 K W n _ _
        · exact Or.inl rfl
    · exact Or.inl rfl
theorem TXG.b {s : Int × Nat} (tx : s = tXf K W (12 - n).toNat i lv) (cq : CLQ K W S E m i lv n M1) (hb : M1 97 18 ≠ 0) : TXG K W S E m M1 s := by
  refine ⟨fun z => absurd z hb, fun _ => ?_⟩
  obtain ⟨j, a, b⟩ := cq.2 hb
  rcases b with ⟨b1, b2⟩ | ⟨b1, b2⟩
  · rw [tx, show (12 - n).toNat = 0 by omega]
    exact ⟨rfl, by rw [a, b2]; rfl⟩
  · rw [tx, show (12 - n).toNat = (11 - n).toNat + 1 by omega, tXf_0 b2 rfl]
    exact ⟨rfl, a⟩
theorem TXG.e {s : Int × Nat} (hz : TZM M1 K W S E m) (tx : s = tXf K W (12 - n).toNat i lv) (cq : CLQ K W S E m i lv n M1) (hb : M1 97 18 = 0) (hs : M1 97 15 = 0) : TXG K W S E m M1 s := by
  refine ⟨fun _ => ?_, fun z => absurd hb z⟩
  obtain ⟨h1, h2, j, l, ja, jb, jc⟩ := cq.1 hb
  have aw := ja.w hz
  rw [tx, show (12 - n).toNat = (11 - n).toNat + 1 by omega, tXf_e jc rfl (by omega)]
  exact ⟨rfl, ja.2.2.2.2⟩
theorem TXG.m_ {s : Int × Nat} (hz : TZM M1 K W S E m) (tx : s = tXf K W (12 - n).toNat i lv) (cq : CLQ K W S E m i lv n M1) (hb : M1 97 18 = 0) (hs : M1 97 15 ≠ 0) (h59 : ¬ (M1 97 15 = 3 ∧ M1 97 16 = 59)) (u : MUQ M1 M2 0) : TXG K W S E m M2 s := by
  obtain ⟨h1, h2, j, l, ja, jb, jc⟩ := cq.1 hb
  have aw := ja.w hz
  rcases u.at_ hz ja hb (fun z => by omega) with y | y
  · exact absurd rfl y.2.1
  · refine ⟨fun z => absurd z y.1, fun _ => ?_⟩
    rw [tx, show (12 - n).toNat = (11 - n).toNat + 1 by omega, tXf_n jc rfl (by omega) (by omega)]
    exact ⟨rfl, y.2.2⟩
theorem TXG.g {s : Int × Nat} {j : Nat} {l : Int} (tx : s = tXf K W (12 - n).toNat i lv) (hn : 0 ≤ n ∧ n < 12) (jc : STq (sCl K W i lv) 1 j l) (hk : K j = 3 ∧ W j = 59) : s = tXf K W (12 - (n + 1)).toNat (j + 1) l := by
  rw [tx, show (12 - n).toNat = (11 - n).toNat + 1 by omega, tXf_g jc rfl hk, show (12 - (n + 1)).toNat = (11 - n).toNat by omega]
def EVQ (S : Nat → Int) (s : Int × Nat) (v : Int) : Prop := (s.1 = 1 ∧ v = -1) ∨ (s.1 = 0 ∧ v = S s.2)
theorem EVQ.det {s : Int × Nat} {v w : Int} (h : EVQ S s v) (g : EVQ S s w) : v = w := by
  rcases h with ⟨a, b⟩ | ⟨a, b⟩ <;> rcases g with ⟨c, d⟩ | ⟨c, d⟩ <;> omega
end TXs
/-- what the class's evening tells of the fault -/
theorem isTk.cg {T U : Nat → Int} {n k w s e : Int} (h : isTk T n k w s e) (g : ∀ j : Nat, (j : Int) < n → U j = T j) : isTk U n k w s e := by
  obtain ⟨h1, h2, h3, h4, h5, h6, h7, h8⟩ := h
  have gs : U s.toNat = T s.toNat := g _ (by omega)
  refine ⟨h1, h2, h3, by rw [gs]; exact h4, by rw [gs]; exact h5, fun z => ⟨(h6 z).1, by rw [gs]; exact (h6 z).2⟩, fun z => ?_, fun z => ?_⟩
  · obtain ⟨a1, a2, a3⟩ := h7 z
    refine ⟨fun j x y => by rw [g j (by omega)]; exact a1 j x y, fun x => by rw [g _ (by omega)]; exact a2 x, ?_⟩
    rw [a3]
    exact (wv_cg _ (fun k hk => g _ (by omega))).symm
  · obtain ⟨a1, a2, a3⟩ := h8 z
    refine ⟨fun j x y => by rw [g j (by omega)]; exact a1 j x y, fun x => by rw [g _ (by omega)]; exact a2 x, ?_⟩
    rw [a3]
    exact (nv_cg _ (fun k hk => g _ (by omega))).symm
theorem isSk.cg {T U : Nat → Int} {n p q : Int} (hp : 0 ≤ p) (h : isSk T n p q) (g : ∀ j : Nat, (j : Int) < n → U j = T j) : isSk U n p q := by
  obtain ⟨h1, h2, h3, h4⟩ := h
  exact ⟨h1, h2, fun j x y => by rw [g j (by omega)]; exact h3 j x y, fun x => by rw [g _ (by omega)]; exact h4 x⟩
theorem TZ.cg {T U : Nat → Int} {n : Int} {K W S E : Nat → Int} {m : Nat} (h : TZ T n K W S E m) (g : ∀ j : Nat, (j : Int) < n → U j = T j) : TZ U n K W S E m := by
  obtain ⟨h1, h2, h3, h4⟩ := h
  exact ⟨fun i hi => (h1 i hi).cg g, h2, h3.cg (Int.le_refl 0) g, fun i hi => (h4 i hi).cg (by have := (h1 i hi).1; have := (h1 i hi).2.1; omega) g⟩
/-! bytes -/
theorem oand_b (x : Int) : 0 ≤ oand x 255 ∧ oand x 255 ≤ 255 := by
  unfold oand
  have e : (Int32.ofInt x &&& Int32.ofInt 255).toInt = ((Int32.ofInt x).toBitVec &&& 255#32).toInt := rfl
  rw [e]
  have h : ((Int32.ofInt x).toBitVec &&& 255#32).toNat ≤ 255 := by
    rw [BitVec.toNat_and]
    exact Nat.and_le_right
  rw [BitVec.toInt_eq_toNat_of_lt (by omega)]
  omega
def BYT (T T1 : Nat → Int) (n a : Int) : Prop := (∀ k : Nat, (k : Int) < n → T1 k = T k) ∧ T1 n.toNat = oand (oshr a 24) 255 ∧ T1 (n + 1).toNat = oand (oshr a 16) 255 ∧ T1 (n + 2).toNat = oand (oshr a 8) 255 ∧ T1 (n + 3).toNat = oand (oshr a 0) 255
/-- so many of the four are laid (s = 24, 16, 8, 0, -8: what comes next) -/
def BYp (T T1 : Nat → Int) (n a s : Int) : Prop := (∀ k : Nat, (k : Int) < n → T1 k = T k) ∧ (s < 24 → T1 n.toNat = oand (oshr a 24) 255) ∧ (s < 16 → T1 (n + 1).toNat = oand (oshr a 16) 255) ∧ (s < 8 → T1 (n + 2).toNat = oand (oshr a 8) 255) ∧ (s < 0 → T1 (n + 3).toNat = oand (oshr a 0) 255)
theorem BYp.z (T : Nat → Int) (n a : Int) : BYp T T n a 24 := ⟨fun _ _ => rfl, fun z => by omega, fun z => by omega, fun z => by omega, fun z => by omega⟩
theorem BYp.s {T T1 T2 : Nat → Int} {n a s l : Int} (h : BYp T T1 n a s) (hs : s = 24 ∨ s = 16 ∨ s = 8 ∨ s = 0) (h0 : 0 ≤ n) (hl : 8 * (l - n) = 24 - s) (e : T2 = ms T1 l.toNat (oand (oshr a s) 255)) : BYp T T2 n a (s + -8) := by
  obtain ⟨a0, a1, a2, a3, a4⟩ := h
  subst e
  have o : ∀ k : Nat, (k : Int) < l → ms T1 l.toNat (oand (oshr a s) 255) k = T1 k := fun k hk => ms_ne _ _ (by omega)
  have y : ms T1 l.toNat (oand (oshr a s) 255) l.toNat = oand (oshr a s) 255 := ms_at _ _ _
  refine ⟨fun k hk => (o k (by omega)).trans (a0 k hk), fun z => ?_, fun z => ?_, fun z => ?_, fun z => ?_⟩
  · by_cases c : s = 24
    · subst c; rw [show n.toNat = l.toNat by omega]; exact y
    · rw [o _ (by omega)]; exact a1 (by omega)
  · by_cases c : s = 16
    · subst c; rw [show (n + 1).toNat = l.toNat by omega]; exact y
    · rw [o _ (by omega)]; exact a2 (by omega)
  · by_cases c : s = 8
    · subst c; rw [show (n + 2).toNat = l.toNat by omega]; exact y
    · rw [o _ (by omega)]; exact a3 (by omega)
  · by_cases c : s = 0
    · subst c; rw [show (n + 3).toNat = l.toNat by omega]; exact y
    · omega
theorem BYp.e {T T1 : Nat → Int} {n a s : Int} (h : BYp T T1 n a s) (hs : s < 0) : BYT T T1 n a := ⟨h.1, h.2.1 (by omega), h.2.2.1 (by omega), h.2.2.2.1 (by omega), h.2.2.2.2 (by omega)⟩
/-- both tapes are alike, of bytes -/
def TRb (T U : Nat → Int) (n : Int) : Prop := ∀ k : Nat, (k : Int) < n → T k = U k ∧ 0 ≤ T k ∧ T k ≤ 255
theorem TRb.add {T U T1 U1 : Nat → Int} {n n' a : Int} (h : TRb T U n) (h0 : 0 ≤ n) (x : BYT T T1 n a) (y : BYT U U1 n a) (e : n' = n + 4) : TRb T1 U1 n' := by
  intro k hk
  obtain ⟨x0, x1, x2, x3, x4⟩ := x
  obtain ⟨y0, y1, y2, y3, y4⟩ := y
  by_cases c : (k : Int) < n
  · rw [x0 k c, y0 k c]; exact h k c
  · rcases (show k = n.toNat ∨ k = (n + 1).toNat ∨ k = (n + 2).toNat ∨ k = (n + 3).toNat by omega) with z | z | z | z <;> rw [z]
    · rw [x1, y1]; exact ⟨rfl, oand_b _⟩
    · rw [x2, y2]; exact ⟨rfl, oand_b _⟩
    · rw [x3, y3]; exact ⟨rfl, oand_b _⟩
    · rw [x4, y4]; exact ⟨rfl, oand_b _⟩
def FED (T T5 : Nat → Int) (n a b c d e : Int) : Prop := ∃ T1 T2 T3 T4 : Nat → Int, BYT T T1 n a ∧ BYT T1 T2 (n + 4) b ∧ BYT T2 T3 (n + 8) c ∧ BYT T3 T4 (n + 12) d ∧ BYT T4 T5 (n + 16) e
theorem FED.tr {T U T1 U1 : Nat → Int} {n n' a b c d e : Int} (h : TRb T U n) (h0 : 0 ≤ n) (x : FED T T1 n a b c d e) (y : FED U U1 n a b c d e) (e5 : n' = n + 20) : TRb T1 U1 n' := by
  obtain ⟨p1, p2, p3, p4, x1, x2, x3, x4, x5⟩ := x
  obtain ⟨q1, q2, q3, q4, y1, y2, y3, y4, y5⟩ := y
  exact ((((h.add h0 x1 y1 rfl).add (by omega) x2 y2 (n' := n + 8) (by omega)).add (by omega) x3 y3 (n' := n + 12) (by omega)).add (by omega) x4 y4 (n' := n + 16) (by omega)).add (by omega) x5 y5 (by omega)
/-- what class and reference have alike: tape and fault -/
def TR (M : Mm) : Prop := TRb (M 32) (M 106) (M 31 1) ∧ M 0 12 = M 97 17
theorem TR.fr {M M1 : Mm} (h : TR M) (e32 : M1 32 = M 32) (e106 : M1 106 = M 106) (e1 : M1 31 1 ≤ M 31 1) (e12 : M1 0 12 = M 0 12) (e17 : M1 97 17 = M 97 17) : TR M1 := by
  refine ⟨?_, by rw [e12, e17]; exact h.2⟩
  rw [e32, e106]
  exact fun k hk => h.1 k (by omega)
theorem TR.z {M1 : Mm} (e1 : M1 31 1 = 0) (e : M1 0 12 = M1 97 17) : TR M1 := ⟨fun k hk => by omega, e⟩
theorem TXG.ev {K W S E : Nat → Int} {m : Nat} {M : Mm} {s : Int × Nat} (h : TXG K W S E m M s) : EVQ S s (M 97 17) := by
  by_cases c : M 97 18 = 0
  · exact Or.inl (h.1 c)
  · exact Or.inr (h.2 c)
def FEX (T T1 : Nat → Int) (n a b c d e : Int) : Prop := (n ≤ 380 → FED T T1 n a b c d e) ∧ (380 < n → T1 = T)
theorem TR.feed {M M1 M2 : Mm} {a b c d e : Int} (h : TR M) (hl : M 31 1 = M 97 12) (h0 : 0 ≤ M 31 1) (x1 : FEX (M 32) (M1 32) (M 31 1) a b c d e) (x2 : FEX (M1 106) (M2 106) (M1 97 12) a b c d e) (e106 : M1 106 = M 106) (e32 : M2 32 = M1 32) (e12 : M1 97 12 = M 97 12) (n1 : M 31 1 ≤ 380 → M2 31 1 = M 31 1 + 20) (n2 : 380 < M 31 1 → M2 31 1 = M 31 1) (ef : M2 0 12 = M 0 12) (eg : M2 97 17 = M 97 17) : TR M2 := by
  refine ⟨?_, by rw [ef, eg]; exact h.2⟩
  rw [e106, e12, ← hl] at x2
  rw [e32]
  by_cases c : M 31 1 ≤ 380
  · exact FED.tr h.1 h0 (x1.1 c) (x2.1 c) (n1 c)
  · rw [x1.2 (by omega), x2.2 (by omega), n2 (by omega)]
    exact h.1
theorem TR.tz {M M1 : Mm} {K W S E : Nat → Int} {m : Nat} (h : TR M) (hl : M 31 1 = M 97 12) (e106 : M1 106 = M 106) (e12 : M1 97 12 = M 97 12) (tz : TZ (M 32) (M 31 1) K W S E m) : TZM M1 K W S E m := by
  unfold TZM
  rw [e106, e12, ← hl]
  exact tz.cg (fun j hj => (h.1 j hj).1.symm)
theorem TR.ev {M1 M2 : Mm} {S : Nat → Int} {s : Int × Nat} (h0 : M2 31 1 = 0) (e0 : M2 0 12 = M1 0 12) (x1 : EVQ S s (M1 0 12)) (x2 : EVQ S s (M2 97 17)) : TR M2 := TR.z h0 (by rw [e0]; exact x1.det x2)
