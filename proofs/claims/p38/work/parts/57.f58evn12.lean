/-! the reference's evening -/
def CNX (K W : Nat → Int) (M1 : Mm) : Prop := M1 97 18 = 0 → ∃ N : Nat, M1 97 19 = (N : Int) ∧ CNT K W N ∧ TXM K W N M1
def T01q (b x : Int) : Prop := (b = 0 → x = 1) ∧ (b ≠ 0 → x = 0)
section EVs
variable {K W S E : Nat → Int} {mt i : Nat} {lv n v r d dO ci t nx : Int} {N : Nat} {z m mo mm : Nat → Int} {M M1 M2 : Mm}
theorem CNX.b (hb : M1 97 18 ≠ 0) : CNX K W M1 := fun q => absurd q hb
theorem CNX.eq (h : CNX K W M) (e7 : M1 107 = M 107) (e8 : M1 108 = M 108) (e9 : M1 109 = M 109) (h18 : M1 97 18 = M 97 18) (h19 : M1 97 19 = M 97 19) (h21 : M1 97 21 = M 97 21) : CNX K W M1 := by
  intro hb
  obtain ⟨N, h1, h2, h3⟩ := h (by omega)
  exact ⟨N, by omega, h2, h3.eq e7 e8 e9 h21⟩
theorem CNX.e (hz : TZM M1 K W S E mt) (cq : CLQ K W S E mt i lv nx M1) (hn : 0 ≤ nx) (hp : clP K W nx.toNat = (i, lv)) (cln : CLN K W nx.toNat) (txm : M1 97 18 = 0 → TXM K W (nx.toNat + 1) M1) (hs : M1 97 15 = 0) : CNX K W M1 := by
  intro hb
  obtain ⟨h1, h2, j, l, ja, jb, jc⟩ := cq.1 hb
  have aw := ja.w hz
  have e := clP_s hp (jc.s1 rfl)
  exact ⟨nx.toNat + 1, by omega, CNT.of cln (by omega) (by rw [e.1]; omega), txm hb⟩
theorem TXG.t01 {s : Int × Nat} (h : TXG K W S E mt M1 s) : T01q (M1 97 18) s.1 := ⟨fun q => (h.1 q).1, fun q => (h.2 q).1⟩
theorem TXM.cl (h : TXM K W N M1) (hc : 0 ≤ ci ∧ ci < (N : Int)) : CLM K W (clP K W ci.toNat).1 (clP K W ci.toNat).2 M1 (8 * ci) := by
  have q := h ci.toNat (by omega)
  rw [show 8 * ((ci.toNat : Nat) : Int) = 8 * ci by omega] at q
  exact q
theorem TXM.tm (h : TXM K W N M1) (hc : 0 ≤ ci ∧ ci < (N : Int)) : M1 107 (8 * ci + 7).toNat = cTm K W (clP K W ci.toNat).1 (clP K W ci.toNat).2 := (h.cl hc).2.2.2.2.1
theorem TXM.rd (h : TXM K W nx.toNat M) (hn : 0 ≤ nx ∧ M 97 19 = nx) (q : CLM K W (clP K W nx.toNat).1 (clP K W nx.toNat).2 M1 (8 * M 97 19) ∧ UN M M1 (8 * M 97 19) ∧ LO M M1 (M 97 21) ∧ M 97 21 ≤ M1 97 21) : TXM K W (nx.toNat + 1) M1 := by
  obtain ⟨q1, q2, q3, h21⟩ := q
  rw [show 8 * M 97 19 = 8 * ((nx.toNat : Nat) : Int) by omega] at q1 q2
  exact (h.nx q3 q2 h21).add q1
theorem EVM.bad (ev : EVQ S (tXf K W 12 0 0) v) (h17 : M1 97 17 = v) (s0 : (tXf K W 12 0 0).1 = 0) (hr : r = -6) (h33 : M1 97 33 = -1) (e : E25 m (M1 101)) : EVM K W S n z m M1 r := by
  rw [← h17] at ev
  exact ⟨ev, fun _ => ⟨hr, h33, e⟩, fun q => by omega⟩
theorem EVM.stop (ev : EVQ S (tXf K W 12 0 0) v) (h17 : M1 97 17 = v) (s1 : (tXf K W 12 0 0).1 = 1) (cnt : CNT K W N) (hc : 0 ≤ ci ∧ ci < (N : Int)) (eo : evC n z K W m ci.toNat = (0, mo, dO)) (es : evI n z K W (clP K W ci.toNat).1 (clP K W ci.toNat).2 (0, mo, dO) t.toNat = (0, mm, d)) (ht : 0 ≤ t ∧ t < cTm K W (clP K W ci.toNat).1 (clP K W ci.toNat).2) (hs : r = (evS n z K W (clP K W ci.toNat).1 (clP K W ci.toNat).2 mm d).1) (hr : r < 0) (h33 : M1 97 33 = ci) (e : E25 m (M1 101)) : EVM K W S n z m M1 r := by
  rw [← h17] at ev
  have es1 := evI_s es
  have es2 := evI_e (u := (cTm K W (clP K W ci.toNat).1 (clP K W ci.toNat).2).toNat) (t := t.toNat + 1) (by rw [es1, ← hs]; exact hr) (by omega)
  have ec : (evC n z K W m (ci.toNat + 1)).1 = r := by
    rw [evC_s (by rw [eo]), eo, es2, es1, ← hs]
  exact ⟨ev, fun q => by omega, fun _ => ⟨N, cnt, Or.inl ⟨ci.toNat, by omega, by rw [eo], by omega, ec.symm, by omega⟩, fun _ => e, fun q => by omega⟩⟩
theorem EVM.done (ev : EVQ S (tXf K W 12 0 0) v) (h17 : M1 97 17 = v) (s1 : (tXf K W 12 0 0).1 = 1) (cnt : CNT K W N) (hc : ci = (N : Int)) (eo : evC n z K W m ci.toNat = (0, mo, d)) (hr : r = d) (h0 : 0 ≤ d) (h33 : M1 97 33 = -1) (e : E25 mo (M1 101)) : EVM K W S n z m M1 r := by
  rw [← h17] at ev
  rw [show ci.toNat = N by omega] at eo
  exact ⟨ev, fun q => by omega, fun _ => ⟨N, cnt, Or.inr ⟨by rw [eo], by rw [eo]; exact hr, h33, by omega⟩, fun q => by omega, fun _ => by rw [eo]; exact e⟩⟩
theorem evI_n (es : evI n z K W i lv (0, mo, dO) t.toNat = (0, mm, d)) (ht : 0 ≤ t) {m1 : Nat → Int} {d1 : Int} (q : MVQ n z K W i lv mm d r m1 d1) (hr : r = 0) : evI n z K W i lv (0, mo, dO) (t + 1).toNat = (0, (evS n z K W i lv mm d).2.1, d1) := by
  rw [show (t + 1).toNat = t.toNat + 1 by omega, evI_s es]
  exact Prod.ext (by rw [← q.1]; exact hr) (Prod.ext rfl q.2.2.symm)
theorem evC_n (eo : evC n z K W m ci.toNat = (0, mo, dO)) (es : evI n z K W (clP K W ci.toNat).1 (clP K W ci.toNat).2 (0, mo, dO) t.toNat = (0, mm, d)) (hc : 0 ≤ ci) (ht : t = cTm K W (clP K W ci.toNat).1 (clP K W ci.toNat).2) : evC n z K W m (ci + 1).toNat = (0, mm, d) := by
  rw [show (ci + 1).toNat = ci.toNat + 1 by omega, evC_s (by rw [eo]), eo, ← ht]
  exact es
end EVs
