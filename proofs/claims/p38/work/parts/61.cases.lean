theorem det_tasting {a b c r s o0 o2 w0 w2 n2 m2 : Int} (p : ((b < 0 ∨ 3 < b ∨ c < 0 ∨ 100 < c) → r = -1 ∧ n2 = o2) ∧ (0 ≤ b → b ≤ 3 → 0 ≤ c → c ≤ 100 → (a < 0 ∨ o0 ≤ a) → r = -2 ∧ n2 = o2) ∧ (0 ≤ b → b ≤ 3 → 0 ≤ c → c ≤ 100 → 0 ≤ a → a < o0 → 6 ≤ o2 → r = -5 ∧ n2 = o2) ∧ (0 ≤ b → b ≤ 3 → 0 ≤ c → c ≤ 100 → 0 ≤ a → a < o0 → o2 < 6 → r = o2 + 1 ∧ n2 = o2 + 1)) (q : ((b < 0 ∨ 3 < b ∨ c < 0 ∨ 100 < c) → s = -1 ∧ m2 = w2) ∧ (0 ≤ b → b ≤ 3 → 0 ≤ c → c ≤ 100 → (a < 0 ∨ w0 ≤ a) → s = -2 ∧ m2 = w2) ∧ (0 ≤ b → b ≤ 3 → 0 ≤ c → c ≤ 100 → 0 ≤ a → a < w0 → 6 ≤ w2 → s = -5 ∧ m2 = w2) ∧ (0 ≤ b → b ≤ 3 → 0 ≤ c → c ≤ 100 → 0 ≤ a → a < w0 → w2 < 6 → s = w2 + 1 ∧ m2 = w2 + 1)) (e0 : o0 = w0) (e2 : o2 = w2) : r = s ∧ n2 = m2 := by
  subst e0 e2
  obtain ⟨p0, p1, p2, p3⟩ := p
  obtain ⟨q0, q1, q2, q3⟩ := q
  by_cases g : (b < 0 ∨ 3 < b ∨ c < 0 ∨ 100 < c)
  · have x := p0 g
    have y := q0 g
    clear p0 p1 p2 p3 q0 q1 q2 q3
    omega
  by_cases g : (0 ≤ b) ∧ (b ≤ 3) ∧ (0 ≤ c) ∧ (c ≤ 100) ∧ (a < 0 ∨ o0 ≤ a)
  · have x := p1 g.1 g.2.1 g.2.2.1 g.2.2.2.1 g.2.2.2.2
    have y := q1 g.1 g.2.1 g.2.2.1 g.2.2.2.1 g.2.2.2.2
    clear p0 p1 p2 p3 q0 q1 q2 q3
    omega
  by_cases g : (0 ≤ b) ∧ (b ≤ 3) ∧ (0 ≤ c) ∧ (c ≤ 100) ∧ (0 ≤ a) ∧ (a < o0) ∧ (6 ≤ o2)
  · have x := p2 g.1 g.2.1 g.2.2.1 g.2.2.2.1 g.2.2.2.2.1 g.2.2.2.2.2.1 g.2.2.2.2.2.2
    have y := q2 g.1 g.2.1 g.2.2.1 g.2.2.2.1 g.2.2.2.2.1 g.2.2.2.2.2.1 g.2.2.2.2.2.2
    clear p0 p1 p2 p3 q0 q1 q2 q3
    omega
  by_cases g : (0 ≤ b) ∧ (b ≤ 3) ∧ (0 ≤ c) ∧ (c ≤ 100) ∧ (0 ≤ a) ∧ (a < o0) ∧ (o2 < 6)
  · have x := p3 g.1 g.2.1 g.2.2.1 g.2.2.2.1 g.2.2.2.2.1 g.2.2.2.2.2.1 g.2.2.2.2.2.2
    have y := q3 g.1 g.2.1 g.2.2.1 g.2.2.2.1 g.2.2.2.2.1 g.2.2.2.2.2.1 g.2.2.2.2.2.2
    clear p0 p1 p2 p3 q0 q1 q2 q3
    omega
  clear p0 p1 p2 p3 q0 q1 q2 q3
  omega
theorem det_wine {a b c r s o3 w3 n3 m3 : Int} (p : ((a < 0 ∨ 100 < a ∨ b < 0 ∨ 99 < b ∨ c < 0 ∨ 20 < c) → r = -1 ∧ n3 = o3) ∧ (0 ≤ a → a ≤ 100 → 0 ≤ b → b ≤ 99 → 0 ≤ c → c ≤ 20 → 6 ≤ o3 → r = -5 ∧ n3 = o3) ∧ (0 ≤ a → a ≤ 100 → 0 ≤ b → b ≤ 99 → 0 ≤ c → c ≤ 20 → o3 < 6 → r = o3 ∧ n3 = o3 + 1)) (q : ((a < 0 ∨ 100 < a ∨ b < 0 ∨ 99 < b ∨ c < 0 ∨ 20 < c) → s = -1 ∧ m3 = w3) ∧ (0 ≤ a → a ≤ 100 → 0 ≤ b → b ≤ 99 → 0 ≤ c → c ≤ 20 → 6 ≤ w3 → s = -5 ∧ m3 = w3) ∧ (0 ≤ a → a ≤ 100 → 0 ≤ b → b ≤ 99 → 0 ≤ c → c ≤ 20 → w3 < 6 → s = w3 ∧ m3 = w3 + 1)) (e3 : o3 = w3) : r = s ∧ n3 = m3 := by
  subst e3
  obtain ⟨p0, p1, p2⟩ := p
  obtain ⟨q0, q1, q2⟩ := q
  by_cases g : (a < 0 ∨ 100 < a ∨ b < 0 ∨ 99 < b ∨ c < 0 ∨ 20 < c)
  · have x := p0 g
    have y := q0 g
    clear p0 p1 p2 q0 q1 q2
    omega
  by_cases g : (0 ≤ a) ∧ (a ≤ 100) ∧ (0 ≤ b) ∧ (b ≤ 99) ∧ (0 ≤ c) ∧ (c ≤ 20) ∧ (6 ≤ o3)
  · have x := p1 g.1 g.2.1 g.2.2.1 g.2.2.2.1 g.2.2.2.2.1 g.2.2.2.2.2.1 g.2.2.2.2.2.2
    have y := q1 g.1 g.2.1 g.2.2.1 g.2.2.2.1 g.2.2.2.2.1 g.2.2.2.2.2.1 g.2.2.2.2.2.2
    clear p0 p1 p2 q0 q1 q2
    omega
  by_cases g : (0 ≤ a) ∧ (a ≤ 100) ∧ (0 ≤ b) ∧ (b ≤ 99) ∧ (0 ≤ c) ∧ (c ≤ 20) ∧ (o3 < 6)
  · have x := p2 g.1 g.2.1 g.2.2.1 g.2.2.2.1 g.2.2.2.2.1 g.2.2.2.2.2.1 g.2.2.2.2.2.2
    have y := q2 g.1 g.2.1 g.2.2.1 g.2.2.2.1 g.2.2.2.2.1 g.2.2.2.2.2.1 g.2.2.2.2.2.2
    clear p0 p1 p2 q0 q1 q2
    omega
  clear p0 p1 p2 q0 q1 q2
  omega
theorem det_back {a r s o0 o1 o2 o3 o4 o5 o6 o7 o8 o9 o10 o11 o12 o13 w0 w1 w2 w3 w4 w5 w6 w7 w8 w9 w10 w11 w12 w13 n0 n1 n2 n3 m0 m1 m2 m3 : Int} (p : ((a < 0 ∨ 1 < a) → r = -1 ∧ n0 = o0 ∧ n1 = o1 ∧ n2 = o2 ∧ n3 = o3) ∧ (a = 0 → o12 = 0 → r = -2 ∧ n0 = o0 ∧ n1 = o1 ∧ n2 = o2 ∧ n3 = o3) ∧ (a = 1 → o13 = 0 → r = -2 ∧ n0 = o0 ∧ n1 = o1 ∧ n2 = o2 ∧ n3 = o3) ∧ (a = 0 → o12 ≠ 0 → r = 0 ∧ n0 = o4 ∧ n1 = o5 ∧ n2 = o6 ∧ n3 = o7) ∧ (a = 1 → o13 ≠ 0 → r = 0 ∧ n0 = o8 ∧ n1 = o9 ∧ n2 = o10 ∧ n3 = o11)) (q : ((a < 0 ∨ 1 < a) → s = -1 ∧ m0 = w0 ∧ m1 = w1 ∧ m2 = w2 ∧ m3 = w3) ∧ (a = 0 → w12 = 0 → s = -2 ∧ m0 = w0 ∧ m1 = w1 ∧ m2 = w2 ∧ m3 = w3) ∧ (a = 1 → w13 = 0 → s = -2 ∧ m0 = w0 ∧ m1 = w1 ∧ m2 = w2 ∧ m3 = w3) ∧ (a = 0 → w12 ≠ 0 → s = 0 ∧ m0 = w4 ∧ m1 = w5 ∧ m2 = w6 ∧ m3 = w7) ∧ (a = 1 → w13 ≠ 0 → s = 0 ∧ m0 = w8 ∧ m1 = w9 ∧ m2 = w10 ∧ m3 = w11)) (e0 : o0 = w0) (e1 : o1 = w1) (e2 : o2 = w2) (e3 : o3 = w3) (e4 : o4 = w4) (e5 : o5 = w5) (e6 : o6 = w6) (e7 : o7 = w7) (e8 : o8 = w8) (e9 : o9 = w9) (e10 : o10 = w10) (e11 : o11 = w11) (e12 : o12 = w12) (e13 : o13 = w13) : r = s ∧ n0 = m0 ∧ n1 = m1 ∧ n2 = m2 ∧ n3 = m3 := by
  subst e0 e1 e2 e3 e4 e5 e6 e7 e8 e9 e10 e11 e12 e13
  obtain ⟨p0, p1, p2, p3, p4⟩ := p
  obtain ⟨q0, q1, q2, q3, q4⟩ := q
  by_cases g : (a < 0 ∨ 1 < a)
  · have x := p0 g
    have y := q0 g
    clear p0 p1 p2 p3 p4 q0 q1 q2 q3 q4
    omega
  by_cases g : (a = 0) ∧ (o12 = 0)
  · have x := p1 g.1 g.2
    have y := q1 g.1 g.2
    clear p0 p1 p2 p3 p4 q0 q1 q2 q3 q4
    omega
  by_cases g : (a = 1) ∧ (o13 = 0)
  · have x := p2 g.1 g.2
    have y := q2 g.1 g.2
    clear p0 p1 p2 p3 p4 q0 q1 q2 q3 q4
    omega
  by_cases g : (a = 0) ∧ (o12 ≠ 0)
  · have x := p3 g.1 g.2
    have y := q3 g.1 g.2
    clear p0 p1 p2 p3 p4 q0 q1 q2 q3 q4
    omega
  by_cases g : (a = 1) ∧ (o13 ≠ 0)
  · have x := p4 g.1 g.2
    have y := q4 g.1 g.2
    clear p0 p1 p2 p3 p4 q0 q1 q2 q3 q4
    omega
  clear p0 p1 p2 p3 p4 q0 q1 q2 q3 q4
  omega
set_option maxHeartbeats 4000000 in
set_option maxRecDepth 100000 in
theorem law_c0 (X : Cx) (b L : Nat) (xs : Nat → Int32) (C N : Nat) (hC : C + 0 ≤ 600000) (hN : N + 0 ≤ 7302249) (i : Int) (M : Mm) (hR : Rg M) (ic : IC M) (im : IM M) (crx : CX M) (h0 : 0 ≤ i) (h1 : i + 7 ≤ L) (hL : L ≤ 3584) (hk : ∀ M' : Mm, Rg M' → IC M' → IM M' → CX M' → J X.1 RL cL_law 4 ret (ELW X M' b L xs) C N Zl 1429 [(3, vi i), (2, vr X 97), (1, vr X 0), (0, .ref b)] []) : J X.1 RL cL_law 4 ret (ELW X M b L xs) C N Zl 196 [(3, vi i), (2, vr X 97), (1, vr X 0), (0, .ref b)] [] := by
  have cr := crx.1
  have wr := crx.2.1
  have gr := crx.2.2
  have bb := ICb ic
  refine j_aload (pc' := 197) 2 dL_law_196 rfl rfl ?_
  refine j_aload (pc' := 198) 3 dL_law_197 rfl rfl ?_
  refine j_iload_n (pc' := 199) 0 dL_law_198 rfl rfl ?_
  refine j_iconst (pc' := 200) dL_law_199 rfl ?_
  refine j_iadd (pc' := 201) dL_law_200 rfl ?_
  refine w_sld (pc' := 202) dL_law_201 rfl (by omega) (by omega) ?_
  obtain ⟨ta, tb, P, Lq, F, Z, tv, pub⟩ := gr.1
  refine w_call hC hN hR (pc' := 205) (As := [vi (sx xs (i + 1))]) (o := 0) (S := []) dL_law_202 rfl m_L_13 w_X9_glass (c_X9_glass_x X M ic (sx xs (i + 1)) (sx_in xs (i + 1)) ta tb (M 99 0) P Lq F Z (M 101) (fun j => M 99 (4 + j)) tv pub) rfl ⟨_, _, _, rfl, rfl, rfl⟩ (Nat.le_of_ble_eq_true rfl) (Nat.le_of_ble_eq_true rfl) rfl (Nat.le_of_ble_eq_true rfl) (fun v M1 hq hR1 => ?_)
  obtain ⟨r1, rfl, ic1, f1, e1_0, e1_1, e1_2, e1_3, e1_4, e1_5, e1_6, e1_7, e1_8, e1_9, e1_10, e1_11, e1_12, e1_13, e1_14, e1_15, e1_16, p1⟩ := hq
  have im1 : IM M1 := IM.fr im f1 (fun c z => by first | omega | (dsimp only at z; omega))
  have fd1 := frD (Fr.tr Fr.rf f1 fi_76)
  have wr1 : TR M1 := TR.fr wr (f1 32 (by decide)) (f1 106 (by decide)) (by omega) (by omega) (congrFun (f1 97 (by decide)) 17)
  show J X.1 RL cL_law 4 ret (ELW X M1 b L xs) C N Zl 205 [(3, vi i), (2, vr X 97), (1, vr X 0), (0, .ref b)] [vi r1]
  refine j_pop (pc' := 206) dL_law_205 rfl rfl ?_
  refine j_aload (pc' := 207) 1 dL_law_206 rfl rfl ?_
  refine j_aload (pc' := 208) 3 dL_law_207 rfl rfl ?_
  refine j_iload_n (pc' := 209) 0 dL_law_208 rfl rfl ?_
  refine j_iconst (pc' := 210) dL_law_209 rfl ?_
  refine j_iadd (pc' := 211) dL_law_210 rfl ?_
  refine w_sld (pc' := 212) dL_law_211 rfl (by omega) (by omega) ?_
  refine w_call hC hN hR1 (pc' := 215) (As := [vi (sx xs (i + 1))]) (o := 97) (S := []) dL_law_212 rfl m_L_17 w_X10_glass (c_X10_glass_x X M1 im1 (sx xs (i + 1)) (sx_in xs (i + 1))) rfl ⟨_, _, _, rfl, rfl, rfl⟩ (Nat.le_of_ble_eq_true rfl) (Nat.le_of_ble_eq_true rfl) rfl (Nat.le_of_ble_eq_true rfl) (fun v M2 hq hR2 => ?_)
  obtain ⟨r2, rfl, im2, f2, e2_0, e2_1, e2_2, e2_3, e2_4, e2_5, e2_6, e2_7, e2_8, e2_9, e2_10, e2_11, e2_12, e2_13, e2_14, e2_15, e2_16, e2_17, p2⟩ := hq
  have ic2 : IC M2 := IC.fr ic1 f2 (fun c z => by unfold free isT; first | omega | (dsimp only at z; omega))
  have fd2 := frC (Fr.tr Fr.rf f2 fi_77)
  have x2 := p2.2
  replace p2 := p2.1
  have wr2 : TR M2 := TR.fr wr1 (f2 32 (by decide)) (f2 106 (by decide)) (by omega) (congrFun (f2 0 (by decide)) 12) (by omega)
  show J X.1 RL cL_law 4 ret (ELW X M2 b L xs) C N Zl 215 [(3, vi i), (2, vr X 97), (1, vr X 0), (0, .ref b)] [vi r2]
  refine j_pop (pc' := 216) dL_law_215 rfl rfl ?_
  refine j_goto (tgt := 1429) dL_law_216 rfl ?_
  have F := Fr.tr (P := fun c => (fun c => (2 ≤ c ∧ c ≤ 6) ∨ c = 0 ∨ c = 96) c ∨ (fun c => c = 97 ∨ c = 98 ∨ c = 99) c) (Fr.tr Fr.rf f1 (fun c z => Or.inl z)) f2 (fun c z => Or.inr z)
  have k0_10 : M2 0 10 = M1 0 10 := congrFun (f2 0 (by first | decide | omega | (dsimp only; omega))) 10
  have k0_11 : M2 0 11 = M1 0 11 := congrFun (f2 0 (by first | decide | omega | (dsimp only; omega))) 11
  have k0_12 : M2 0 12 = M1 0 12 := congrFun (f2 0 (by first | decide | omega | (dsimp only; omega))) 12
  have k0_13 : M2 0 13 = M1 0 13 := congrFun (f2 0 (by first | decide | omega | (dsimp only; omega))) 13
  have k97_1 : M1 97 1 = M 97 1 := congrFun (f1 97 (by first | decide | omega | (dsimp only; omega))) 1
  have k97_10 : M1 97 10 = M 97 10 := congrFun (f1 97 (by first | decide | omega | (dsimp only; omega))) 10
  have k97_17 : M1 97 17 = M 97 17 := congrFun (f1 97 (by first | decide | omega | (dsimp only; omega))) 17
  have k97_33 : M1 97 33 = M 97 33 := congrFun (f1 97 (by first | decide | omega | (dsimp only; omega))) 33
  have k97_44 : M1 97 44 = M 97 44 := congrFun (f1 97 (by first | decide | omega | (dsimp only; omega))) 44
  obtain ⟨g1, g2, g3, g4, rf, ⟨g6a, g6b⟩, g7_⟩ := gr
  obtain ⟨pr1, pa1, pb1, pc1, n0_, a0_⟩ := p1
  obtain ⟨hrr, gg1, gk⟩ := GR.glass f2 (fun c z => by unfold inT; first | omega | (dsimp only at z; omega)) (f1 99 (by first | decide | omega | (dsimp only; omega))) ((f2 101 (by first | decide | omega | (dsimp only; omega))).trans (f1 101 (by first | decide | omega | (dsimp only; omega)))) (by unfold CR at cr; omega) ⟨pa1, pb1, pc1⟩ p2 x2.1 x2.2.1
  have gn := gg1.nn
  have gr2 : GR M2 := GR.k ⟨g1, g2, g3, g4, rf, ⟨g6a, g6b⟩, g7_⟩ F (fun c z => by unfold inT; first | omega | (dsimp only at z; omega)) gg1 (fun j hj => by rw [((f2 7 (by first | decide | omega | (dsimp only; omega))).trans (f1 7 (by first | decide | omega | (dsimp only; omega)))), gk (10 + j) (by omega)]; exact g2 j (by omega)) (RFR.s2 rf (by omega) hrr k0_10 n0_ x2.2.2.1 (f2 96 (by first | decide | omega | (dsimp only; omega))) a0_ (f1 98 (by first | decide | omega | (dsimp only; omega))) x2.2.2.2) ⟨by omega, by omega⟩ (by omega)
  exact hk M2 hR2 ic2 im2 ⟨by unfold CR at cr ⊢; omega, wr2, gr2⟩
set_option maxHeartbeats 4000000 in
set_option maxRecDepth 100000 in
theorem law_c1 (X : Cx) (b L : Nat) (xs : Nat → Int32) (C N : Nat) (hC : C + 0 ≤ 600000) (hN : N + 0 ≤ 7302249) (i : Int) (M : Mm) (hR : Rg M) (ic : IC M) (im : IM M) (crx : CX M) (h0 : 0 ≤ i) (h1 : i + 7 ≤ L) (hL : L ≤ 3584) (hk : ∀ M' : Mm, Rg M' → IC M' → IM M' → CX M' → J X.1 RL cL_law 4 ret (ELW X M' b L xs) C N Zl 1429 [(3, vi i), (2, vr X 97), (1, vr X 0), (0, .ref b)] []) : J X.1 RL cL_law 4 ret (ELW X M b L xs) C N Zl 219 [(3, vi i), (2, vr X 97), (1, vr X 0), (0, .ref b)] [] := by
  have cr := crx.1
  have wr := crx.2.1
  have gr := crx.2.2
  have bb := ICb ic
  refine j_aload (pc' := 220) 2 dL_law_219 rfl rfl ?_
  refine j_aload (pc' := 221) 3 dL_law_220 rfl rfl ?_
  refine j_iload_n (pc' := 222) 0 dL_law_221 rfl rfl ?_
  refine j_iconst (pc' := 223) dL_law_222 rfl ?_
  refine j_iadd (pc' := 224) dL_law_223 rfl ?_
  refine w_sld (pc' := 225) dL_law_224 rfl (by omega) (by omega) ?_
  refine j_aload (pc' := 226) 3 dL_law_225 rfl rfl ?_
  refine j_iload_n (pc' := 227) 0 dL_law_226 rfl rfl ?_
  refine j_iconst (pc' := 228) dL_law_227 rfl ?_
  refine j_iadd (pc' := 229) dL_law_228 rfl ?_
  refine w_sld (pc' := 230) dL_law_229 rfl (by omega) (by omega) ?_
  obtain ⟨ta, tb, P, Lq, F, Z, tv, pub⟩ := gr.1
  refine w_call hC hN hR (pc' := 233) (As := [vi (sx xs (i + 1)), vi (sx xs (i + 2))]) (o := 0) (S := []) dL_law_230 rfl m_L_18 w_X9_of (c_X9_of_x X M ic (sx xs (i + 1)) (sx_in xs (i + 1)) (sx xs (i + 2)) (sx_in xs (i + 2)) ta tb (M 99 0) P Lq F Z (M 101) (fun j => M 99 (4 + j)) tv pub) rfl ⟨_, _, _, rfl, rfl, rfl⟩ (Nat.le_of_ble_eq_true rfl) (Nat.le_of_ble_eq_true rfl) rfl (Nat.le_of_ble_eq_true rfl) (fun v M1 hq hR1 => ?_)
  obtain ⟨r1, rfl, e1, p1⟩ := hq
  rw [e1]
  show J X.1 RL cL_law 4 ret (ELW X M b L xs) C N Zl 233 [(3, vi i), (2, vr X 97), (1, vr X 0), (0, .ref b)] [vi r1]
  refine j_pop (pc' := 234) dL_law_233 rfl rfl ?_
  refine j_aload (pc' := 235) 1 dL_law_234 rfl rfl ?_
  refine j_aload (pc' := 236) 3 dL_law_235 rfl rfl ?_
  refine j_iload_n (pc' := 237) 0 dL_law_236 rfl rfl ?_
  refine j_iconst (pc' := 238) dL_law_237 rfl ?_
  refine j_iadd (pc' := 239) dL_law_238 rfl ?_
  refine w_sld (pc' := 240) dL_law_239 rfl (by omega) (by omega) ?_
  refine j_aload (pc' := 241) 3 dL_law_240 rfl rfl ?_
  refine j_iload_n (pc' := 242) 0 dL_law_241 rfl rfl ?_
  refine j_iconst (pc' := 243) dL_law_242 rfl ?_
  refine j_iadd (pc' := 244) dL_law_243 rfl ?_
  refine w_sld (pc' := 245) dL_law_244 rfl (by omega) (by omega) ?_
  refine w_call hC hN hR (pc' := 248) (As := [vi (sx xs (i + 1)), vi (sx xs (i + 2))]) (o := 97) (S := []) dL_law_245 rfl m_L_22 w_X10_of (c_X10_of_x X M im (sx xs (i + 1)) (sx_in xs (i + 1)) (sx xs (i + 2)) (sx_in xs (i + 2))) rfl ⟨_, _, _, rfl, rfl, rfl⟩ (Nat.le_of_ble_eq_true rfl) (Nat.le_of_ble_eq_true rfl) rfl (Nat.le_of_ble_eq_true rfl) (fun v M2 hq hR2 => ?_)
  obtain ⟨r2, rfl, im2, f2, e2_0, e2_1, e2_2, e2_3, e2_4, e2_5, e2_6, e2_7, e2_8, e2_9, e2_10, e2_11, e2_12, e2_13, e2_14, e2_15, e2_16, e2_17, e2_18, e2_19, p2⟩ := hq
  have ic2 : IC M2 := IC.fr ic f2 (fun c z => by unfold free isT; first | omega | (dsimp only at z; omega))
  have fd2 := frC (Fr.tr Fr.rf f2 fi_78)
  have wr2 : TR M2 := TR.fr wr (f2 32 (by decide)) (f2 106 (by decide)) (by omega) (congrFun (f2 0 (by decide)) 12) (by omega)
  show J X.1 RL cL_law 4 ret (ELW X M2 b L xs) C N Zl 248 [(3, vi i), (2, vr X 97), (1, vr X 0), (0, .ref b)] [vi r2]
  refine j_pop (pc' := 249) dL_law_248 rfl rfl ?_
  refine j_goto (tgt := 1429) dL_law_249 rfl ?_
  have F := f2
  have k0_10 : M2 0 10 = M 0 10 := congrFun (f2 0 (by first | decide | omega | (dsimp only; omega))) 10
  have k0_11 : M2 0 11 = M 0 11 := congrFun (f2 0 (by first | decide | omega | (dsimp only; omega))) 11
  have k0_12 : M2 0 12 = M 0 12 := congrFun (f2 0 (by first | decide | omega | (dsimp only; omega))) 12
  have k0_13 : M2 0 13 = M 0 13 := congrFun (f2 0 (by first | decide | omega | (dsimp only; omega))) 13
  obtain ⟨g1, g2, g3, g4, rf, ⟨g6a, g6b⟩, g7_⟩ := gr
  have k99_0 : M2 99 0 = M 99 0 := congrFun (f2 99 (by first | decide | omega | (dsimp only; omega))) 0
  have hrr : r1 = r2 := by
    try dsimp only at p1
    omega
  have gr2 : GR M2 := GR.k ⟨g1, g2, g3, g4, rf, ⟨g6a, g6b⟩, g7_⟩ F (fun c z => by unfold inT; first | omega | (dsimp only at z; omega)) (G1.fr g1 F (fun c z => by unfold inT; first | omega | (dsimp only at z; omega)) k99_0 (fun k _ _ => congrFun (f2 99 (by first | decide | omega | (dsimp only; omega))) k) (fun j _ => congrFun (f2 101 (by first | decide | omega | (dsimp only; omega))) j)) (G2.fr g2 (f2 7 (by first | decide | omega | (dsimp only; omega))) (by omega) (by omega) (fun k _ _ => congrFun (f2 99 (by first | decide | omega | (dsimp only; omega))) k)) (RFR.fr rf (by omega) (by omega) (f2 96 (by first | decide | omega | (dsimp only; omega))) (f2 98 (by first | decide | omega | (dsimp only; omega)))) ⟨by omega, by omega⟩ (by omega)
  exact hk M2 hR2 ic2 im2 ⟨by unfold CR at cr ⊢; omega, wr2, gr2⟩
set_option maxHeartbeats 4000000 in
set_option maxRecDepth 100000 in
theorem law_c2 (X : Cx) (b L : Nat) (xs : Nat → Int32) (C N : Nat) (hC : C + 0 ≤ 600000) (hN : N + 0 ≤ 7302249) (i : Int) (M : Mm) (hR : Rg M) (ic : IC M) (im : IM M) (crx : CX M) (h0 : 0 ≤ i) (h1 : i + 7 ≤ L) (hL : L ≤ 3584) (hk : ∀ M' : Mm, Rg M' → IC M' → IM M' → CX M' → J X.1 RL cL_law 4 ret (ELW X M' b L xs) C N Zl 1429 [(3, vi i), (2, vr X 97), (1, vr X 0), (0, .ref b)] []) : J X.1 RL cL_law 4 ret (ELW X M b L xs) C N Zl 252 [(3, vi i), (2, vr X 97), (1, vr X 0), (0, .ref b)] [] := by
  have cr := crx.1
  have wr := crx.2.1
  have gr := crx.2.2
  have bb := ICb ic
  refine j_aload (pc' := 253) 2 dL_law_252 rfl rfl ?_
  refine j_aload (pc' := 254) 3 dL_law_253 rfl rfl ?_
  refine j_iload_n (pc' := 255) 0 dL_law_254 rfl rfl ?_
  refine j_iconst (pc' := 256) dL_law_255 rfl ?_
  refine j_iadd (pc' := 257) dL_law_256 rfl ?_
  refine w_sld (pc' := 258) dL_law_257 rfl (by omega) (by omega) ?_
  refine j_aload (pc' := 259) 3 dL_law_258 rfl rfl ?_
  refine j_iload_n (pc' := 260) 0 dL_law_259 rfl rfl ?_
  refine j_iconst (pc' := 261) dL_law_260 rfl ?_
  refine j_iadd (pc' := 262) dL_law_261 rfl ?_
  refine w_sld (pc' := 263) dL_law_262 rfl (by omega) (by omega) ?_
  obtain ⟨ta, tb, P, Lq, F, Z, tv, pub⟩ := gr.1
  refine w_call hC hN hR (pc' := 266) (As := [vi (sx xs (i + 1)), vi (sx xs (i + 2))]) (o := 0) (S := []) dL_law_263 rfl m_L_23 w_X9_part (c_X9_part_x X M ic (sx xs (i + 1)) (sx_in xs (i + 1)) (sx xs (i + 2)) (sx_in xs (i + 2)) ta tb (M 99 0) P Lq F Z (M 101) (fun j => M 99 (4 + j)) tv pub) rfl ⟨_, _, _, rfl, rfl, rfl⟩ (Nat.le_of_ble_eq_true rfl) (Nat.le_of_ble_eq_true rfl) rfl (Nat.le_of_ble_eq_true rfl) (fun v M1 hq hR1 => ?_)
  obtain ⟨r1, rfl, e1, p1⟩ := hq
  rw [e1]
  show J X.1 RL cL_law 4 ret (ELW X M b L xs) C N Zl 266 [(3, vi i), (2, vr X 97), (1, vr X 0), (0, .ref b)] [vl r1]
  refine j_pop2 (pc' := 267) dL_law_266 rfl rfl ?_
  refine j_aload (pc' := 268) 1 dL_law_267 rfl rfl ?_
  refine j_aload (pc' := 269) 3 dL_law_268 rfl rfl ?_
  refine j_iload_n (pc' := 270) 0 dL_law_269 rfl rfl ?_
  refine j_iconst (pc' := 271) dL_law_270 rfl ?_
  refine j_iadd (pc' := 272) dL_law_271 rfl ?_
  refine w_sld (pc' := 273) dL_law_272 rfl (by omega) (by omega) ?_
  refine j_aload (pc' := 274) 3 dL_law_273 rfl rfl ?_
  refine j_iload_n (pc' := 275) 0 dL_law_274 rfl rfl ?_
  refine j_iconst (pc' := 276) dL_law_275 rfl ?_
  refine j_iadd (pc' := 277) dL_law_276 rfl ?_
  refine w_sld (pc' := 278) dL_law_277 rfl (by omega) (by omega) ?_
  refine w_call hC hN hR (pc' := 281) (As := [vi (sx xs (i + 1)), vi (sx xs (i + 2))]) (o := 97) (S := []) dL_law_278 rfl m_L_27 w_X10_part (c_X10_part_x X M im (sx xs (i + 1)) (sx_in xs (i + 1)) (sx xs (i + 2)) (sx_in xs (i + 2))) rfl ⟨_, _, _, rfl, rfl, rfl⟩ (Nat.le_of_ble_eq_true rfl) (Nat.le_of_ble_eq_true rfl) rfl (Nat.le_of_ble_eq_true rfl) (fun v M2 hq hR2 => ?_)
  obtain ⟨r2, rfl, im2, f2, e2_0, e2_1, e2_2, e2_3, e2_4, e2_5, e2_6, e2_7, e2_8, e2_9, e2_10, e2_11, e2_12, e2_13, e2_14, e2_15, e2_16, e2_17, e2_18, e2_19, p2⟩ := hq
  have ic2 : IC M2 := IC.fr ic f2 (fun c z => by unfold free isT; first | omega | (dsimp only at z; omega))
  have fd2 := frC (Fr.tr Fr.rf f2 fi_78)
  have wr2 : TR M2 := TR.fr wr (f2 32 (by decide)) (f2 106 (by decide)) (by omega) (congrFun (f2 0 (by decide)) 12) (by omega)
  show J X.1 RL cL_law 4 ret (ELW X M2 b L xs) C N Zl 281 [(3, vi i), (2, vr X 97), (1, vr X 0), (0, .ref b)] [vl r2]
  refine j_pop2 (pc' := 282) dL_law_281 rfl rfl ?_
  refine j_goto (tgt := 1429) dL_law_282 rfl ?_
  have F := f2
  have k0_10 : M2 0 10 = M 0 10 := congrFun (f2 0 (by first | decide | omega | (dsimp only; omega))) 10
  have k0_11 : M2 0 11 = M 0 11 := congrFun (f2 0 (by first | decide | omega | (dsimp only; omega))) 11
  have k0_12 : M2 0 12 = M 0 12 := congrFun (f2 0 (by first | decide | omega | (dsimp only; omega))) 12
  have k0_13 : M2 0 13 = M 0 13 := congrFun (f2 0 (by first | decide | omega | (dsimp only; omega))) 13
  obtain ⟨g1, g2, g3, g4, rf, ⟨g6a, g6b⟩, g7_⟩ := gr
  have k99_0 : M2 99 0 = M 99 0 := congrFun (f2 99 (by first | decide | omega | (dsimp only; omega))) 0
  have hrr : r1 = r2 := by
    try dsimp only at p1
    omega
  have gr2 : GR M2 := GR.k ⟨g1, g2, g3, g4, rf, ⟨g6a, g6b⟩, g7_⟩ F (fun c z => by unfold inT; first | omega | (dsimp only at z; omega)) (G1.fr g1 F (fun c z => by unfold inT; first | omega | (dsimp only at z; omega)) k99_0 (fun k _ _ => congrFun (f2 99 (by first | decide | omega | (dsimp only; omega))) k) (fun j _ => congrFun (f2 101 (by first | decide | omega | (dsimp only; omega))) j)) (G2.fr g2 (f2 7 (by first | decide | omega | (dsimp only; omega))) (by omega) (by omega) (fun k _ _ => congrFun (f2 99 (by first | decide | omega | (dsimp only; omega))) k)) (RFR.fr rf (by omega) (by omega) (f2 96 (by first | decide | omega | (dsimp only; omega))) (f2 98 (by first | decide | omega | (dsimp only; omega)))) ⟨by omega, by omega⟩ (by omega)
  exact hk M2 hR2 ic2 im2 ⟨by unfold CR at cr ⊢; omega, wr2, gr2⟩
set_option maxHeartbeats 4000000 in
set_option maxRecDepth 100000 in
theorem law_c3 (X : Cx) (b L : Nat) (xs : Nat → Int32) (C N : Nat) (hC : C + 0 ≤ 600000) (hN : N + 0 ≤ 7302249) (i : Int) (M : Mm) (hR : Rg M) (ic : IC M) (im : IM M) (crx : CX M) (h0 : 0 ≤ i) (h1 : i + 7 ≤ L) (hL : L ≤ 3584) (hk : ∀ M' : Mm, Rg M' → IC M' → IM M' → CX M' → J X.1 RL cL_law 4 ret (ELW X M' b L xs) C N Zl 1429 [(3, vi i), (2, vr X 97), (1, vr X 0), (0, .ref b)] []) : J X.1 RL cL_law 4 ret (ELW X M b L xs) C N Zl 285 [(3, vi i), (2, vr X 97), (1, vr X 0), (0, .ref b)] [] := by
  have cr := crx.1
  have wr := crx.2.1
  have gr := crx.2.2
  have bb := ICb ic
  refine j_aload (pc' := 286) 2 dL_law_285 rfl rfl ?_
  obtain ⟨ta, tb, P, Lq, F, Z, tv, pub⟩ := gr.1
  refine w_call hC hN hR (pc' := 289) (As := []) (o := 0) (S := []) dL_law_286 rfl m_L_28 w_X9_lower (c_X9_lower_x X M ic ta tb (M 99 0) P Lq F Z (M 101) (fun j => M 99 (4 + j)) tv pub) rfl ⟨_, _, _, rfl, rfl, rfl⟩ (Nat.le_of_ble_eq_true rfl) (Nat.le_of_ble_eq_true rfl) rfl (Nat.le_of_ble_eq_true rfl) (fun v M1 hq hR1 => ?_)
  obtain ⟨r1, rfl, e1, p1⟩ := hq
  rw [e1]
  show J X.1 RL cL_law 4 ret (ELW X M b L xs) C N Zl 289 [(3, vi i), (2, vr X 97), (1, vr X 0), (0, .ref b)] [vl r1]
  refine j_pop2 (pc' := 290) dL_law_289 rfl rfl ?_
  refine j_aload (pc' := 291) 1 dL_law_290 rfl rfl ?_
  refine w_call hC hN hR (pc' := 294) (As := []) (o := 97) (S := []) dL_law_291 rfl m_L_32 w_X10_lower (c_X10_lower_x X M im) rfl ⟨_, _, _, rfl, rfl, rfl⟩ (Nat.le_of_ble_eq_true rfl) (Nat.le_of_ble_eq_true rfl) rfl (Nat.le_of_ble_eq_true rfl) (fun v M2 hq hR2 => ?_)
  obtain ⟨r2, rfl, im2, f2, e2_0, e2_1, e2_2, e2_3, e2_4, e2_5, e2_6, e2_7, e2_8, e2_9, e2_10, e2_11, e2_12, e2_13, e2_14, e2_15, e2_16, e2_17, e2_18, e2_19, p2⟩ := hq
  have ic2 : IC M2 := IC.fr ic f2 (fun c z => by unfold free isT; first | omega | (dsimp only at z; omega))
  have fd2 := frC (Fr.tr Fr.rf f2 fi_78)
  have wr2 : TR M2 := TR.fr wr (f2 32 (by decide)) (f2 106 (by decide)) (by omega) (congrFun (f2 0 (by decide)) 12) (by omega)
  show J X.1 RL cL_law 4 ret (ELW X M2 b L xs) C N Zl 294 [(3, vi i), (2, vr X 97), (1, vr X 0), (0, .ref b)] [vl r2]
  refine j_pop2 (pc' := 295) dL_law_294 rfl rfl ?_
  refine j_goto (tgt := 1429) dL_law_295 rfl ?_
  have F := f2
  have k0_10 : M2 0 10 = M 0 10 := congrFun (f2 0 (by first | decide | omega | (dsimp only; omega))) 10
  have k0_11 : M2 0 11 = M 0 11 := congrFun (f2 0 (by first | decide | omega | (dsimp only; omega))) 11
  have k0_12 : M2 0 12 = M 0 12 := congrFun (f2 0 (by first | decide | omega | (dsimp only; omega))) 12
  have k0_13 : M2 0 13 = M 0 13 := congrFun (f2 0 (by first | decide | omega | (dsimp only; omega))) 13
  obtain ⟨g1, g2, g3, g4, rf, ⟨g6a, g6b⟩, g7_⟩ := gr
  have k99_0 : M2 99 0 = M 99 0 := congrFun (f2 99 (by first | decide | omega | (dsimp only; omega))) 0
  have hrr : r1 = r2 := p1.trans p2.symm
  have gr2 : GR M2 := GR.k ⟨g1, g2, g3, g4, rf, ⟨g6a, g6b⟩, g7_⟩ F (fun c z => by unfold inT; first | omega | (dsimp only at z; omega)) (G1.fr g1 F (fun c z => by unfold inT; first | omega | (dsimp only at z; omega)) k99_0 (fun k _ _ => congrFun (f2 99 (by first | decide | omega | (dsimp only; omega))) k) (fun j _ => congrFun (f2 101 (by first | decide | omega | (dsimp only; omega))) j)) (G2.fr g2 (f2 7 (by first | decide | omega | (dsimp only; omega))) (by omega) (by omega) (fun k _ _ => congrFun (f2 99 (by first | decide | omega | (dsimp only; omega))) k)) (RFR.fr rf (by omega) (by omega) (f2 96 (by first | decide | omega | (dsimp only; omega))) (f2 98 (by first | decide | omega | (dsimp only; omega)))) ⟨by omega, by omega⟩ (by omega)
  exact hk M2 hR2 ic2 im2 ⟨by unfold CR at cr ⊢; omega, wr2, gr2⟩
set_option maxHeartbeats 4000000 in
set_option maxRecDepth 100000 in
theorem law_c4 (X : Cx) (b L : Nat) (xs : Nat → Int32) (C N : Nat) (hC : C + 0 ≤ 600000) (hN : N + 0 ≤ 7302249) (i : Int) (M : Mm) (hR : Rg M) (ic : IC M) (im : IM M) (crx : CX M) (h0 : 0 ≤ i) (h1 : i + 7 ≤ L) (hL : L ≤ 3584) (hk : ∀ M' : Mm, Rg M' → IC M' → IM M' → CX M' → J X.1 RL cL_law 4 ret (ELW X M' b L xs) C N Zl 1429 [(3, vi i), (2, vr X 97), (1, vr X 0), (0, .ref b)] []) : J X.1 RL cL_law 4 ret (ELW X M b L xs) C N Zl 298 [(3, vi i), (2, vr X 97), (1, vr X 0), (0, .ref b)] [] := by
  have cr := crx.1
  have wr := crx.2.1
  have gr := crx.2.2
  have bb := ICb ic
  refine j_aload (pc' := 299) 2 dL_law_298 rfl rfl ?_
  refine j_aload (pc' := 300) 3 dL_law_299 rfl rfl ?_
  refine j_iload_n (pc' := 301) 0 dL_law_300 rfl rfl ?_
  refine j_iconst (pc' := 302) dL_law_301 rfl ?_
  refine j_iadd (pc' := 303) dL_law_302 rfl ?_
  refine w_sld (pc' := 304) dL_law_303 rfl (by omega) (by omega) ?_
  refine j_aload (pc' := 305) 3 dL_law_304 rfl rfl ?_
  refine j_iload_n (pc' := 306) 0 dL_law_305 rfl rfl ?_
  refine j_iconst (pc' := 307) dL_law_306 rfl ?_
  refine j_iadd (pc' := 308) dL_law_307 rfl ?_
  refine w_sld (pc' := 309) dL_law_308 rfl (by omega) (by omega) ?_
  obtain ⟨ta, tb, P, Lq, F, Z, tv, pub⟩ := gr.1
  refine w_call hC hN hR (pc' := 312) (As := [vi (sx xs (i + 1)), vi (sx xs (i + 2))]) (o := 0) (S := []) dL_law_309 rfl m_L_33 w_X9_taste (c_X9_taste_x X M ic (sx xs (i + 1)) (sx_in xs (i + 1)) (sx xs (i + 2)) (sx_in xs (i + 2)) ta tb (M 99 0) P Lq F Z (M 101) (fun j => M 99 (4 + j)) tv pub) rfl ⟨_, _, _, rfl, rfl, rfl⟩ (Nat.le_of_ble_eq_true rfl) (Nat.le_of_ble_eq_true rfl) rfl (Nat.le_of_ble_eq_true rfl) (fun v M1 hq hR1 => ?_)
  obtain ⟨r1, rfl, e1, p1⟩ := hq
  rw [e1]
  show J X.1 RL cL_law 4 ret (ELW X M b L xs) C N Zl 312 [(3, vi i), (2, vr X 97), (1, vr X 0), (0, .ref b)] [vi r1]
  refine j_pop (pc' := 313) dL_law_312 rfl rfl ?_
  refine j_aload (pc' := 314) 1 dL_law_313 rfl rfl ?_
  refine j_aload (pc' := 315) 3 dL_law_314 rfl rfl ?_
  refine j_iload_n (pc' := 316) 0 dL_law_315 rfl rfl ?_
  refine j_iconst (pc' := 317) dL_law_316 rfl ?_
  refine j_iadd (pc' := 318) dL_law_317 rfl ?_
  refine w_sld (pc' := 319) dL_law_318 rfl (by omega) (by omega) ?_
  refine j_aload (pc' := 320) 3 dL_law_319 rfl rfl ?_
  refine j_iload_n (pc' := 321) 0 dL_law_320 rfl rfl ?_
  refine j_iconst (pc' := 322) dL_law_321 rfl ?_
  refine j_iadd (pc' := 323) dL_law_322 rfl ?_
  refine w_sld (pc' := 324) dL_law_323 rfl (by omega) (by omega) ?_
  refine w_call hC hN hR (pc' := 327) (As := [vi (sx xs (i + 1)), vi (sx xs (i + 2))]) (o := 97) (S := []) dL_law_324 rfl m_L_36 w_X10_taste (c_X10_taste_x X M im (sx xs (i + 1)) (sx_in xs (i + 1)) (sx xs (i + 2)) (sx_in xs (i + 2))) rfl ⟨_, _, _, rfl, rfl, rfl⟩ (Nat.le_of_ble_eq_true rfl) (Nat.le_of_ble_eq_true rfl) rfl (Nat.le_of_ble_eq_true rfl) (fun v M2 hq hR2 => ?_)
  obtain ⟨r2, rfl, im2, f2, e2_0, e2_1, e2_2, e2_3, e2_4, e2_5, e2_6, e2_7, e2_8, e2_9, e2_10, e2_11, e2_12, e2_13, e2_14, e2_15, e2_16, e2_17, e2_18, e2_19, p2⟩ := hq
  have ic2 : IC M2 := IC.fr ic f2 (fun c z => by unfold free isT; first | omega | (dsimp only at z; omega))
  have fd2 := frC (Fr.tr Fr.rf f2 fi_78)
  have wr2 : TR M2 := TR.fr wr (f2 32 (by decide)) (f2 106 (by decide)) (by omega) (congrFun (f2 0 (by decide)) 12) (by omega)
  show J X.1 RL cL_law 4 ret (ELW X M2 b L xs) C N Zl 327 [(3, vi i), (2, vr X 97), (1, vr X 0), (0, .ref b)] [vi r2]
  refine j_pop (pc' := 328) dL_law_327 rfl rfl ?_
  refine j_goto (tgt := 1429) dL_law_328 rfl ?_
  have F := f2
  have k0_10 : M2 0 10 = M 0 10 := congrFun (f2 0 (by first | decide | omega | (dsimp only; omega))) 10
  have k0_11 : M2 0 11 = M 0 11 := congrFun (f2 0 (by first | decide | omega | (dsimp only; omega))) 11
  have k0_12 : M2 0 12 = M 0 12 := congrFun (f2 0 (by first | decide | omega | (dsimp only; omega))) 12
  have k0_13 : M2 0 13 = M 0 13 := congrFun (f2 0 (by first | decide | omega | (dsimp only; omega))) 13
  obtain ⟨g1, g2, g3, g4, rf, ⟨g6a, g6b⟩, g7_⟩ := gr
  have k99_0 : M2 99 0 = M 99 0 := congrFun (f2 99 (by first | decide | omega | (dsimp only; omega))) 0
  have hrr : r1 = r2 := by
    try dsimp only at p1
    omega
  have gr2 : GR M2 := GR.k ⟨g1, g2, g3, g4, rf, ⟨g6a, g6b⟩, g7_⟩ F (fun c z => by unfold inT; first | omega | (dsimp only at z; omega)) (G1.fr g1 F (fun c z => by unfold inT; first | omega | (dsimp only at z; omega)) k99_0 (fun k _ _ => congrFun (f2 99 (by first | decide | omega | (dsimp only; omega))) k) (fun j _ => congrFun (f2 101 (by first | decide | omega | (dsimp only; omega))) j)) (G2.fr g2 (f2 7 (by first | decide | omega | (dsimp only; omega))) (by omega) (by omega) (fun k _ _ => congrFun (f2 99 (by first | decide | omega | (dsimp only; omega))) k)) (RFR.fr rf (by omega) (by omega) (f2 96 (by first | decide | omega | (dsimp only; omega))) (f2 98 (by first | decide | omega | (dsimp only; omega)))) ⟨by omega, by omega⟩ (by omega)
  exact hk M2 hR2 ic2 im2 ⟨by unfold CR at cr ⊢; omega, wr2, gr2⟩
set_option maxHeartbeats 4000000 in
set_option maxRecDepth 100000 in
theorem law_c5 (X : Cx) (b L : Nat) (xs : Nat → Int32) (C N : Nat) (hC : C + 0 ≤ 600000) (hN : N + 0 ≤ 7302249) (i : Int) (M : Mm) (hR : Rg M) (ic : IC M) (im : IM M) (crx : CX M) (h0 : 0 ≤ i) (h1 : i + 7 ≤ L) (hL : L ≤ 3584) (hk : ∀ M' : Mm, Rg M' → IC M' → IM M' → CX M' → J X.1 RL cL_law 4 ret (ELW X M' b L xs) C N Zl 1429 [(3, vi i), (2, vr X 97), (1, vr X 0), (0, .ref b)] []) : J X.1 RL cL_law 4 ret (ELW X M b L xs) C N Zl 331 [(3, vi i), (2, vr X 97), (1, vr X 0), (0, .ref b)] [] := by
  have cr := crx.1
  have wr := crx.2.1
  have gr := crx.2.2
  have bb := ICb ic
  refine j_aload (pc' := 332) 2 dL_law_331 rfl rfl ?_
  refine j_aload (pc' := 333) 3 dL_law_332 rfl rfl ?_
  refine j_iload_n (pc' := 334) 0 dL_law_333 rfl rfl ?_
  refine j_iconst (pc' := 335) dL_law_334 rfl ?_
  refine j_iadd (pc' := 336) dL_law_335 rfl ?_
  refine w_sld (pc' := 337) dL_law_336 rfl (by omega) (by omega) ?_
  refine j_aload (pc' := 338) 3 dL_law_337 rfl rfl ?_
  refine j_iload_n (pc' := 339) 0 dL_law_338 rfl rfl ?_
  refine j_iconst (pc' := 340) dL_law_339 rfl ?_
  refine j_iadd (pc' := 341) dL_law_340 rfl ?_
  refine w_sld (pc' := 342) dL_law_341 rfl (by omega) (by omega) ?_
  refine j_aload (pc' := 343) 3 dL_law_342 rfl rfl ?_
  refine j_iload_n (pc' := 344) 0 dL_law_343 rfl rfl ?_
  refine j_iconst (pc' := 345) dL_law_344 rfl ?_
  refine j_iadd (pc' := 346) dL_law_345 rfl ?_
  refine w_sld (pc' := 347) dL_law_346 rfl (by omega) (by omega) ?_
  obtain ⟨ta, tb, P, Lq, F, Z, tv, pub⟩ := gr.1
  refine w_call hC hN hR (pc' := 350) (As := [vi (sx xs (i + 1)), vi (sx xs (i + 2)), vi (sx xs (i + 3))]) (o := 0) (S := []) dL_law_347 rfl m_L_37 w_X9_fill (c_X9_fill_x X M ic (sx xs (i + 1)) (sx_in xs (i + 1)) (sx xs (i + 2)) (sx_in xs (i + 2)) (sx xs (i + 3)) (sx_in xs (i + 3)) ta tb (M 99 0) P Lq F Z (M 101) (fun j => M 99 (4 + j)) tv pub) rfl ⟨_, _, _, rfl, rfl, rfl⟩ (Nat.le_of_ble_eq_true rfl) (Nat.le_of_ble_eq_true rfl) rfl (Nat.le_of_ble_eq_true rfl) (fun v M1 hq hR1 => ?_)
  obtain ⟨r1, rfl, ic1, f1, e1_0, e1_1, e1_2, e1_3, e1_4, e1_5, e1_6, e1_7, e1_8, e1_9, e1_10, e1_11, e1_12, e1_13, e1_14, e1_15, e1_16, e1_17, p1⟩ := hq
  have im1 : IM M1 := IM.fr im f1 (fun c z => by first | omega | (dsimp only at z; omega))
  have fd1 := frD (Fr.tr Fr.rf f1 fi_76)
  have wr1 : TR M1 := TR.fr wr (f1 32 (by decide)) (f1 106 (by decide)) (by omega) (by omega) (congrFun (f1 97 (by decide)) 17)
  show J X.1 RL cL_law 4 ret (ELW X M1 b L xs) C N Zl 350 [(3, vi i), (2, vr X 97), (1, vr X 0), (0, .ref b)] [vi r1]
  refine j_pop (pc' := 351) dL_law_350 rfl rfl ?_
  refine j_aload (pc' := 352) 1 dL_law_351 rfl rfl ?_
  refine j_aload (pc' := 353) 3 dL_law_352 rfl rfl ?_
  refine j_iload_n (pc' := 354) 0 dL_law_353 rfl rfl ?_
  refine j_iconst (pc' := 355) dL_law_354 rfl ?_
  refine j_iadd (pc' := 356) dL_law_355 rfl ?_
  refine w_sld (pc' := 357) dL_law_356 rfl (by omega) (by omega) ?_
  refine j_aload (pc' := 358) 3 dL_law_357 rfl rfl ?_
  refine j_iload_n (pc' := 359) 0 dL_law_358 rfl rfl ?_
  refine j_iconst (pc' := 360) dL_law_359 rfl ?_
  refine j_iadd (pc' := 361) dL_law_360 rfl ?_
  refine w_sld (pc' := 362) dL_law_361 rfl (by omega) (by omega) ?_
  refine j_aload (pc' := 363) 3 dL_law_362 rfl rfl ?_
  refine j_iload_n (pc' := 364) 0 dL_law_363 rfl rfl ?_
  refine j_iconst (pc' := 365) dL_law_364 rfl ?_
  refine j_iadd (pc' := 366) dL_law_365 rfl ?_
  refine w_sld (pc' := 367) dL_law_366 rfl (by omega) (by omega) ?_
  refine w_call hC hN hR1 (pc' := 370) (As := [vi (sx xs (i + 1)), vi (sx xs (i + 2)), vi (sx xs (i + 3))]) (o := 97) (S := []) dL_law_367 rfl m_L_41 w_X10_fill (c_X10_fill_x X M1 im1 (sx xs (i + 1)) (sx_in xs (i + 1)) (sx xs (i + 2)) (sx_in xs (i + 2)) (sx xs (i + 3)) (sx_in xs (i + 3))) rfl ⟨_, _, _, rfl, rfl, rfl⟩ (Nat.le_of_ble_eq_true rfl) (Nat.le_of_ble_eq_true rfl) rfl (Nat.le_of_ble_eq_true rfl) (fun v M2 hq hR2 => ?_)
  obtain ⟨r2, rfl, im2, f2, e2_0, e2_1, e2_2, e2_3, e2_4, e2_5, e2_6, e2_7, e2_8, e2_9, e2_10, e2_11, e2_12, e2_13, e2_14, e2_15, e2_16, e2_17, e2_18, p2⟩ := hq
  have ic2 : IC M2 := IC.fr ic1 f2 (fun c z => by unfold free isT; first | omega | (dsimp only at z; omega))
  have fd2 := frC (Fr.tr Fr.rf f2 fi_79)
  have wr2 : TR M2 := TR.fr wr1 (f2 32 (by decide)) (f2 106 (by decide)) (by omega) (congrFun (f2 0 (by decide)) 12) (by omega)
  show J X.1 RL cL_law 4 ret (ELW X M2 b L xs) C N Zl 370 [(3, vi i), (2, vr X 97), (1, vr X 0), (0, .ref b)] [vi r2]
  refine j_pop (pc' := 371) dL_law_370 rfl rfl ?_
  refine j_goto (tgt := 1429) dL_law_371 rfl ?_
  have F := Fr.tr (P := fun c => (fun c => (2 ≤ c ∧ c ≤ 6) ∨ c = 0 ∨ c = 96) c ∨ (fun c => c = 97 ∨ c = 98 ∨ c = 101) c) (Fr.tr Fr.rf f1 (fun c z => Or.inl z)) f2 (fun c z => Or.inr z)
  have k0_10 : M2 0 10 = M1 0 10 := congrFun (f2 0 (by first | decide | omega | (dsimp only; omega))) 10
  have k0_11 : M2 0 11 = M1 0 11 := congrFun (f2 0 (by first | decide | omega | (dsimp only; omega))) 11
  have k0_12 : M2 0 12 = M1 0 12 := congrFun (f2 0 (by first | decide | omega | (dsimp only; omega))) 12
  have k0_13 : M2 0 13 = M1 0 13 := congrFun (f2 0 (by first | decide | omega | (dsimp only; omega))) 13
  have k97_1 : M1 97 1 = M 97 1 := congrFun (f1 97 (by first | decide | omega | (dsimp only; omega))) 1
  have k97_10 : M1 97 10 = M 97 10 := congrFun (f1 97 (by first | decide | omega | (dsimp only; omega))) 10
  have k97_17 : M1 97 17 = M 97 17 := congrFun (f1 97 (by first | decide | omega | (dsimp only; omega))) 17
  have k97_33 : M1 97 33 = M 97 33 := congrFun (f1 97 (by first | decide | omega | (dsimp only; omega))) 33
  have k97_44 : M1 97 44 = M 97 44 := congrFun (f1 97 (by first | decide | omega | (dsimp only; omega))) 44
  obtain ⟨g1, g2, g3, g4, rf, ⟨g6a, g6b⟩, g7_⟩ := gr
  have k99_0 : M2 99 0 = M 99 0 := congrFun ((f2 99 (by first | decide | omega | (dsimp only; omega))).trans (f1 99 (by first | decide | omega | (dsimp only; omega)))) 0
  rw [(f1 101 (by first | decide | omega | (dsimp only; omega))), (f1 99 (by first | decide | omega | (dsimp only; omega)))] at p2
  obtain ⟨hrr, pb_⟩ := p1.2.1 r2 (M2 101) im2.2.1 p2.2.1
  have gr2 : GR M2 := GR.k ⟨g1, g2, g3, g4, rf, ⟨g6a, g6b⟩, g7_⟩ F (fun c z => by unfold inT; first | omega | (dsimp only at z; omega)) (G1.st pb_ f2 (fun c z => by unfold inT; first | omega | (dsimp only at z; omega)) k99_0.symm (E25.rf _) (fun j _ => congrFun ((f2 99 (by first | decide | omega | (dsimp only; omega))).trans (f1 99 (by first | decide | omega | (dsimp only; omega)))) _)) (G2.fr g2 ((f2 7 (by first | decide | omega | (dsimp only; omega))).trans (f1 7 (by first | decide | omega | (dsimp only; omega)))) (by omega) (by omega) (fun k _ _ => congrFun ((f2 99 (by first | decide | omega | (dsimp only; omega))).trans (f1 99 (by first | decide | omega | (dsimp only; omega)))) k)) (RFR.s2 rf (by omega) hrr k0_10 p1.2.2.1 p2.2.2.1 (f2 96 (by first | decide | omega | (dsimp only; omega))) p1.2.2.2 (f1 98 (by first | decide | omega | (dsimp only; omega))) p2.2.2.2) ⟨by omega, by omega⟩ (by omega)
  exact hk M2 hR2 ic2 im2 ⟨by unfold CR at cr ⊢; omega, wr2, gr2⟩
set_option maxHeartbeats 4000000 in
set_option maxRecDepth 100000 in
theorem law_c6 (X : Cx) (b L : Nat) (xs : Nat → Int32) (C N : Nat) (hC : C + 0 ≤ 600000) (hN : N + 0 ≤ 7302249) (i : Int) (M : Mm) (hR : Rg M) (ic : IC M) (im : IM M) (crx : CX M) (h0 : 0 ≤ i) (h1 : i + 7 ≤ L) (hL : L ≤ 3584) (hk : ∀ M' : Mm, Rg M' → IC M' → IM M' → CX M' → J X.1 RL cL_law 4 ret (ELW X M' b L xs) C N Zl 1429 [(3, vi i), (2, vr X 97), (1, vr X 0), (0, .ref b)] []) : J X.1 RL cL_law 4 ret (ELW X M b L xs) C N Zl 374 [(3, vi i), (2, vr X 97), (1, vr X 0), (0, .ref b)] [] := by
  have cr := crx.1
  have wr := crx.2.1
  have gr := crx.2.2
  have bb := ICb ic
  refine j_aload (pc' := 375) 2 dL_law_374 rfl rfl ?_
  refine j_aload (pc' := 376) 3 dL_law_375 rfl rfl ?_
  refine j_iload_n (pc' := 377) 0 dL_law_376 rfl rfl ?_
  refine j_iconst (pc' := 378) dL_law_377 rfl ?_
  refine j_iadd (pc' := 379) dL_law_378 rfl ?_
  refine w_sld (pc' := 380) dL_law_379 rfl (by omega) (by omega) ?_
  refine j_aload (pc' := 381) 3 dL_law_380 rfl rfl ?_
  refine j_iload_n (pc' := 382) 0 dL_law_381 rfl rfl ?_
  refine j_iconst (pc' := 383) dL_law_382 rfl ?_
  refine j_iadd (pc' := 384) dL_law_383 rfl ?_
  refine w_sld (pc' := 385) dL_law_384 rfl (by omega) (by omega) ?_
  refine j_aload (pc' := 386) 3 dL_law_385 rfl rfl ?_
  refine j_iload_n (pc' := 387) 0 dL_law_386 rfl rfl ?_
  refine j_iconst (pc' := 388) dL_law_387 rfl ?_
  refine j_iadd (pc' := 389) dL_law_388 rfl ?_
  refine w_sld (pc' := 390) dL_law_389 rfl (by omega) (by omega) ?_
  obtain ⟨ta, tb, P, Lq, F, Z, tv, pub⟩ := gr.1
  refine w_call hC hN hR (pc' := 393) (As := [vi (sx xs (i + 1)), vi (sx xs (i + 2)), vi (sx xs (i + 3))]) (o := 0) (S := []) dL_law_390 rfl m_L_42 w_X9_spoon (c_X9_spoon_x X M ic (sx xs (i + 1)) (sx_in xs (i + 1)) (sx xs (i + 2)) (sx_in xs (i + 2)) (sx xs (i + 3)) (sx_in xs (i + 3)) ta tb (M 99 0) P Lq F Z (M 101) (fun j => M 99 (4 + j)) tv pub) rfl ⟨_, _, _, rfl, rfl, rfl⟩ (Nat.le_of_ble_eq_true rfl) (Nat.le_of_ble_eq_true rfl) rfl (Nat.le_of_ble_eq_true rfl) (fun v M1 hq hR1 => ?_)
  obtain ⟨r1, rfl, ic1, f1, e1_0, e1_1, e1_2, e1_3, e1_4, e1_5, e1_6, e1_7, e1_8, e1_9, e1_10, e1_11, e1_12, e1_13, e1_14, e1_15, e1_16, e1_17, p1⟩ := hq
  have im1 : IM M1 := IM.fr im f1 (fun c z => by first | omega | (dsimp only at z; omega))
  have fd1 := frD (Fr.tr Fr.rf f1 fi_76)
  have wr1 : TR M1 := TR.fr wr (f1 32 (by decide)) (f1 106 (by decide)) (by omega) (by omega) (congrFun (f1 97 (by decide)) 17)
  show J X.1 RL cL_law 4 ret (ELW X M1 b L xs) C N Zl 393 [(3, vi i), (2, vr X 97), (1, vr X 0), (0, .ref b)] [vi r1]
  refine j_pop (pc' := 394) dL_law_393 rfl rfl ?_
  refine j_aload (pc' := 395) 1 dL_law_394 rfl rfl ?_
  refine j_aload (pc' := 396) 3 dL_law_395 rfl rfl ?_
  refine j_iload_n (pc' := 397) 0 dL_law_396 rfl rfl ?_
  refine j_iconst (pc' := 398) dL_law_397 rfl ?_
  refine j_iadd (pc' := 399) dL_law_398 rfl ?_
  refine w_sld (pc' := 400) dL_law_399 rfl (by omega) (by omega) ?_
  refine j_aload (pc' := 401) 3 dL_law_400 rfl rfl ?_
  refine j_iload_n (pc' := 402) 0 dL_law_401 rfl rfl ?_
  refine j_iconst (pc' := 403) dL_law_402 rfl ?_
  refine j_iadd (pc' := 404) dL_law_403 rfl ?_
  refine w_sld (pc' := 405) dL_law_404 rfl (by omega) (by omega) ?_
  refine j_aload (pc' := 406) 3 dL_law_405 rfl rfl ?_
  refine j_iload_n (pc' := 407) 0 dL_law_406 rfl rfl ?_
  refine j_iconst (pc' := 408) dL_law_407 rfl ?_
  refine j_iadd (pc' := 409) dL_law_408 rfl ?_
  refine w_sld (pc' := 410) dL_law_409 rfl (by omega) (by omega) ?_
  refine w_call hC hN hR1 (pc' := 413) (As := [vi (sx xs (i + 1)), vi (sx xs (i + 2)), vi (sx xs (i + 3))]) (o := 97) (S := []) dL_law_410 rfl m_L_45 w_X10_spoon (c_X10_spoon_x X M1 im1 (sx xs (i + 1)) (sx_in xs (i + 1)) (sx xs (i + 2)) (sx_in xs (i + 2)) (sx xs (i + 3)) (sx_in xs (i + 3))) rfl ⟨_, _, _, rfl, rfl, rfl⟩ (Nat.le_of_ble_eq_true rfl) (Nat.le_of_ble_eq_true rfl) rfl (Nat.le_of_ble_eq_true rfl) (fun v M2 hq hR2 => ?_)
  obtain ⟨r2, rfl, im2, f2, e2_0, e2_1, e2_2, e2_3, e2_4, e2_5, e2_6, e2_7, e2_8, e2_9, e2_10, e2_11, e2_12, e2_13, e2_14, e2_15, e2_16, e2_17, e2_18, p2⟩ := hq
  have ic2 : IC M2 := IC.fr ic1 f2 (fun c z => by unfold free isT; first | omega | (dsimp only at z; omega))
  have fd2 := frC (Fr.tr Fr.rf f2 fi_80)
  have wr2 : TR M2 := TR.fr wr1 (f2 32 (by decide)) (f2 106 (by decide)) (by omega) (congrFun (f2 0 (by decide)) 12) (by omega)
  show J X.1 RL cL_law 4 ret (ELW X M2 b L xs) C N Zl 413 [(3, vi i), (2, vr X 97), (1, vr X 0), (0, .ref b)] [vi r2]
  refine j_pop (pc' := 414) dL_law_413 rfl rfl ?_
  refine j_goto (tgt := 1429) dL_law_414 rfl ?_
  have F := Fr.tr (P := fun c => (fun c => (2 ≤ c ∧ c ≤ 6) ∨ c = 0 ∨ c = 96) c ∨ (fun c => c = 97 ∨ c = 98 ∨ c = 101 ∨ c = 104 ∨ c = 105) c) (Fr.tr Fr.rf f1 (fun c z => Or.inl z)) f2 (fun c z => Or.inr z)
  have k0_10 : M2 0 10 = M1 0 10 := congrFun (f2 0 (by first | decide | omega | (dsimp only; omega))) 10
  have k0_11 : M2 0 11 = M1 0 11 := congrFun (f2 0 (by first | decide | omega | (dsimp only; omega))) 11
  have k0_12 : M2 0 12 = M1 0 12 := congrFun (f2 0 (by first | decide | omega | (dsimp only; omega))) 12
  have k0_13 : M2 0 13 = M1 0 13 := congrFun (f2 0 (by first | decide | omega | (dsimp only; omega))) 13
  have k97_1 : M1 97 1 = M 97 1 := congrFun (f1 97 (by first | decide | omega | (dsimp only; omega))) 1
  have k97_10 : M1 97 10 = M 97 10 := congrFun (f1 97 (by first | decide | omega | (dsimp only; omega))) 10
  have k97_17 : M1 97 17 = M 97 17 := congrFun (f1 97 (by first | decide | omega | (dsimp only; omega))) 17
  have k97_33 : M1 97 33 = M 97 33 := congrFun (f1 97 (by first | decide | omega | (dsimp only; omega))) 33
  have k97_44 : M1 97 44 = M 97 44 := congrFun (f1 97 (by first | decide | omega | (dsimp only; omega))) 44
  obtain ⟨g1, g2, g3, g4, rf, ⟨g6a, g6b⟩, g7_⟩ := gr
  have k99_0 : M2 99 0 = M 99 0 := congrFun ((f2 99 (by first | decide | omega | (dsimp only; omega))).trans (f1 99 (by first | decide | omega | (dsimp only; omega)))) 0
  rw [(f1 101 (by first | decide | omega | (dsimp only; omega))), (f1 99 (by first | decide | omega | (dsimp only; omega)))] at p2
  obtain ⟨hrr, pb_⟩ := p1.2.1 r2 (M2 101) im2.2.1 p2.2.1
  have gr2 : GR M2 := GR.k ⟨g1, g2, g3, g4, rf, ⟨g6a, g6b⟩, g7_⟩ F (fun c z => by unfold inT; first | omega | (dsimp only at z; omega)) (G1.st pb_ f2 (fun c z => by unfold inT; first | omega | (dsimp only at z; omega)) k99_0.symm (E25.rf _) (fun j _ => congrFun ((f2 99 (by first | decide | omega | (dsimp only; omega))).trans (f1 99 (by first | decide | omega | (dsimp only; omega)))) _)) (G2.fr g2 ((f2 7 (by first | decide | omega | (dsimp only; omega))).trans (f1 7 (by first | decide | omega | (dsimp only; omega)))) (by omega) (by omega) (fun k _ _ => congrFun ((f2 99 (by first | decide | omega | (dsimp only; omega))).trans (f1 99 (by first | decide | omega | (dsimp only; omega)))) k)) (RFR.s2 rf (by omega) hrr k0_10 p1.2.2.1 p2.2.2.1 (f2 96 (by first | decide | omega | (dsimp only; omega))) p1.2.2.2 (f1 98 (by first | decide | omega | (dsimp only; omega))) p2.2.2.2) ⟨by omega, by omega⟩ (by omega)
  exact hk M2 hR2 ic2 im2 ⟨by unfold CR at cr ⊢; omega, wr2, gr2⟩
set_option maxHeartbeats 4000000 in
set_option maxRecDepth 100000 in
theorem law_c7 (X : Cx) (b L : Nat) (xs : Nat → Int32) (C N : Nat) (hC : C + 0 ≤ 600000) (hN : N + 0 ≤ 7302249) (i : Int) (M : Mm) (hR : Rg M) (ic : IC M) (im : IM M) (crx : CX M) (h0 : 0 ≤ i) (h1 : i + 7 ≤ L) (hL : L ≤ 3584) (hk : ∀ M' : Mm, Rg M' → IC M' → IM M' → CX M' → J X.1 RL cL_law 4 ret (ELW X M' b L xs) C N Zl 1429 [(3, vi i), (2, vr X 97), (1, vr X 0), (0, .ref b)] []) : J X.1 RL cL_law 4 ret (ELW X M b L xs) C N Zl 417 [(3, vi i), (2, vr X 97), (1, vr X 0), (0, .ref b)] [] := by
  have cr := crx.1
  have wr := crx.2.1
  have gr := crx.2.2
  have bb := ICb ic
  refine j_aload (pc' := 418) 2 dL_law_417 rfl rfl ?_
  refine j_aload (pc' := 419) 3 dL_law_418 rfl rfl ?_
  refine j_iload_n (pc' := 420) 0 dL_law_419 rfl rfl ?_
  refine j_iconst (pc' := 421) dL_law_420 rfl ?_
  refine j_iadd (pc' := 422) dL_law_421 rfl ?_
  refine w_sld (pc' := 423) dL_law_422 rfl (by omega) (by omega) ?_
  refine j_aload (pc' := 424) 3 dL_law_423 rfl rfl ?_
  refine j_iload_n (pc' := 425) 0 dL_law_424 rfl rfl ?_
  refine j_iconst (pc' := 426) dL_law_425 rfl ?_
  refine j_iadd (pc' := 427) dL_law_426 rfl ?_
  refine w_sld (pc' := 428) dL_law_427 rfl (by omega) (by omega) ?_
  obtain ⟨ta, tb, P, Lq, F, Z, tv, pub⟩ := gr.1
  refine w_call hC hN hR (pc' := 431) (As := [vi (sx xs (i + 1)), vi (sx xs (i + 2))]) (o := 0) (S := []) dL_law_428 rfl m_L_46 w_X9_lick (c_X9_lick_x X M ic (sx xs (i + 1)) (sx_in xs (i + 1)) (sx xs (i + 2)) (sx_in xs (i + 2)) ta tb (M 99 0) P Lq F Z (M 101) (fun j => M 99 (4 + j)) tv pub) rfl ⟨_, _, _, rfl, rfl, rfl⟩ (Nat.le_of_ble_eq_true rfl) (Nat.le_of_ble_eq_true rfl) rfl (Nat.le_of_ble_eq_true rfl) (fun v M1 hq hR1 => ?_)
  obtain ⟨r1, rfl, ic1, f1, e1_0, e1_1, e1_2, e1_3, e1_4, e1_5, e1_6, e1_7, e1_8, e1_9, e1_10, e1_11, e1_12, e1_13, e1_14, e1_15, e1_16, e1_17, p1⟩ := hq
  have im1 : IM M1 := IM.fr im f1 (fun c z => by first | omega | (dsimp only at z; omega))
  have fd1 := frD (Fr.tr Fr.rf f1 fi_76)
  have wr1 : TR M1 := TR.fr wr (f1 32 (by decide)) (f1 106 (by decide)) (by omega) (by omega) (congrFun (f1 97 (by decide)) 17)
  show J X.1 RL cL_law 4 ret (ELW X M1 b L xs) C N Zl 431 [(3, vi i), (2, vr X 97), (1, vr X 0), (0, .ref b)] [vi r1]
  refine j_pop (pc' := 432) dL_law_431 rfl rfl ?_
  refine j_aload (pc' := 433) 1 dL_law_432 rfl rfl ?_
  refine j_aload (pc' := 434) 3 dL_law_433 rfl rfl ?_
  refine j_iload_n (pc' := 435) 0 dL_law_434 rfl rfl ?_
  refine j_iconst (pc' := 436) dL_law_435 rfl ?_
  refine j_iadd (pc' := 437) dL_law_436 rfl ?_
  refine w_sld (pc' := 438) dL_law_437 rfl (by omega) (by omega) ?_
  refine j_aload (pc' := 439) 3 dL_law_438 rfl rfl ?_
  refine j_iload_n (pc' := 440) 0 dL_law_439 rfl rfl ?_
  refine j_iconst (pc' := 441) dL_law_440 rfl ?_
  refine j_iadd (pc' := 442) dL_law_441 rfl ?_
  refine w_sld (pc' := 443) dL_law_442 rfl (by omega) (by omega) ?_
  refine w_call hC hN hR1 (pc' := 446) (As := [vi (sx xs (i + 1)), vi (sx xs (i + 2))]) (o := 97) (S := []) dL_law_443 rfl m_L_49 w_X10_lick (c_X10_lick_x X M1 im1 (sx xs (i + 1)) (sx_in xs (i + 1)) (sx xs (i + 2)) (sx_in xs (i + 2))) rfl ⟨_, _, _, rfl, rfl, rfl⟩ (Nat.le_of_ble_eq_true rfl) (Nat.le_of_ble_eq_true rfl) rfl (Nat.le_of_ble_eq_true rfl) (fun v M2 hq hR2 => ?_)
  obtain ⟨r2, rfl, im2, f2, e2_0, e2_1, e2_2, e2_3, e2_4, e2_5, e2_6, e2_7, e2_8, e2_9, e2_10, e2_11, e2_12, e2_13, e2_14, e2_15, e2_16, e2_17, e2_18, p2⟩ := hq
  have ic2 : IC M2 := IC.fr ic1 f2 (fun c z => by unfold free isT; first | omega | (dsimp only at z; omega))
  have fd2 := frC (Fr.tr Fr.rf f2 fi_80)
  have wr2 : TR M2 := TR.fr wr1 (f2 32 (by decide)) (f2 106 (by decide)) (by omega) (congrFun (f2 0 (by decide)) 12) (by omega)
  show J X.1 RL cL_law 4 ret (ELW X M2 b L xs) C N Zl 446 [(3, vi i), (2, vr X 97), (1, vr X 0), (0, .ref b)] [vi r2]
  refine j_pop (pc' := 447) dL_law_446 rfl rfl ?_
  refine j_goto (tgt := 1429) dL_law_447 rfl ?_
  have F := Fr.tr (P := fun c => (fun c => (2 ≤ c ∧ c ≤ 6) ∨ c = 0 ∨ c = 96) c ∨ (fun c => c = 97 ∨ c = 98 ∨ c = 101 ∨ c = 104 ∨ c = 105) c) (Fr.tr Fr.rf f1 (fun c z => Or.inl z)) f2 (fun c z => Or.inr z)
  have k0_10 : M2 0 10 = M1 0 10 := congrFun (f2 0 (by first | decide | omega | (dsimp only; omega))) 10
  have k0_11 : M2 0 11 = M1 0 11 := congrFun (f2 0 (by first | decide | omega | (dsimp only; omega))) 11
  have k0_12 : M2 0 12 = M1 0 12 := congrFun (f2 0 (by first | decide | omega | (dsimp only; omega))) 12
  have k0_13 : M2 0 13 = M1 0 13 := congrFun (f2 0 (by first | decide | omega | (dsimp only; omega))) 13
  have k97_1 : M1 97 1 = M 97 1 := congrFun (f1 97 (by first | decide | omega | (dsimp only; omega))) 1
  have k97_10 : M1 97 10 = M 97 10 := congrFun (f1 97 (by first | decide | omega | (dsimp only; omega))) 10
  have k97_17 : M1 97 17 = M 97 17 := congrFun (f1 97 (by first | decide | omega | (dsimp only; omega))) 17
  have k97_33 : M1 97 33 = M 97 33 := congrFun (f1 97 (by first | decide | omega | (dsimp only; omega))) 33
  have k97_44 : M1 97 44 = M 97 44 := congrFun (f1 97 (by first | decide | omega | (dsimp only; omega))) 44
  obtain ⟨g1, g2, g3, g4, rf, ⟨g6a, g6b⟩, g7_⟩ := gr
  have k99_0 : M2 99 0 = M 99 0 := congrFun ((f2 99 (by first | decide | omega | (dsimp only; omega))).trans (f1 99 (by first | decide | omega | (dsimp only; omega)))) 0
  rw [(f1 101 (by first | decide | omega | (dsimp only; omega))), (f1 99 (by first | decide | omega | (dsimp only; omega)))] at p2
  obtain ⟨hrr, pb_⟩ := p1.2.1 r2 (M2 101) im2.2.1 p2.2.1
  have gr2 : GR M2 := GR.k ⟨g1, g2, g3, g4, rf, ⟨g6a, g6b⟩, g7_⟩ F (fun c z => by unfold inT; first | omega | (dsimp only at z; omega)) (G1.st pb_ f2 (fun c z => by unfold inT; first | omega | (dsimp only at z; omega)) k99_0.symm (E25.rf _) (fun j _ => congrFun ((f2 99 (by first | decide | omega | (dsimp only; omega))).trans (f1 99 (by first | decide | omega | (dsimp only; omega)))) _)) (G2.fr g2 ((f2 7 (by first | decide | omega | (dsimp only; omega))).trans (f1 7 (by first | decide | omega | (dsimp only; omega)))) (by omega) (by omega) (fun k _ _ => congrFun ((f2 99 (by first | decide | omega | (dsimp only; omega))).trans (f1 99 (by first | decide | omega | (dsimp only; omega)))) k)) (RFR.s2 rf (by omega) hrr k0_10 p1.2.2.1 p2.2.2.1 (f2 96 (by first | decide | omega | (dsimp only; omega))) p1.2.2.2 (f1 98 (by first | decide | omega | (dsimp only; omega))) p2.2.2.2) ⟨by omega, by omega⟩ (by omega)
  exact hk M2 hR2 ic2 im2 ⟨by unfold CR at cr ⊢; omega, wr2, gr2⟩
set_option maxHeartbeats 4000000 in
set_option maxRecDepth 100000 in
theorem law_c8 (X : Cx) (b L : Nat) (xs : Nat → Int32) (C N : Nat) (hC : C + 0 ≤ 600000) (hN : N + 0 ≤ 7302249) (i : Int) (M : Mm) (hR : Rg M) (ic : IC M) (im : IM M) (crx : CX M) (h0 : 0 ≤ i) (h1 : i + 7 ≤ L) (hL : L ≤ 3584) (hk : ∀ M' : Mm, Rg M' → IC M' → IM M' → CX M' → J X.1 RL cL_law 4 ret (ELW X M' b L xs) C N Zl 1429 [(3, vi i), (2, vr X 97), (1, vr X 0), (0, .ref b)] []) : J X.1 RL cL_law 4 ret (ELW X M b L xs) C N Zl 450 [(3, vi i), (2, vr X 97), (1, vr X 0), (0, .ref b)] [] := by
  have cr := crx.1
  have wr := crx.2.1
  have gr := crx.2.2
  have bb := ICb ic
  refine j_aload (pc' := 451) 2 dL_law_450 rfl rfl ?_
  refine j_aload (pc' := 452) 3 dL_law_451 rfl rfl ?_
  refine j_iload_n (pc' := 453) 0 dL_law_452 rfl rfl ?_
  refine j_iconst (pc' := 454) dL_law_453 rfl ?_
  refine j_iadd (pc' := 455) dL_law_454 rfl ?_
  refine w_sld (pc' := 456) dL_law_455 rfl (by omega) (by omega) ?_
  obtain ⟨ta, tb, P, Lq, F, Z, tv, pub⟩ := gr.1
  refine w_call hC hN hR (pc' := 459) (As := [vi (sx xs (i + 1))]) (o := 0) (S := []) dL_law_456 rfl m_L_50 w_X9_empty (c_X9_empty_x X M ic (sx xs (i + 1)) (sx_in xs (i + 1)) ta tb (M 99 0) P Lq F Z (M 101) (fun j => M 99 (4 + j)) tv pub) rfl ⟨_, _, _, rfl, rfl, rfl⟩ (Nat.le_of_ble_eq_true rfl) (Nat.le_of_ble_eq_true rfl) rfl (Nat.le_of_ble_eq_true rfl) (fun v M1 hq hR1 => ?_)
  obtain ⟨r1, rfl, ic1, f1, e1_0, e1_1, e1_2, e1_3, e1_4, e1_5, e1_6, e1_7, e1_8, e1_9, e1_10, e1_11, e1_12, e1_13, e1_14, e1_15, e1_16, e1_17, p1⟩ := hq
  have im1 : IM M1 := IM.fr im f1 (fun c z => by first | omega | (dsimp only at z; omega))
  have fd1 := frD (Fr.tr Fr.rf f1 fi_76)
  have wr1 : TR M1 := TR.fr wr (f1 32 (by decide)) (f1 106 (by decide)) (by omega) (by omega) (congrFun (f1 97 (by decide)) 17)
  show J X.1 RL cL_law 4 ret (ELW X M1 b L xs) C N Zl 459 [(3, vi i), (2, vr X 97), (1, vr X 0), (0, .ref b)] [vi r1]
  refine j_pop (pc' := 460) dL_law_459 rfl rfl ?_
  refine j_aload (pc' := 461) 1 dL_law_460 rfl rfl ?_
  refine j_aload (pc' := 462) 3 dL_law_461 rfl rfl ?_
  refine j_iload_n (pc' := 463) 0 dL_law_462 rfl rfl ?_
  refine j_iconst (pc' := 464) dL_law_463 rfl ?_
  refine j_iadd (pc' := 465) dL_law_464 rfl ?_
  refine w_sld (pc' := 466) dL_law_465 rfl (by omega) (by omega) ?_
  refine w_call hC hN hR1 (pc' := 469) (As := [vi (sx xs (i + 1))]) (o := 97) (S := []) dL_law_466 rfl m_L_53 w_X10_empty (c_X10_empty_x X M1 im1 (sx xs (i + 1)) (sx_in xs (i + 1))) rfl ⟨_, _, _, rfl, rfl, rfl⟩ (Nat.le_of_ble_eq_true rfl) (Nat.le_of_ble_eq_true rfl) rfl (Nat.le_of_ble_eq_true rfl) (fun v M2 hq hR2 => ?_)
  obtain ⟨r2, rfl, im2, f2, e2_0, e2_1, e2_2, e2_3, e2_4, e2_5, e2_6, e2_7, e2_8, e2_9, e2_10, e2_11, e2_12, e2_13, e2_14, e2_15, e2_16, e2_17, e2_18, p2⟩ := hq
  have ic2 : IC M2 := IC.fr ic1 f2 (fun c z => by unfold free isT; first | omega | (dsimp only at z; omega))
  have fd2 := frC (Fr.tr Fr.rf f2 fi_79)
  have wr2 : TR M2 := TR.fr wr1 (f2 32 (by decide)) (f2 106 (by decide)) (by omega) (congrFun (f2 0 (by decide)) 12) (by omega)
  show J X.1 RL cL_law 4 ret (ELW X M2 b L xs) C N Zl 469 [(3, vi i), (2, vr X 97), (1, vr X 0), (0, .ref b)] [vi r2]
  refine j_pop (pc' := 470) dL_law_469 rfl rfl ?_
  refine j_goto (tgt := 1429) dL_law_470 rfl ?_
  have F := Fr.tr (P := fun c => (fun c => (2 ≤ c ∧ c ≤ 6) ∨ c = 0 ∨ c = 96) c ∨ (fun c => c = 97 ∨ c = 98 ∨ c = 101) c) (Fr.tr Fr.rf f1 (fun c z => Or.inl z)) f2 (fun c z => Or.inr z)
  have k0_10 : M2 0 10 = M1 0 10 := congrFun (f2 0 (by first | decide | omega | (dsimp only; omega))) 10
  have k0_11 : M2 0 11 = M1 0 11 := congrFun (f2 0 (by first | decide | omega | (dsimp only; omega))) 11
  have k0_12 : M2 0 12 = M1 0 12 := congrFun (f2 0 (by first | decide | omega | (dsimp only; omega))) 12
  have k0_13 : M2 0 13 = M1 0 13 := congrFun (f2 0 (by first | decide | omega | (dsimp only; omega))) 13
  have k97_1 : M1 97 1 = M 97 1 := congrFun (f1 97 (by first | decide | omega | (dsimp only; omega))) 1
  have k97_10 : M1 97 10 = M 97 10 := congrFun (f1 97 (by first | decide | omega | (dsimp only; omega))) 10
  have k97_17 : M1 97 17 = M 97 17 := congrFun (f1 97 (by first | decide | omega | (dsimp only; omega))) 17
  have k97_33 : M1 97 33 = M 97 33 := congrFun (f1 97 (by first | decide | omega | (dsimp only; omega))) 33
  have k97_44 : M1 97 44 = M 97 44 := congrFun (f1 97 (by first | decide | omega | (dsimp only; omega))) 44
  obtain ⟨g1, g2, g3, g4, rf, ⟨g6a, g6b⟩, g7_⟩ := gr
  have k99_0 : M2 99 0 = M 99 0 := congrFun ((f2 99 (by first | decide | omega | (dsimp only; omega))).trans (f1 99 (by first | decide | omega | (dsimp only; omega)))) 0
  rw [(f1 101 (by first | decide | omega | (dsimp only; omega))), (f1 99 (by first | decide | omega | (dsimp only; omega)))] at p2
  obtain ⟨hrr, pb_⟩ := p1.2.1 r2 (M2 101) im2.2.1 p2.2.1
  have gr2 : GR M2 := GR.k ⟨g1, g2, g3, g4, rf, ⟨g6a, g6b⟩, g7_⟩ F (fun c z => by unfold inT; first | omega | (dsimp only at z; omega)) (G1.st pb_ f2 (fun c z => by unfold inT; first | omega | (dsimp only at z; omega)) k99_0.symm (E25.rf _) (fun j _ => congrFun ((f2 99 (by first | decide | omega | (dsimp only; omega))).trans (f1 99 (by first | decide | omega | (dsimp only; omega)))) _)) (G2.fr g2 ((f2 7 (by first | decide | omega | (dsimp only; omega))).trans (f1 7 (by first | decide | omega | (dsimp only; omega)))) (by omega) (by omega) (fun k _ _ => congrFun ((f2 99 (by first | decide | omega | (dsimp only; omega))).trans (f1 99 (by first | decide | omega | (dsimp only; omega)))) k)) (RFR.s2 rf (by omega) hrr k0_10 p1.2.2.1 p2.2.2.1 (f2 96 (by first | decide | omega | (dsimp only; omega))) p1.2.2.2 (f1 98 (by first | decide | omega | (dsimp only; omega))) p2.2.2.2) ⟨by omega, by omega⟩ (by omega)
  exact hk M2 hR2 ic2 im2 ⟨by unfold CR at cr ⊢; omega, wr2, gr2⟩
set_option maxHeartbeats 4000000 in
set_option maxRecDepth 100000 in
theorem law_c9 (X : Cx) (b L : Nat) (xs : Nat → Int32) (C N : Nat) (hC : C + 0 ≤ 600000) (hN : N + 0 ≤ 7302249) (i : Int) (M : Mm) (hR : Rg M) (ic : IC M) (im : IM M) (crx : CX M) (h0 : 0 ≤ i) (h1 : i + 7 ≤ L) (hL : L ≤ 3584) (hk : ∀ M' : Mm, Rg M' → IC M' → IM M' → CX M' → J X.1 RL cL_law 4 ret (ELW X M' b L xs) C N Zl 1429 [(3, vi i), (2, vr X 97), (1, vr X 0), (0, .ref b)] []) : J X.1 RL cL_law 4 ret (ELW X M b L xs) C N Zl 473 [(3, vi i), (2, vr X 97), (1, vr X 0), (0, .ref b)] [] := by
  have cr := crx.1
  have wr := crx.2.1
  have gr := crx.2.2
  have bb := ICb ic
  refine j_aload (pc' := 474) 2 dL_law_473 rfl rfl ?_
  refine j_aload (pc' := 475) 3 dL_law_474 rfl rfl ?_
  refine j_iload_n (pc' := 476) 0 dL_law_475 rfl rfl ?_
  refine j_iconst (pc' := 477) dL_law_476 rfl ?_
  refine j_iadd (pc' := 478) dL_law_477 rfl ?_
  refine w_sld (pc' := 479) dL_law_478 rfl (by omega) (by omega) ?_
  refine j_aload (pc' := 480) 3 dL_law_479 rfl rfl ?_
  refine j_iload_n (pc' := 481) 0 dL_law_480 rfl rfl ?_
  refine j_iconst (pc' := 482) dL_law_481 rfl ?_
  refine j_iadd (pc' := 483) dL_law_482 rfl ?_
  refine w_sld (pc' := 484) dL_law_483 rfl (by omega) (by omega) ?_
  refine j_aload (pc' := 485) 3 dL_law_484 rfl rfl ?_
  refine j_iload_n (pc' := 486) 0 dL_law_485 rfl rfl ?_
  refine j_iconst (pc' := 487) dL_law_486 rfl ?_
  refine j_iadd (pc' := 488) dL_law_487 rfl ?_
  refine w_sld (pc' := 489) dL_law_488 rfl (by omega) (by omega) ?_
  refine j_aload (pc' := 490) 3 dL_law_489 rfl rfl ?_
  refine j_iload_n (pc' := 491) 0 dL_law_490 rfl rfl ?_
  refine j_iconst (pc' := 492) dL_law_491 rfl ?_
  refine j_iadd (pc' := 493) dL_law_492 rfl ?_
  refine w_sld (pc' := 494) dL_law_493 rfl (by omega) (by omega) ?_
  refine j_aload (pc' := 495) 3 dL_law_494 rfl rfl ?_
  refine j_iload_n (pc' := 496) 0 dL_law_495 rfl rfl ?_
  refine j_iconst (pc' := 497) dL_law_496 rfl ?_
  refine j_iadd (pc' := 498) dL_law_497 rfl ?_
  refine w_sld (pc' := 499) dL_law_498 rfl (by omega) (by omega) ?_
  refine w_call hC hN hR (pc' := 502) (As := [vi (sx xs (i + 1)), vi (sx xs (i + 2)), vi (sx xs (i + 3)), vi (sx xs (i + 4)), vi (sx xs (i + 5))]) (o := 0) (S := []) dL_law_499 rfl m_L_54 w_X9_feed (c_X9_feed_x X M ic (sx xs (i + 1)) (sx_in xs (i + 1)) (sx xs (i + 2)) (sx_in xs (i + 2)) (sx xs (i + 3)) (sx_in xs (i + 3)) (sx xs (i + 4)) (sx_in xs (i + 4)) (sx xs (i + 5)) (sx_in xs (i + 5))) rfl ⟨_, _, _, rfl, rfl, rfl⟩ (Nat.le_of_ble_eq_true rfl) (Nat.le_of_ble_eq_true rfl) rfl (Nat.le_of_ble_eq_true rfl) (fun v M1 hq hR1 => ?_)
  obtain ⟨r1, rfl, ic1, f1, e1_0, e1_1, e1_2, e1_3, e1_4, e1_5, e1_6, e1_7, e1_8, e1_9, e1_10, e1_11, e1_12, e1_13, e1_14, e1_15, e1_16, e1_17, p1⟩ := hq
  have im1 : IM M1 := IM.fr im f1 (fun c z => by first | omega | (dsimp only at z; omega))
  have fd1 := frD (Fr.tr Fr.rf f1 fi_81)
  have x1 := p1.2
  replace p1 := p1.1
  show J X.1 RL cL_law 4 ret (ELW X M1 b L xs) C N Zl 502 [(3, vi i), (2, vr X 97), (1, vr X 0), (0, .ref b)] [vi r1]
  refine j_pop (pc' := 503) dL_law_502 rfl rfl ?_
  refine j_aload (pc' := 504) 1 dL_law_503 rfl rfl ?_
  refine j_aload (pc' := 505) 3 dL_law_504 rfl rfl ?_
  refine j_iload_n (pc' := 506) 0 dL_law_505 rfl rfl ?_
  refine j_iconst (pc' := 507) dL_law_506 rfl ?_
  refine j_iadd (pc' := 508) dL_law_507 rfl ?_
  refine w_sld (pc' := 509) dL_law_508 rfl (by omega) (by omega) ?_
  refine j_aload (pc' := 510) 3 dL_law_509 rfl rfl ?_
  refine j_iload_n (pc' := 511) 0 dL_law_510 rfl rfl ?_
  refine j_iconst (pc' := 512) dL_law_511 rfl ?_
  refine j_iadd (pc' := 513) dL_law_512 rfl ?_
  refine w_sld (pc' := 514) dL_law_513 rfl (by omega) (by omega) ?_
  refine j_aload (pc' := 515) 3 dL_law_514 rfl rfl ?_
  refine j_iload_n (pc' := 516) 0 dL_law_515 rfl rfl ?_
  refine j_iconst (pc' := 517) dL_law_516 rfl ?_
  refine j_iadd (pc' := 518) dL_law_517 rfl ?_
  refine w_sld (pc' := 519) dL_law_518 rfl (by omega) (by omega) ?_
  refine j_aload (pc' := 520) 3 dL_law_519 rfl rfl ?_
  refine j_iload_n (pc' := 521) 0 dL_law_520 rfl rfl ?_
  refine j_iconst (pc' := 522) dL_law_521 rfl ?_
  refine j_iadd (pc' := 523) dL_law_522 rfl ?_
  refine w_sld (pc' := 524) dL_law_523 rfl (by omega) (by omega) ?_
  refine j_aload (pc' := 525) 3 dL_law_524 rfl rfl ?_
  refine j_iload_n (pc' := 526) 0 dL_law_525 rfl rfl ?_
  refine j_iconst (pc' := 527) dL_law_526 rfl ?_
  refine j_iadd (pc' := 528) dL_law_527 rfl ?_
  refine w_sld (pc' := 529) dL_law_528 rfl (by omega) (by omega) ?_
  refine w_call hC hN hR1 (pc' := 532) (As := [vi (sx xs (i + 1)), vi (sx xs (i + 2)), vi (sx xs (i + 3)), vi (sx xs (i + 4)), vi (sx xs (i + 5))]) (o := 97) (S := []) dL_law_529 rfl m_L_58 w_X10_feed (c_X10_feed_x X M1 im1 (sx xs (i + 1)) (sx_in xs (i + 1)) (sx xs (i + 2)) (sx_in xs (i + 2)) (sx xs (i + 3)) (sx_in xs (i + 3)) (sx xs (i + 4)) (sx_in xs (i + 4)) (sx xs (i + 5)) (sx_in xs (i + 5))) rfl ⟨_, _, _, rfl, rfl, rfl⟩ (Nat.le_of_ble_eq_true rfl) (Nat.le_of_ble_eq_true rfl) rfl (Nat.le_of_ble_eq_true rfl) (fun v M2 hq hR2 => ?_)
  obtain ⟨r2, rfl, im2, f2, e2_0, e2_1, e2_2, e2_3, e2_4, e2_5, e2_6, e2_7, e2_8, e2_9, e2_10, e2_11, e2_12, e2_13, e2_14, e2_15, e2_16, e2_17, e2_18, p2⟩ := hq
  have ic2 : IC M2 := IC.fr ic1 f2 (fun c z => by unfold free isT; first | omega | (dsimp only at z; omega))
  have fd2 := frC (Fr.tr Fr.rf f2 fi_82)
  have x2 := p2.2
  replace p2 := p2.1
  show J X.1 RL cL_law 4 ret (ELW X M2 b L xs) C N Zl 532 [(3, vi i), (2, vr X 97), (1, vr X 0), (0, .ref b)] [vi r2]
  refine j_pop (pc' := 533) dL_law_532 rfl rfl ?_
  refine j_goto (tgt := 1429) dL_law_533 rfl ?_
  have F := Fr.tr (P := fun c => (fun c => c = 31 ∨ c = 32) c ∨ (fun c => c = 97 ∨ c = 106) c) (Fr.tr Fr.rf f1 (fun c z => Or.inl z)) f2 (fun c z => Or.inr z)
  have k0_10 : M2 0 10 = M1 0 10 := congrFun (f2 0 (by first | decide | omega | (dsimp only; omega))) 10
  have k0_11 : M2 0 11 = M1 0 11 := congrFun (f2 0 (by first | decide | omega | (dsimp only; omega))) 11
  have k0_12 : M2 0 12 = M1 0 12 := congrFun (f2 0 (by first | decide | omega | (dsimp only; omega))) 12
  have k0_13 : M2 0 13 = M1 0 13 := congrFun (f2 0 (by first | decide | omega | (dsimp only; omega))) 13
  have k97_1 : M1 97 1 = M 97 1 := congrFun (f1 97 (by first | decide | omega | (dsimp only; omega))) 1
  have k97_10 : M1 97 10 = M 97 10 := congrFun (f1 97 (by first | decide | omega | (dsimp only; omega))) 10
  have k97_17 : M1 97 17 = M 97 17 := congrFun (f1 97 (by first | decide | omega | (dsimp only; omega))) 17
  have k97_33 : M1 97 33 = M 97 33 := congrFun (f1 97 (by first | decide | omega | (dsimp only; omega))) 33
  have k97_44 : M1 97 44 = M 97 44 := congrFun (f1 97 (by first | decide | omega | (dsimp only; omega))) 44
  obtain ⟨g1, g2, g3, g4, rf, ⟨g6a, g6b⟩, g7_⟩ := gr
  have k99_0 : M2 99 0 = M 99 0 := congrFun ((f2 99 (by first | decide | omega | (dsimp only; omega))).trans (f1 99 (by first | decide | omega | (dsimp only; omega)))) 0
  have gr2 : GR M2 := GR.k ⟨g1, g2, g3, g4, rf, ⟨g6a, g6b⟩, g7_⟩ F (fun c z => by unfold inT; first | omega | (dsimp only at z; omega)) (G1.fr g1 F (fun c z => by unfold inT; first | omega | (dsimp only at z; omega)) k99_0 (fun k _ _ => congrFun ((f2 99 (by first | decide | omega | (dsimp only; omega))).trans (f1 99 (by first | decide | omega | (dsimp only; omega)))) k) (fun j _ => congrFun ((f2 101 (by first | decide | omega | (dsimp only; omega))).trans (f1 101 (by first | decide | omega | (dsimp only; omega)))) j)) (G2.fr g2 ((f2 7 (by first | decide | omega | (dsimp only; omega))).trans (f1 7 (by first | decide | omega | (dsimp only; omega)))) (by omega) (by omega) (fun k _ _ => congrFun ((f2 99 (by first | decide | omega | (dsimp only; omega))).trans (f1 99 (by first | decide | omega | (dsimp only; omega)))) k)) (RFR.fr rf (by omega) (by omega) ((f2 96 (by first | decide | omega | (dsimp only; omega))).trans (f1 96 (by first | decide | omega | (dsimp only; omega)))) ((f2 98 (by first | decide | omega | (dsimp only; omega))).trans (f1 98 (by first | decide | omega | (dsimp only; omega))))) ⟨by omega, by omega⟩ (by omega)
  have wrF : TR M2 := TR.feed wr (by unfold CR at cr; omega) (by omega) x1 x2 (f1 106 (by decide)) (f2 32 (by decide)) (by omega) (fun z => by omega) (fun z => by omega) ((congrFun (f2 0 (by decide)) 12).trans (by omega)) ((show M2 97 17 = M1 97 17 by omega).trans (congrFun (f1 97 (by decide)) 17))
  exact hk M2 hR2 ic2 im2 ⟨by unfold CR at cr ⊢; omega, wrF, gr2⟩
set_option maxHeartbeats 4000000 in
set_option maxRecDepth 100000 in
theorem law_c10 (X : Cx) (b L : Nat) (xs : Nat → Int32) (C N : Nat) (hC : C + 0 ≤ 600000) (hN : N + 0 ≤ 7302249) (i : Int) (M : Mm) (hR : Rg M) (ic : IC M) (im : IM M) (crx : CX M) (h0 : 0 ≤ i) (h1 : i + 7 ≤ L) (hL : L ≤ 3584) (hk : ∀ M' : Mm, Rg M' → IC M' → IM M' → CX M' → J X.1 RL cL_law 4 ret (ELW X M' b L xs) C N Zl 1429 [(3, vi i), (2, vr X 97), (1, vr X 0), (0, .ref b)] []) : J X.1 RL cL_law 4 ret (ELW X M b L xs) C N Zl 536 [(3, vi i), (2, vr X 97), (1, vr X 0), (0, .ref b)] [] := by
  have cr := crx.1
  have wr := crx.2.1
  have gr := crx.2.2
  have bb := ICb ic
  refine j_aload (pc' := 537) 2 dL_law_536 rfl rfl ?_
  refine j_aload (pc' := 538) 3 dL_law_537 rfl rfl ?_
  refine j_iload_n (pc' := 539) 0 dL_law_538 rfl rfl ?_
  refine j_iconst (pc' := 540) dL_law_539 rfl ?_
  refine j_iadd (pc' := 541) dL_law_540 rfl ?_
  refine w_sld (pc' := 542) dL_law_541 rfl (by omega) (by omega) ?_
  refine w_call hC hN hR (pc' := 545) (As := [vi (sx xs (i + 1))]) (o := 0) (S := []) dL_law_542 rfl m_L_59 w_X9_end (c_X9_end X M ic (sx xs (i + 1)) (sx_in xs (i + 1))) rfl ⟨_, _, _, rfl, rfl, rfl⟩ (Nat.le_of_ble_eq_true rfl) (Nat.le_of_ble_eq_true rfl) rfl (Nat.le_of_ble_eq_true rfl) (fun v M1 hq hR1 => ?_)
  obtain ⟨r1, rfl, ic1, f1, e1_0, e1_1, e1_2, e1_3, e1_4, e1_5, e1_6, e1_7, e1_8, e1_9, e1_10, e1_11, e1_12, e1_13, e1_14, e1_15, e1_16, e1_17, p1⟩ := hq
  have im1 : IM M1 := IM.fr im f1 (fun c z => by first | omega | (dsimp only at z; omega))
  have fd1 := frD (Fr.tr Fr.rf f1 fi_83)
  have wr1 : TR M1 := TR.fr wr (f1 32 (by decide)) (f1 106 (by decide)) (by omega) (by omega) (congrFun (f1 97 (by decide)) 17)
  show J X.1 RL cL_law 4 ret (ELW X M1 b L xs) C N Zl 545 [(3, vi i), (2, vr X 97), (1, vr X 0), (0, .ref b)] [vi r1]
  refine j_pop (pc' := 546) dL_law_545 rfl rfl ?_
  refine j_aload (pc' := 547) 1 dL_law_546 rfl rfl ?_
  refine j_aload (pc' := 548) 3 dL_law_547 rfl rfl ?_
  refine j_iload_n (pc' := 549) 0 dL_law_548 rfl rfl ?_
  refine j_iconst (pc' := 550) dL_law_549 rfl ?_
  refine j_iadd (pc' := 551) dL_law_550 rfl ?_
  refine w_sld (pc' := 552) dL_law_551 rfl (by omega) (by omega) ?_
  refine w_call hC hN hR1 (pc' := 555) (As := [vi (sx xs (i + 1))]) (o := 97) (S := []) dL_law_552 rfl m_L_62 w_X10_end (c_X10_end X M1 im1 (sx xs (i + 1)) (sx_in xs (i + 1))) rfl ⟨_, _, _, rfl, rfl, rfl⟩ (Nat.le_of_ble_eq_true rfl) (Nat.le_of_ble_eq_true rfl) rfl (Nat.le_of_ble_eq_true rfl) (fun v M2 hq hR2 => ?_)
  obtain ⟨r2, rfl, im2, f2, e2_0, e2_1, e2_2, e2_3, e2_4, e2_5, e2_6, e2_7, e2_8, e2_9, e2_10, e2_11, e2_12, e2_13, e2_14, e2_15, e2_16, e2_17, e2_18, p2⟩ := hq
  have ic2 : IC M2 := IC.fr ic1 f2 (fun c z => by unfold free isT; first | omega | (dsimp only at z; omega))
  have fd2 := frC (Fr.tr Fr.rf f2 fi_78)
  have wr2 : TR M2 := TR.fr wr1 (f2 32 (by decide)) (f2 106 (by decide)) (by omega) (congrFun (f2 0 (by decide)) 12) (by omega)
  show J X.1 RL cL_law 4 ret (ELW X M2 b L xs) C N Zl 555 [(3, vi i), (2, vr X 97), (1, vr X 0), (0, .ref b)] [vi r2]
  refine j_pop (pc' := 556) dL_law_555 rfl rfl ?_
  refine j_goto (tgt := 1429) dL_law_556 rfl ?_
  have F := Fr.tr (P := fun c => (fun c => c = 31) c ∨ (fun c => c = 97) c) (Fr.tr Fr.rf f1 (fun c z => Or.inl z)) f2 (fun c z => Or.inr z)
  have k0_10 : M2 0 10 = M1 0 10 := congrFun (f2 0 (by first | decide | omega | (dsimp only; omega))) 10
  have k0_11 : M2 0 11 = M1 0 11 := congrFun (f2 0 (by first | decide | omega | (dsimp only; omega))) 11
  have k0_12 : M2 0 12 = M1 0 12 := congrFun (f2 0 (by first | decide | omega | (dsimp only; omega))) 12
  have k0_13 : M2 0 13 = M1 0 13 := congrFun (f2 0 (by first | decide | omega | (dsimp only; omega))) 13
  have k97_1 : M1 97 1 = M 97 1 := congrFun (f1 97 (by first | decide | omega | (dsimp only; omega))) 1
  have k97_10 : M1 97 10 = M 97 10 := congrFun (f1 97 (by first | decide | omega | (dsimp only; omega))) 10
  have k97_17 : M1 97 17 = M 97 17 := congrFun (f1 97 (by first | decide | omega | (dsimp only; omega))) 17
  have k97_33 : M1 97 33 = M 97 33 := congrFun (f1 97 (by first | decide | omega | (dsimp only; omega))) 33
  have k97_44 : M1 97 44 = M 97 44 := congrFun (f1 97 (by first | decide | omega | (dsimp only; omega))) 44
  obtain ⟨g1, g2, g3, g4, rf, ⟨g6a, g6b⟩, g7_⟩ := gr
  have k99_0 : M2 99 0 = M 99 0 := congrFun ((f2 99 (by first | decide | omega | (dsimp only; omega))).trans (f1 99 (by first | decide | omega | (dsimp only; omega)))) 0
  have gr2 : GR M2 := GR.k ⟨g1, g2, g3, g4, rf, ⟨g6a, g6b⟩, g7_⟩ F (fun c z => by unfold inT; first | omega | (dsimp only at z; omega)) (G1.fr g1 F (fun c z => by unfold inT; first | omega | (dsimp only at z; omega)) k99_0 (fun k _ _ => congrFun ((f2 99 (by first | decide | omega | (dsimp only; omega))).trans (f1 99 (by first | decide | omega | (dsimp only; omega)))) k) (fun j _ => congrFun ((f2 101 (by first | decide | omega | (dsimp only; omega))).trans (f1 101 (by first | decide | omega | (dsimp only; omega)))) j)) (G2.fr g2 ((f2 7 (by first | decide | omega | (dsimp only; omega))).trans (f1 7 (by first | decide | omega | (dsimp only; omega)))) (by omega) (by omega) (fun k _ _ => congrFun ((f2 99 (by first | decide | omega | (dsimp only; omega))).trans (f1 99 (by first | decide | omega | (dsimp only; omega)))) k)) (RFR.fr rf (by omega) (by omega) ((f2 96 (by first | decide | omega | (dsimp only; omega))).trans (f1 96 (by first | decide | omega | (dsimp only; omega)))) ((f2 98 (by first | decide | omega | (dsimp only; omega))).trans (f1 98 (by first | decide | omega | (dsimp only; omega))))) ⟨by omega, by omega⟩ (by omega)
  exact hk M2 hR2 ic2 im2 ⟨by unfold CR at cr ⊢; omega, wr2, gr2⟩
set_option maxHeartbeats 4000000 in
set_option maxRecDepth 100000 in
theorem law_c11 (X : Cx) (b L : Nat) (xs : Nat → Int32) (C N : Nat) (hC : C + 0 ≤ 600000) (hN : N + 0 ≤ 7302249) (i : Int) (M : Mm) (hR : Rg M) (ic : IC M) (im : IM M) (crx : CX M) (h0 : 0 ≤ i) (h1 : i + 7 ≤ L) (hL : L ≤ 3584) (hk : ∀ M' : Mm, Rg M' → IC M' → IM M' → CX M' → J X.1 RL cL_law 4 ret (ELW X M' b L xs) C N Zl 1429 [(3, vi i), (2, vr X 97), (1, vr X 0), (0, .ref b)] []) : J X.1 RL cL_law 4 ret (ELW X M b L xs) C N Zl 559 [(3, vi i), (2, vr X 97), (1, vr X 0), (0, .ref b)] [] := by
  have cr := crx.1
  have wr := crx.2.1
  have gr := crx.2.2
  have bb := ICb ic
  refine j_aload (pc' := 560) 2 dL_law_559 rfl rfl ?_
  obtain ⟨ta, tb, P, Lq, F, Z, tv, pub⟩ := gr.1
  refine w_call hC hN hR (pc' := 563) (As := []) (o := 0) (S := []) dL_law_560 rfl m_L_63 w_X9_row (c_X9_row_x X M ic ta tb (M 99 0) P Lq F Z (M 101) (fun j => M 99 (4 + j)) tv pub) rfl ⟨_, _, _, rfl, rfl, rfl⟩ (Nat.le_of_ble_eq_true rfl) (Nat.le_of_ble_eq_true rfl) rfl (Nat.le_of_ble_eq_true rfl) (fun v M1 hq hR1 => ?_)
  obtain ⟨r1, rfl, ic1, f1, e1_0, e1_1, e1_2, e1_3, e1_4, e1_5, e1_6, e1_7, e1_8, e1_9, e1_10, e1_11, e1_12, e1_13, e1_14, e1_15, p1⟩ := hq
  have im1 : IM M1 := IM.fr im f1 (fun c z => by first | omega | (dsimp only at z; omega))
  have fd1 := frD (Fr.tr Fr.rf f1 fi_84)
  obtain ⟨ra1, mm1, rq1, pb1, z31, n0_, a0_⟩ := p1
  have wr1 : TR M1 := TR.fr wr (f1 32 (by decide)) (f1 106 (by decide)) (by omega) (by omega) (congrFun (f1 97 (by decide)) 17)
  show J X.1 RL cL_law 4 ret (ELW X M1 b L xs) C N Zl 563 [(3, vi i), (2, vr X 97), (1, vr X 0), (0, .ref b)] [vi r1]
  refine j_pop (pc' := 564) dL_law_563 rfl rfl ?_
  refine j_aload (pc' := 565) 1 dL_law_564 rfl rfl ?_
  refine w_call hC hN hR1 (pc' := 568) (As := []) (o := 97) (S := []) dL_law_565 rfl m_L_67 w_X10_row (c_X10_row_x X M1 im1) rfl ⟨_, _, _, rfl, rfl, rfl⟩ (Nat.le_of_ble_eq_true rfl) (Nat.le_of_ble_eq_true rfl) rfl (Nat.le_of_ble_eq_true rfl) (fun v M2 hq hR2 => ?_)
  obtain ⟨r2, rfl, im2, f2, e2_0, e2_1, e2_2, e2_3, e2_4, e2_5, e2_6, e2_7, e2_8, e2_9, e2_10, e2_11, e2_12, e2_13, e2_14, e2_15, e2_16, p2⟩ := hq
  have ic2 : IC M2 := IC.fr ic1 f2 (fun c z => by unfold free isT; first | omega | (dsimp only at z; omega))
  have fd2 := frC (Fr.tr Fr.rf f2 fi_79)
  have z12 := p2.2.2.1
  have wr2 : TR M2 := TR.fr wr1 (f2 32 (by decide)) (f2 106 (by decide)) (by omega) (congrFun (f2 0 (by decide)) 12) (by omega)
  show J X.1 RL cL_law 4 ret (ELW X M2 b L xs) C N Zl 568 [(3, vi i), (2, vr X 97), (1, vr X 0), (0, .ref b)] [vi r2]
  refine j_pop (pc' := 569) dL_law_568 rfl rfl ?_
  refine j_goto (tgt := 1429) dL_law_569 rfl ?_
  have F := Fr.tr (P := fun c => (fun c => (2 ≤ c ∧ c ≤ 6) ∨ c = 31 ∨ c = 0 ∨ c = 96) c ∨ (fun c => c = 97 ∨ c = 98 ∨ c = 101) c) (Fr.tr Fr.rf f1 (fun c z => Or.inl z)) f2 (fun c z => Or.inr z)
  have k0_10 : M2 0 10 = M1 0 10 := congrFun (f2 0 (by first | decide | omega | (dsimp only; omega))) 10
  have k0_11 : M2 0 11 = M1 0 11 := congrFun (f2 0 (by first | decide | omega | (dsimp only; omega))) 11
  have k0_12 : M2 0 12 = M1 0 12 := congrFun (f2 0 (by first | decide | omega | (dsimp only; omega))) 12
  have k0_13 : M2 0 13 = M1 0 13 := congrFun (f2 0 (by first | decide | omega | (dsimp only; omega))) 13
  have k97_1 : M1 97 1 = M 97 1 := congrFun (f1 97 (by first | decide | omega | (dsimp only; omega))) 1
  have k97_10 : M1 97 10 = M 97 10 := congrFun (f1 97 (by first | decide | omega | (dsimp only; omega))) 10
  have k97_17 : M1 97 17 = M 97 17 := congrFun (f1 97 (by first | decide | omega | (dsimp only; omega))) 17
  have k97_33 : M1 97 33 = M 97 33 := congrFun (f1 97 (by first | decide | omega | (dsimp only; omega))) 33
  have k97_44 : M1 97 44 = M 97 44 := congrFun (f1 97 (by first | decide | omega | (dsimp only; omega))) 44
  obtain ⟨g1, g2, g3, g4, rf, ⟨g6a, g6b⟩, g7_⟩ := gr
  have k99_0 : M2 99 0 = M 99 0 := congrFun ((f2 99 (by first | decide | omega | (dsimp only; omega))).trans (f1 99 (by first | decide | omega | (dsimp only; omega)))) 0
  obtain ⟨hrr, hs_, gg1⟩ := GR.row rq1 pb1 p2.2.1 (f1 99 (by first | decide | omega | (dsimp only; omega))) (f1 101 (by first | decide | omega | (dsimp only; omega))) (f1 106 (by first | decide | omega | (dsimp only; omega))) (by unfold CR at cr; omega) (by omega) crx.2.1 f2 (fun c z => by unfold inT; first | omega | (dsimp only at z; omega)) (f2 99 (by first | decide | omega | (dsimp only; omega)))
  have gr2 : GR M2 := GR.k ⟨g1, g2, g3, g4, rf, ⟨g6a, g6b⟩, g7_⟩ F (fun c z => by unfold inT; first | omega | (dsimp only at z; omega)) gg1 (G2.fr g2 ((f2 7 (by first | decide | omega | (dsimp only; omega))).trans (f1 7 (by first | decide | omega | (dsimp only; omega)))) (by omega) (by omega) (fun k _ _ => congrFun ((f2 99 (by first | decide | omega | (dsimp only; omega))).trans (f1 99 (by first | decide | omega | (dsimp only; omega)))) k)) (RFR.s2 rf p2.1.1 hrr k0_10 n0_ p2.2.2.2.1 (f2 96 (by first | decide | omega | (dsimp only; omega))) a0_ (f1 98 (by first | decide | omega | (dsimp only; omega))) p2.2.2.2.2) ⟨by omega, by omega⟩ (by omega)
  exact hk M2 hR2 ic2 im2 ⟨by unfold CR at cr ⊢; omega, wr2, gr2⟩
set_option maxHeartbeats 4000000 in
set_option maxRecDepth 100000 in
theorem law_c12 (X : Cx) (b L : Nat) (xs : Nat → Int32) (C N : Nat) (hC : C + 0 ≤ 600000) (hN : N + 0 ≤ 7302249) (i : Int) (M : Mm) (hR : Rg M) (ic : IC M) (im : IM M) (crx : CX M) (h0 : 0 ≤ i) (h1 : i + 7 ≤ L) (hL : L ≤ 3584) (hk : ∀ M' : Mm, Rg M' → IC M' → IM M' → CX M' → J X.1 RL cL_law 4 ret (ELW X M' b L xs) C N Zl 1429 [(3, vi i), (2, vr X 97), (1, vr X 0), (0, .ref b)] []) : J X.1 RL cL_law 4 ret (ELW X M b L xs) C N Zl 572 [(3, vi i), (2, vr X 97), (1, vr X 0), (0, .ref b)] [] := by
  have cr := crx.1
  have wr := crx.2.1
  have gr := crx.2.2
  have bb := ICb ic
  refine j_aload (pc' := 573) 2 dL_law_572 rfl rfl ?_
  refine w_call hC hN hR (pc' := 576) (As := []) (o := 0) (S := []) dL_law_573 rfl m_L_68 w_X9_spilt (c_X9_spilt_x X M ic) rfl ⟨_, _, _, rfl, rfl, rfl⟩ (Nat.le_of_ble_eq_true rfl) (Nat.le_of_ble_eq_true rfl) rfl (Nat.le_of_ble_eq_true rfl) (fun v M1 hq hR1 => ?_)
  obtain ⟨r1, rfl, e1, p1⟩ := hq
  rw [e1]
  show J X.1 RL cL_law 4 ret (ELW X M b L xs) C N Zl 576 [(3, vi i), (2, vr X 97), (1, vr X 0), (0, .ref b)] [vi r1]
  refine j_pop (pc' := 577) dL_law_576 rfl rfl ?_
  refine j_aload (pc' := 578) 1 dL_law_577 rfl rfl ?_
  refine w_call hC hN hR (pc' := 581) (As := []) (o := 97) (S := []) dL_law_578 rfl m_L_71 w_X10_spilt (c_X10_spilt_x X M im) rfl ⟨_, _, _, rfl, rfl, rfl⟩ (Nat.le_of_ble_eq_true rfl) (Nat.le_of_ble_eq_true rfl) rfl (Nat.le_of_ble_eq_true rfl) (fun v M2 hq hR2 => ?_)
  obtain ⟨r2, rfl, im2, f2, e2_0, e2_1, e2_2, e2_3, e2_4, e2_5, e2_6, e2_7, e2_8, e2_9, e2_10, e2_11, e2_12, e2_13, e2_14, e2_15, e2_16, e2_17, e2_18, e2_19, p2⟩ := hq
  have ic2 : IC M2 := IC.fr ic f2 (fun c z => by unfold free isT; first | omega | (dsimp only at z; omega))
  have fd2 := frC (Fr.tr Fr.rf f2 fi_78)
  have wr2 : TR M2 := TR.fr wr (f2 32 (by decide)) (f2 106 (by decide)) (by omega) (congrFun (f2 0 (by decide)) 12) (by omega)
  show J X.1 RL cL_law 4 ret (ELW X M2 b L xs) C N Zl 581 [(3, vi i), (2, vr X 97), (1, vr X 0), (0, .ref b)] [vi r2]
  refine j_pop (pc' := 582) dL_law_581 rfl rfl ?_
  refine j_goto (tgt := 1429) dL_law_582 rfl ?_
  have F := f2
  have k0_10 : M2 0 10 = M 0 10 := congrFun (f2 0 (by first | decide | omega | (dsimp only; omega))) 10
  have k0_11 : M2 0 11 = M 0 11 := congrFun (f2 0 (by first | decide | omega | (dsimp only; omega))) 11
  have k0_12 : M2 0 12 = M 0 12 := congrFun (f2 0 (by first | decide | omega | (dsimp only; omega))) 12
  have k0_13 : M2 0 13 = M 0 13 := congrFun (f2 0 (by first | decide | omega | (dsimp only; omega))) 13
  obtain ⟨g1, g2, g3, g4, rf, ⟨g6a, g6b⟩, g7_⟩ := gr
  have k99_0 : M2 99 0 = M 99 0 := congrFun (f2 99 (by first | decide | omega | (dsimp only; omega))) 0
  have hrr : r1 = r2 := p1.trans (g6a.trans p2.symm)
  have gr2 : GR M2 := GR.k ⟨g1, g2, g3, g4, rf, ⟨g6a, g6b⟩, g7_⟩ F (fun c z => by unfold inT; first | omega | (dsimp only at z; omega)) (G1.fr g1 F (fun c z => by unfold inT; first | omega | (dsimp only at z; omega)) k99_0 (fun k _ _ => congrFun (f2 99 (by first | decide | omega | (dsimp only; omega))) k) (fun j _ => congrFun (f2 101 (by first | decide | omega | (dsimp only; omega))) j)) (G2.fr g2 (f2 7 (by first | decide | omega | (dsimp only; omega))) (by omega) (by omega) (fun k _ _ => congrFun (f2 99 (by first | decide | omega | (dsimp only; omega))) k)) (RFR.fr rf (by omega) (by omega) (f2 96 (by first | decide | omega | (dsimp only; omega))) (f2 98 (by first | decide | omega | (dsimp only; omega)))) ⟨by omega, by omega⟩ (by omega)
  exact hk M2 hR2 ic2 im2 ⟨by unfold CR at cr ⊢; omega, wr2, gr2⟩
set_option maxHeartbeats 4000000 in
set_option maxRecDepth 100000 in
theorem law_c13 (X : Cx) (b L : Nat) (xs : Nat → Int32) (C N : Nat) (hC : C + 0 ≤ 600000) (hN : N + 0 ≤ 7302249) (i : Int) (M : Mm) (hR : Rg M) (ic : IC M) (im : IM M) (crx : CX M) (h0 : 0 ≤ i) (h1 : i + 7 ≤ L) (hL : L ≤ 3584) (hk : ∀ M' : Mm, Rg M' → IC M' → IM M' → CX M' → J X.1 RL cL_law 4 ret (ELW X M' b L xs) C N Zl 1429 [(3, vi i), (2, vr X 97), (1, vr X 0), (0, .ref b)] []) : J X.1 RL cL_law 4 ret (ELW X M b L xs) C N Zl 585 [(3, vi i), (2, vr X 97), (1, vr X 0), (0, .ref b)] [] := by
  have cr := crx.1
  have wr := crx.2.1
  have gr := crx.2.2
  have bb := ICb ic
  refine j_aload (pc' := 586) 2 dL_law_585 rfl rfl ?_
  have gb : ∀ j : Nat, (j : Int) < M 31 1 → 0 ≤ M 32 j ∧ M 32 j ≤ 255 := fun j hj => (wr.1 j hj).2
  obtain ⟨ta, tb, P, Lq, F, Z, tv, pub⟩ := gr.1
  refine w_call hC hN hR (pc' := 589) (As := []) (o := 0) (S := []) dL_law_586 rfl m_L_72 w_X9_evening (c_X9_evening_y X M ic gb ta tb (M 99 0) P Lq F Z (M 101) (fun j => M 99 (4 + j)) tv pub (IM.sz6 im)) rfl ⟨_, _, _, rfl, rfl, rfl⟩ (Nat.le_of_ble_eq_true rfl) (Nat.le_of_ble_eq_true rfl) rfl (Nat.le_of_ble_eq_true rfl) (fun v M1 hq hR1 => ?_)
  obtain ⟨r1, rfl, ic1, f1, e1_0, e1_1, e1_2, e1_3, e1_4, e1_5, e1_6, e1_7, e1_8, e1_9, e1_10, e1_11, e1_12, e1_13, p1⟩ := hq
  have im1 : IM M1 := IM.fr im f1 (fun c z => by first | omega | (dsimp only at z; omega))
  have fd1 := frD (Fr.tr Fr.rf f1 fi_85)
  have x1 := p1.2
  replace p1 := p1.1
  show J X.1 RL cL_law 4 ret (ELW X M1 b L xs) C N Zl 589 [(3, vi i), (2, vr X 97), (1, vr X 0), (0, .ref b)] [vi r1]
  refine j_pop (pc' := 590) dL_law_589 rfl rfl ?_
  refine j_aload (pc' := 591) 1 dL_law_590 rfl rfl ?_
  obtain ⟨ge6, ⟨K, W, S, E, m, tz, v12, q0, q1⟩, n0_, a0_⟩ := x1
  have hz := TR.tz wr (by unfold CR at cr; omega) (f1 106 (by decide)) (by omega) tz
  refine w_call hC hN hR1 (pc' := 594) (As := []) (o := 97) (S := []) dL_law_591 rfl m_L_75 w_X10_evening (c_X10_evening_z X M1 im1 K W S E m hz) rfl ⟨_, _, _, rfl, rfl, rfl⟩ (Nat.le_of_ble_eq_true rfl) (Nat.le_of_ble_eq_true rfl) rfl (Nat.le_of_ble_eq_true rfl) (fun v M2 hq hR2 => ?_)
  obtain ⟨r2, rfl, im2, f2, e2_0, e2_1, e2_2, e2_3, e2_4, e2_5, e2_6, e2_7, e2_8, e2_9, e2_10, e2_11, e2_12, e2_13, e2_14, e2_15, p2⟩ := hq
  have ic2 : IC M2 := IC.fr ic1 f2 (fun c z => by unfold free isT; first | omega | (dsimp only at z; omega))
  have fd2 := frC (Fr.tr Fr.rf f2 fi_86)
  have x2 := p2.2
  replace p2 := p2.1
  show J X.1 RL cL_law 4 ret (ELW X M2 b L xs) C N Zl 594 [(3, vi i), (2, vr X 97), (1, vr X 0), (0, .ref b)] [vi r2]
  refine j_pop (pc' := 595) dL_law_594 rfl rfl ?_
  refine j_goto (tgt := 1429) dL_law_595 rfl ?_
  have F := Fr.tr (P := fun c => (fun c => (2 ≤ c ∧ c ≤ 6) ∨ (30 ≤ c ∧ c ≤ 59) ∨ c = 0 ∨ c = 96) c ∨ (fun c => c = 97 ∨ c = 98 ∨ c = 101 ∨ c = 104 ∨ c = 105 ∨ c = 107 ∨ c = 108 ∨ c = 109 ∨ c = 110 ∨ c = 111 ∨ c = 112) c) (Fr.tr Fr.rf f1 (fun c z => Or.inl z)) f2 (fun c z => Or.inr z)
  have k0_10 : M2 0 10 = M1 0 10 := congrFun (f2 0 (by first | decide | omega | (dsimp only; omega))) 10
  have k0_11 : M2 0 11 = M1 0 11 := congrFun (f2 0 (by first | decide | omega | (dsimp only; omega))) 11
  have k0_12 : M2 0 12 = M1 0 12 := congrFun (f2 0 (by first | decide | omega | (dsimp only; omega))) 12
  have k0_13 : M2 0 13 = M1 0 13 := congrFun (f2 0 (by first | decide | omega | (dsimp only; omega))) 13
  have k97_1 : M1 97 1 = M 97 1 := congrFun (f1 97 (by first | decide | omega | (dsimp only; omega))) 1
  have k97_10 : M1 97 10 = M 97 10 := congrFun (f1 97 (by first | decide | omega | (dsimp only; omega))) 10
  have k97_17 : M1 97 17 = M 97 17 := congrFun (f1 97 (by first | decide | omega | (dsimp only; omega))) 17
  have k97_33 : M1 97 33 = M 97 33 := congrFun (f1 97 (by first | decide | omega | (dsimp only; omega))) 33
  have k97_44 : M1 97 44 = M 97 44 := congrFun (f1 97 (by first | decide | omega | (dsimp only; omega))) 44
  obtain ⟨g1, g2, g3, g4, rf, ⟨g6a, g6b⟩, g7_⟩ := gr
  have k99_0 : M2 99 0 = M 99 0 := congrFun ((f2 99 (by first | decide | omega | (dsimp only; omega))).trans (f1 99 (by first | decide | omega | (dsimp only; omega)))) 0
  have xe := x2.1
  rw [(f1 99 (by first | decide | omega | (dsimp only; omega))), (f1 101 (by first | decide | omega | (dsimp only; omega)))] at xe
  obtain ⟨hrr, v1_, v2_, pb_⟩ := EVX v12 q0 q1 xe
  have wrF : TR M2 := TR.z (by omega) (by omega)
  have gr2 : GR M2 := GR.k ⟨g1, g2, g3, g4, rf, ⟨g6a, g6b⟩, g7_⟩ F (fun c z => by unfold inT; first | omega | (dsimp only at z; omega)) (G1.st pb_ f2 (fun c z => by unfold inT; first | omega | (dsimp only at z; omega)) k99_0.symm (E25.rf _) (fun j _ => congrFun ((f2 99 (by first | decide | omega | (dsimp only; omega))).trans (f1 99 (by first | decide | omega | (dsimp only; omega)))) _)) (G2.fr g2 ((f2 7 (by first | decide | omega | (dsimp only; omega))).trans (f1 7 (by first | decide | omega | (dsimp only; omega)))) (by omega) (by omega) (fun k _ _ => congrFun ((f2 99 (by first | decide | omega | (dsimp only; omega))).trans (f1 99 (by first | decide | omega | (dsimp only; omega)))) k)) (RFR.s2 rf (by omega) hrr k0_10 n0_ x2.2.1 (f2 96 (by first | decide | omega | (dsimp only; omega))) a0_ (f1 98 (by first | decide | omega | (dsimp only; omega))) x2.2.2) ⟨by omega, by omega⟩ (by omega)
  exact hk M2 hR2 ic2 im2 ⟨by unfold CR at cr ⊢; omega, wrF, gr2⟩
set_option maxHeartbeats 4000000 in
set_option maxRecDepth 100000 in
theorem law_c14 (X : Cx) (b L : Nat) (xs : Nat → Int32) (C N : Nat) (hC : C + 0 ≤ 600000) (hN : N + 0 ≤ 7302249) (i : Int) (M : Mm) (hR : Rg M) (ic : IC M) (im : IM M) (crx : CX M) (h0 : 0 ≤ i) (h1 : i + 7 ≤ L) (hL : L ≤ 3584) (hk : ∀ M' : Mm, Rg M' → IC M' → IM M' → CX M' → J X.1 RL cL_law 4 ret (ELW X M' b L xs) C N Zl 1429 [(3, vi i), (2, vr X 97), (1, vr X 0), (0, .ref b)] []) : J X.1 RL cL_law 4 ret (ELW X M b L xs) C N Zl 598 [(3, vi i), (2, vr X 97), (1, vr X 0), (0, .ref b)] [] := by
  have cr := crx.1
  have wr := crx.2.1
  have gr := crx.2.2
  have bb := ICb ic
  refine j_aload (pc' := 599) 2 dL_law_598 rfl rfl ?_
  refine w_call hC hN hR (pc' := 602) (As := []) (o := 0) (S := []) dL_law_599 rfl m_L_76 w_X9_fault (c_X9_fault X M ic) rfl ⟨_, _, _, rfl, rfl, rfl⟩ (Nat.le_of_ble_eq_true rfl) (Nat.le_of_ble_eq_true rfl) rfl (Nat.le_of_ble_eq_true rfl) (fun v M1 hq hR1 => ?_)
  obtain ⟨r1, rfl, e1, p1⟩ := hq
  rw [e1]
  show J X.1 RL cL_law 4 ret (ELW X M b L xs) C N Zl 602 [(3, vi i), (2, vr X 97), (1, vr X 0), (0, .ref b)] [vi r1]
  refine j_pop (pc' := 603) dL_law_602 rfl rfl ?_
  refine j_aload (pc' := 604) 1 dL_law_603 rfl rfl ?_
  refine w_call hC hN hR (pc' := 607) (As := []) (o := 97) (S := []) dL_law_604 rfl m_L_79 w_X10_fault (c_X10_fault X M im) rfl ⟨_, _, _, rfl, rfl, rfl⟩ (Nat.le_of_ble_eq_true rfl) (Nat.le_of_ble_eq_true rfl) rfl (Nat.le_of_ble_eq_true rfl) (fun v M2 hq hR2 => ?_)
  obtain ⟨r2, rfl, im2, f2, e2_0, e2_1, e2_2, e2_3, e2_4, e2_5, e2_6, e2_7, e2_8, e2_9, e2_10, e2_11, e2_12, e2_13, e2_14, e2_15, e2_16, e2_17, e2_18, e2_19, p2⟩ := hq
  have ic2 : IC M2 := IC.fr ic f2 (fun c z => by unfold free isT; first | omega | (dsimp only at z; omega))
  have fd2 := frC (Fr.tr Fr.rf f2 fi_78)
  have wr2 : TR M2 := TR.fr wr (f2 32 (by decide)) (f2 106 (by decide)) (by omega) (congrFun (f2 0 (by decide)) 12) (by omega)
  show J X.1 RL cL_law 4 ret (ELW X M2 b L xs) C N Zl 607 [(3, vi i), (2, vr X 97), (1, vr X 0), (0, .ref b)] [vi r2]
  refine j_pop (pc' := 608) dL_law_607 rfl rfl ?_
  refine j_goto (tgt := 1429) dL_law_608 rfl ?_
  have F := f2
  have k0_10 : M2 0 10 = M 0 10 := congrFun (f2 0 (by first | decide | omega | (dsimp only; omega))) 10
  have k0_11 : M2 0 11 = M 0 11 := congrFun (f2 0 (by first | decide | omega | (dsimp only; omega))) 11
  have k0_12 : M2 0 12 = M 0 12 := congrFun (f2 0 (by first | decide | omega | (dsimp only; omega))) 12
  have k0_13 : M2 0 13 = M 0 13 := congrFun (f2 0 (by first | decide | omega | (dsimp only; omega))) 13
  obtain ⟨g1, g2, g3, g4, rf, ⟨g6a, g6b⟩, g7_⟩ := gr
  have k99_0 : M2 99 0 = M 99 0 := congrFun (f2 99 (by first | decide | omega | (dsimp only; omega))) 0
  have gr2 : GR M2 := GR.k ⟨g1, g2, g3, g4, rf, ⟨g6a, g6b⟩, g7_⟩ F (fun c z => by unfold inT; first | omega | (dsimp only at z; omega)) (G1.fr g1 F (fun c z => by unfold inT; first | omega | (dsimp only at z; omega)) k99_0 (fun k _ _ => congrFun (f2 99 (by first | decide | omega | (dsimp only; omega))) k) (fun j _ => congrFun (f2 101 (by first | decide | omega | (dsimp only; omega))) j)) (G2.fr g2 (f2 7 (by first | decide | omega | (dsimp only; omega))) (by omega) (by omega) (fun k _ _ => congrFun (f2 99 (by first | decide | omega | (dsimp only; omega))) k)) (RFR.fr rf (by omega) (by omega) (f2 96 (by first | decide | omega | (dsimp only; omega))) (f2 98 (by first | decide | omega | (dsimp only; omega)))) ⟨by omega, by omega⟩ (by omega)
  exact hk M2 hR2 ic2 im2 ⟨by unfold CR at cr ⊢; omega, wr2, gr2⟩
set_option maxHeartbeats 4000000 in
set_option maxRecDepth 100000 in
theorem law_c15 (X : Cx) (b L : Nat) (xs : Nat → Int32) (C N : Nat) (hC : C + 0 ≤ 600000) (hN : N + 0 ≤ 7302249) (i : Int) (M : Mm) (hR : Rg M) (ic : IC M) (im : IM M) (crx : CX M) (h0 : 0 ≤ i) (h1 : i + 7 ≤ L) (hL : L ≤ 3584) (hk : ∀ M' : Mm, Rg M' → IC M' → IM M' → CX M' → J X.1 RL cL_law 4 ret (ELW X M' b L xs) C N Zl 1429 [(3, vi i), (2, vr X 97), (1, vr X 0), (0, .ref b)] []) : J X.1 RL cL_law 4 ret (ELW X M b L xs) C N Zl 611 [(3, vi i), (2, vr X 97), (1, vr X 0), (0, .ref b)] [] := by
  have cr := crx.1
  have wr := crx.2.1
  have gr := crx.2.2
  have bb := ICb ic
  refine j_aload (pc' := 612) 2 dL_law_611 rfl rfl ?_
  refine w_call hC hN hR (pc' := 615) (As := []) (o := 0) (S := []) dL_law_612 rfl m_L_80 w_X9_stopped (c_X9_stopped_x X M ic) rfl ⟨_, _, _, rfl, rfl, rfl⟩ (Nat.le_of_ble_eq_true rfl) (Nat.le_of_ble_eq_true rfl) rfl (Nat.le_of_ble_eq_true rfl) (fun v M1 hq hR1 => ?_)
  obtain ⟨r1, rfl, e1, p1⟩ := hq
  rw [e1]
  show J X.1 RL cL_law 4 ret (ELW X M b L xs) C N Zl 615 [(3, vi i), (2, vr X 97), (1, vr X 0), (0, .ref b)] [vi r1]
  refine j_pop (pc' := 616) dL_law_615 rfl rfl ?_
  refine j_aload (pc' := 617) 1 dL_law_616 rfl rfl ?_
  refine w_call hC hN hR (pc' := 620) (As := []) (o := 97) (S := []) dL_law_617 rfl m_L_83 w_X10_stopped (c_X10_stopped_x X M im) rfl ⟨_, _, _, rfl, rfl, rfl⟩ (Nat.le_of_ble_eq_true rfl) (Nat.le_of_ble_eq_true rfl) rfl (Nat.le_of_ble_eq_true rfl) (fun v M2 hq hR2 => ?_)
  obtain ⟨r2, rfl, im2, f2, e2_0, e2_1, e2_2, e2_3, e2_4, e2_5, e2_6, e2_7, e2_8, e2_9, e2_10, e2_11, e2_12, e2_13, e2_14, e2_15, e2_16, e2_17, e2_18, e2_19, p2⟩ := hq
  have ic2 : IC M2 := IC.fr ic f2 (fun c z => by unfold free isT; first | omega | (dsimp only at z; omega))
  have fd2 := frC (Fr.tr Fr.rf f2 fi_78)
  have wr2 : TR M2 := TR.fr wr (f2 32 (by decide)) (f2 106 (by decide)) (by omega) (congrFun (f2 0 (by decide)) 12) (by omega)
  show J X.1 RL cL_law 4 ret (ELW X M2 b L xs) C N Zl 620 [(3, vi i), (2, vr X 97), (1, vr X 0), (0, .ref b)] [vi r2]
  refine j_pop (pc' := 621) dL_law_620 rfl rfl ?_
  refine j_goto (tgt := 1429) dL_law_621 rfl ?_
  have F := f2
  have k0_10 : M2 0 10 = M 0 10 := congrFun (f2 0 (by first | decide | omega | (dsimp only; omega))) 10
  have k0_11 : M2 0 11 = M 0 11 := congrFun (f2 0 (by first | decide | omega | (dsimp only; omega))) 11
  have k0_12 : M2 0 12 = M 0 12 := congrFun (f2 0 (by first | decide | omega | (dsimp only; omega))) 12
  have k0_13 : M2 0 13 = M 0 13 := congrFun (f2 0 (by first | decide | omega | (dsimp only; omega))) 13
  obtain ⟨g1, g2, g3, g4, rf, ⟨g6a, g6b⟩, g7_⟩ := gr
  have k99_0 : M2 99 0 = M 99 0 := congrFun (f2 99 (by first | decide | omega | (dsimp only; omega))) 0
  have hrr : r1 = r2 := p1.trans (g6b.trans p2.symm)
  have gr2 : GR M2 := GR.k ⟨g1, g2, g3, g4, rf, ⟨g6a, g6b⟩, g7_⟩ F (fun c z => by unfold inT; first | omega | (dsimp only at z; omega)) (G1.fr g1 F (fun c z => by unfold inT; first | omega | (dsimp only at z; omega)) k99_0 (fun k _ _ => congrFun (f2 99 (by first | decide | omega | (dsimp only; omega))) k) (fun j _ => congrFun (f2 101 (by first | decide | omega | (dsimp only; omega))) j)) (G2.fr g2 (f2 7 (by first | decide | omega | (dsimp only; omega))) (by omega) (by omega) (fun k _ _ => congrFun (f2 99 (by first | decide | omega | (dsimp only; omega))) k)) (RFR.fr rf (by omega) (by omega) (f2 96 (by first | decide | omega | (dsimp only; omega))) (f2 98 (by first | decide | omega | (dsimp only; omega)))) ⟨by omega, by omega⟩ (by omega)
  exact hk M2 hR2 ic2 im2 ⟨by unfold CR at cr ⊢; omega, wr2, gr2⟩
set_option maxHeartbeats 4000000 in
set_option maxRecDepth 100000 in
theorem law_c16 (X : Cx) (b L : Nat) (xs : Nat → Int32) (C N : Nat) (hC : C + 0 ≤ 600000) (hN : N + 0 ≤ 7302249) (i : Int) (M : Mm) (hR : Rg M) (ic : IC M) (im : IM M) (crx : CX M) (h0 : 0 ≤ i) (h1 : i + 7 ≤ L) (hL : L ≤ 3584) (hk : ∀ M' : Mm, Rg M' → IC M' → IM M' → CX M' → J X.1 RL cL_law 4 ret (ELW X M' b L xs) C N Zl 1429 [(3, vi i), (2, vr X 97), (1, vr X 0), (0, .ref b)] []) : J X.1 RL cL_law 4 ret (ELW X M b L xs) C N Zl 624 [(3, vi i), (2, vr X 97), (1, vr X 0), (0, .ref b)] [] := by
  have cr := crx.1
  have wr := crx.2.1
  have gr := crx.2.2
  have bb := ICb ic
  refine j_aload (pc' := 625) 2 dL_law_624 rfl rfl ?_
  refine j_aload (pc' := 626) 3 dL_law_625 rfl rfl ?_
  refine j_iload_n (pc' := 627) 0 dL_law_626 rfl rfl ?_
  refine j_iconst (pc' := 628) dL_law_627 rfl ?_
  refine j_iadd (pc' := 629) dL_law_628 rfl ?_
  refine w_sld (pc' := 630) dL_law_629 rfl (by omega) (by omega) ?_
  refine j_aload (pc' := 631) 3 dL_law_630 rfl rfl ?_
  refine j_iload_n (pc' := 632) 0 dL_law_631 rfl rfl ?_
  refine j_iconst (pc' := 633) dL_law_632 rfl ?_
  refine j_iadd (pc' := 634) dL_law_633 rfl ?_
  refine w_sld (pc' := 635) dL_law_634 rfl (by omega) (by omega) ?_
  refine j_aload (pc' := 636) 3 dL_law_635 rfl rfl ?_
  refine j_iload_n (pc' := 637) 0 dL_law_636 rfl rfl ?_
  refine j_iconst (pc' := 638) dL_law_637 rfl ?_
  refine j_iadd (pc' := 639) dL_law_638 rfl ?_
  refine w_sld (pc' := 640) dL_law_639 rfl (by omega) (by omega) ?_
  obtain ⟨ta, tb, P, Lq, F, Z, tv, pub⟩ := gr.1
  refine w_call hC hN hR (pc' := 643) (As := [vi (sx xs (i + 1)), vi (sx xs (i + 2)), vi (sx xs (i + 3))]) (o := 0) (S := []) dL_law_640 rfl m_L_84 w_X9_alike (c_X9_alike_x X M ic (sx xs (i + 1)) (sx_in xs (i + 1)) (sx xs (i + 2)) (sx_in xs (i + 2)) (sx xs (i + 3)) (sx_in xs (i + 3)) ta tb (M 99 0) P Lq F Z (M 101) (fun j => M 99 (4 + j)) tv pub) rfl ⟨_, _, _, rfl, rfl, rfl⟩ (Nat.le_of_ble_eq_true rfl) (Nat.le_of_ble_eq_true rfl) rfl (Nat.le_of_ble_eq_true rfl) (fun v M1 hq hR1 => ?_)
  obtain ⟨r1, rfl, e1, p1⟩ := hq
  rw [e1]
  show J X.1 RL cL_law 4 ret (ELW X M b L xs) C N Zl 643 [(3, vi i), (2, vr X 97), (1, vr X 0), (0, .ref b)] [vi r1]
  refine j_pop (pc' := 644) dL_law_643 rfl rfl ?_
  refine j_aload (pc' := 645) 1 dL_law_644 rfl rfl ?_
  refine j_aload (pc' := 646) 3 dL_law_645 rfl rfl ?_
  refine j_iload_n (pc' := 647) 0 dL_law_646 rfl rfl ?_
  refine j_iconst (pc' := 648) dL_law_647 rfl ?_
  refine j_iadd (pc' := 649) dL_law_648 rfl ?_
  refine w_sld (pc' := 650) dL_law_649 rfl (by omega) (by omega) ?_
  refine j_aload (pc' := 651) 3 dL_law_650 rfl rfl ?_
  refine j_iload_n (pc' := 652) 0 dL_law_651 rfl rfl ?_
  refine j_iconst (pc' := 653) dL_law_652 rfl ?_
  refine j_iadd (pc' := 654) dL_law_653 rfl ?_
  refine w_sld (pc' := 655) dL_law_654 rfl (by omega) (by omega) ?_
  refine j_aload (pc' := 656) 3 dL_law_655 rfl rfl ?_
  refine j_iload_n (pc' := 657) 0 dL_law_656 rfl rfl ?_
  refine j_iconst (pc' := 658) dL_law_657 rfl ?_
  refine j_iadd (pc' := 659) dL_law_658 rfl ?_
  refine w_sld (pc' := 660) dL_law_659 rfl (by omega) (by omega) ?_
  refine w_call hC hN hR (pc' := 663) (As := [vi (sx xs (i + 1)), vi (sx xs (i + 2)), vi (sx xs (i + 3))]) (o := 97) (S := []) dL_law_660 rfl m_L_87 w_X10_alike (c_X10_alike_x X M im (sx xs (i + 1)) (sx_in xs (i + 1)) (sx xs (i + 2)) (sx_in xs (i + 2)) (sx xs (i + 3)) (sx_in xs (i + 3))) rfl ⟨_, _, _, rfl, rfl, rfl⟩ (Nat.le_of_ble_eq_true rfl) (Nat.le_of_ble_eq_true rfl) rfl (Nat.le_of_ble_eq_true rfl) (fun v M2 hq hR2 => ?_)
  obtain ⟨r2, rfl, im2, f2, e2_0, e2_1, e2_2, e2_3, e2_4, e2_5, e2_6, e2_7, e2_8, e2_9, e2_10, e2_11, e2_12, e2_13, e2_14, e2_15, e2_16, e2_17, e2_18, e2_19, p2⟩ := hq
  have ic2 : IC M2 := IC.fr ic f2 (fun c z => by unfold free isT; first | omega | (dsimp only at z; omega))
  have fd2 := frC (Fr.tr Fr.rf f2 fi_78)
  have wr2 : TR M2 := TR.fr wr (f2 32 (by decide)) (f2 106 (by decide)) (by omega) (congrFun (f2 0 (by decide)) 12) (by omega)
  show J X.1 RL cL_law 4 ret (ELW X M2 b L xs) C N Zl 663 [(3, vi i), (2, vr X 97), (1, vr X 0), (0, .ref b)] [vi r2]
  refine j_pop (pc' := 664) dL_law_663 rfl rfl ?_
  refine j_goto (tgt := 1429) dL_law_664 rfl ?_
  have F := f2
  have k0_10 : M2 0 10 = M 0 10 := congrFun (f2 0 (by first | decide | omega | (dsimp only; omega))) 10
  have k0_11 : M2 0 11 = M 0 11 := congrFun (f2 0 (by first | decide | omega | (dsimp only; omega))) 11
  have k0_12 : M2 0 12 = M 0 12 := congrFun (f2 0 (by first | decide | omega | (dsimp only; omega))) 12
  have k0_13 : M2 0 13 = M 0 13 := congrFun (f2 0 (by first | decide | omega | (dsimp only; omega))) 13
  obtain ⟨g1, g2, g3, g4, rf, ⟨g6a, g6b⟩, g7_⟩ := gr
  have k99_0 : M2 99 0 = M 99 0 := congrFun (f2 99 (by first | decide | omega | (dsimp only; omega))) 0
  have hrr : r1 = r2 := GR.alike pub p1 p2
  have gr2 : GR M2 := GR.k ⟨g1, g2, g3, g4, rf, ⟨g6a, g6b⟩, g7_⟩ F (fun c z => by unfold inT; first | omega | (dsimp only at z; omega)) (G1.fr g1 F (fun c z => by unfold inT; first | omega | (dsimp only at z; omega)) k99_0 (fun k _ _ => congrFun (f2 99 (by first | decide | omega | (dsimp only; omega))) k) (fun j _ => congrFun (f2 101 (by first | decide | omega | (dsimp only; omega))) j)) (G2.fr g2 (f2 7 (by first | decide | omega | (dsimp only; omega))) (by omega) (by omega) (fun k _ _ => congrFun (f2 99 (by first | decide | omega | (dsimp only; omega))) k)) (RFR.fr rf (by omega) (by omega) (f2 96 (by first | decide | omega | (dsimp only; omega))) (f2 98 (by first | decide | omega | (dsimp only; omega)))) ⟨by omega, by omega⟩ (by omega)
  exact hk M2 hR2 ic2 im2 ⟨by unfold CR at cr ⊢; omega, wr2, gr2⟩
set_option maxHeartbeats 4000000 in
set_option maxRecDepth 100000 in
theorem law_c17 (X : Cx) (b L : Nat) (xs : Nat → Int32) (C N : Nat) (hC : C + 0 ≤ 600000) (hN : N + 0 ≤ 7302249) (i : Int) (M : Mm) (hR : Rg M) (ic : IC M) (im : IM M) (crx : CX M) (h0 : 0 ≤ i) (h1 : i + 7 ≤ L) (hL : L ≤ 3584) (hk : ∀ M' : Mm, Rg M' → IC M' → IM M' → CX M' → J X.1 RL cL_law 4 ret (ELW X M' b L xs) C N Zl 1429 [(3, vi i), (2, vr X 97), (1, vr X 0), (0, .ref b)] []) : J X.1 RL cL_law 4 ret (ELW X M b L xs) C N Zl 667 [(3, vi i), (2, vr X 97), (1, vr X 0), (0, .ref b)] [] := by
  have cr := crx.1
  have wr := crx.2.1
  have gr := crx.2.2
  have bb := ICb ic
  refine j_aload (pc' := 668) 2 dL_law_667 rfl rfl ?_
  refine j_aload (pc' := 669) 3 dL_law_668 rfl rfl ?_
  refine j_iload_n (pc' := 670) 0 dL_law_669 rfl rfl ?_
  refine j_iconst (pc' := 671) dL_law_670 rfl ?_
  refine j_iadd (pc' := 672) dL_law_671 rfl ?_
  refine w_sld (pc' := 673) dL_law_672 rfl (by omega) (by omega) ?_
  refine j_aload (pc' := 674) 3 dL_law_673 rfl rfl ?_
  refine j_iload_n (pc' := 675) 0 dL_law_674 rfl rfl ?_
  refine j_iconst (pc' := 676) dL_law_675 rfl ?_
  refine j_iadd (pc' := 677) dL_law_676 rfl ?_
  refine w_sld (pc' := 678) dL_law_677 rfl (by omega) (by omega) ?_
  refine j_aload (pc' := 679) 3 dL_law_678 rfl rfl ?_
  refine j_iload_n (pc' := 680) 0 dL_law_679 rfl rfl ?_
  refine j_iconst (pc' := 681) dL_law_680 rfl ?_
  refine j_iadd (pc' := 682) dL_law_681 rfl ?_
  refine w_sld (pc' := 683) dL_law_682 rfl (by omega) (by omega) ?_
  refine j_aload (pc' := 684) 3 dL_law_683 rfl rfl ?_
  refine j_iload_n (pc' := 685) 0 dL_law_684 rfl rfl ?_
  refine j_iconst (pc' := 686) dL_law_685 rfl ?_
  refine j_iadd (pc' := 687) dL_law_686 rfl ?_
  refine w_sld (pc' := 688) dL_law_687 rfl (by omega) (by omega) ?_
  refine w_call hC hN hR (pc' := 691) (As := [vi (sx xs (i + 1)), vi (sx xs (i + 2)), vi (sx xs (i + 3)), vi (sx xs (i + 4))]) (o := 0) (S := []) dL_law_688 rfl m_L_88 w_X9_both (c_X9_both X M ic (sx xs (i + 1)) (sx_in xs (i + 1)) (sx xs (i + 2)) (sx_in xs (i + 2)) (sx xs (i + 3)) (sx_in xs (i + 3)) (sx xs (i + 4)) (sx_in xs (i + 4))) rfl ⟨_, _, _, rfl, rfl, rfl⟩ (Nat.le_of_ble_eq_true rfl) (Nat.le_of_ble_eq_true rfl) rfl (Nat.le_of_ble_eq_true rfl) (fun v M1 hq hR1 => ?_)
  obtain ⟨r1, rfl, e1, p1⟩ := hq
  rw [e1]
  show J X.1 RL cL_law 4 ret (ELW X M b L xs) C N Zl 691 [(3, vi i), (2, vr X 97), (1, vr X 0), (0, .ref b)] [vl r1]
  refine j_pop2 (pc' := 692) dL_law_691 rfl rfl ?_
  refine j_aload (pc' := 693) 1 dL_law_692 rfl rfl ?_
  refine j_aload (pc' := 694) 3 dL_law_693 rfl rfl ?_
  refine j_iload_n (pc' := 695) 0 dL_law_694 rfl rfl ?_
  refine j_iconst (pc' := 696) dL_law_695 rfl ?_
  refine j_iadd (pc' := 697) dL_law_696 rfl ?_
  refine w_sld (pc' := 698) dL_law_697 rfl (by omega) (by omega) ?_
  refine j_aload (pc' := 699) 3 dL_law_698 rfl rfl ?_
  refine j_iload_n (pc' := 700) 0 dL_law_699 rfl rfl ?_
  refine j_iconst (pc' := 701) dL_law_700 rfl ?_
  refine j_iadd (pc' := 702) dL_law_701 rfl ?_
  refine w_sld (pc' := 703) dL_law_702 rfl (by omega) (by omega) ?_
  refine j_aload (pc' := 704) 3 dL_law_703 rfl rfl ?_
  refine j_iload_n (pc' := 705) 0 dL_law_704 rfl rfl ?_
  refine j_iconst (pc' := 706) dL_law_705 rfl ?_
  refine j_iadd (pc' := 707) dL_law_706 rfl ?_
  refine w_sld (pc' := 708) dL_law_707 rfl (by omega) (by omega) ?_
  refine j_aload (pc' := 709) 3 dL_law_708 rfl rfl ?_
  refine j_iload_n (pc' := 710) 0 dL_law_709 rfl rfl ?_
  refine j_iconst (pc' := 711) dL_law_710 rfl ?_
  refine j_iadd (pc' := 712) dL_law_711 rfl ?_
  refine w_sld (pc' := 713) dL_law_712 rfl (by omega) (by omega) ?_
  refine w_call hC hN hR (pc' := 716) (As := [vi (sx xs (i + 1)), vi (sx xs (i + 2)), vi (sx xs (i + 3)), vi (sx xs (i + 4))]) (o := 97) (S := []) dL_law_713 rfl m_L_92 w_X10_both (c_X10_both X M im (sx xs (i + 1)) (sx_in xs (i + 1)) (sx xs (i + 2)) (sx_in xs (i + 2)) (sx xs (i + 3)) (sx_in xs (i + 3)) (sx xs (i + 4)) (sx_in xs (i + 4))) rfl ⟨_, _, _, rfl, rfl, rfl⟩ (Nat.le_of_ble_eq_true rfl) (Nat.le_of_ble_eq_true rfl) rfl (Nat.le_of_ble_eq_true rfl) (fun v M2 hq hR2 => ?_)
  obtain ⟨r2, rfl, im2, f2, e2_0, e2_1, e2_2, e2_3, e2_4, e2_5, e2_6, e2_7, e2_8, e2_9, e2_10, e2_11, e2_12, e2_13, e2_14, e2_15, e2_16, e2_17, e2_18, e2_19, p2⟩ := hq
  have ic2 : IC M2 := IC.fr ic f2 (fun c z => by unfold free isT; first | omega | (dsimp only at z; omega))
  have fd2 := frC (Fr.tr Fr.rf f2 fi_78)
  have wr2 : TR M2 := TR.fr wr (f2 32 (by decide)) (f2 106 (by decide)) (by omega) (congrFun (f2 0 (by decide)) 12) (by omega)
  show J X.1 RL cL_law 4 ret (ELW X M2 b L xs) C N Zl 716 [(3, vi i), (2, vr X 97), (1, vr X 0), (0, .ref b)] [vl r2]
  refine j_pop2 (pc' := 717) dL_law_716 rfl rfl ?_
  refine j_goto (tgt := 1429) dL_law_717 rfl ?_
  have F := f2
  have k0_10 : M2 0 10 = M 0 10 := congrFun (f2 0 (by first | decide | omega | (dsimp only; omega))) 10
  have k0_11 : M2 0 11 = M 0 11 := congrFun (f2 0 (by first | decide | omega | (dsimp only; omega))) 11
  have k0_12 : M2 0 12 = M 0 12 := congrFun (f2 0 (by first | decide | omega | (dsimp only; omega))) 12
  have k0_13 : M2 0 13 = M 0 13 := congrFun (f2 0 (by first | decide | omega | (dsimp only; omega))) 13
  obtain ⟨g1, g2, g3, g4, rf, ⟨g6a, g6b⟩, g7_⟩ := gr
  have k99_0 : M2 99 0 = M 99 0 := congrFun (f2 99 (by first | decide | omega | (dsimp only; omega))) 0
  have gr2 : GR M2 := GR.k ⟨g1, g2, g3, g4, rf, ⟨g6a, g6b⟩, g7_⟩ F (fun c z => by unfold inT; first | omega | (dsimp only at z; omega)) (G1.fr g1 F (fun c z => by unfold inT; first | omega | (dsimp only at z; omega)) k99_0 (fun k _ _ => congrFun (f2 99 (by first | decide | omega | (dsimp only; omega))) k) (fun j _ => congrFun (f2 101 (by first | decide | omega | (dsimp only; omega))) j)) (G2.fr g2 (f2 7 (by first | decide | omega | (dsimp only; omega))) (by omega) (by omega) (fun k _ _ => congrFun (f2 99 (by first | decide | omega | (dsimp only; omega))) k)) (RFR.fr rf (by omega) (by omega) (f2 96 (by first | decide | omega | (dsimp only; omega))) (f2 98 (by first | decide | omega | (dsimp only; omega)))) ⟨by omega, by omega⟩ (by omega)
  exact hk M2 hR2 ic2 im2 ⟨by unfold CR at cr ⊢; omega, wr2, gr2⟩
set_option maxHeartbeats 4000000 in
set_option maxRecDepth 100000 in
theorem law_c18 (X : Cx) (b L : Nat) (xs : Nat → Int32) (C N : Nat) (hC : C + 0 ≤ 600000) (hN : N + 0 ≤ 7302249) (i : Int) (M : Mm) (hR : Rg M) (ic : IC M) (im : IM M) (crx : CX M) (h0 : 0 ≤ i) (h1 : i + 7 ≤ L) (hL : L ≤ 3584) (hk : ∀ M' : Mm, Rg M' → IC M' → IM M' → CX M' → J X.1 RL cL_law 4 ret (ELW X M' b L xs) C N Zl 1429 [(3, vi i), (2, vr X 97), (1, vr X 0), (0, .ref b)] []) : J X.1 RL cL_law 4 ret (ELW X M b L xs) C N Zl 720 [(3, vi i), (2, vr X 97), (1, vr X 0), (0, .ref b)] [] := by
  have cr := crx.1
  have wr := crx.2.1
  have gr := crx.2.2
  have bb := ICb ic
  refine j_aload (pc' := 721) 2 dL_law_720 rfl rfl ?_
  refine j_aload (pc' := 722) 3 dL_law_721 rfl rfl ?_
  refine j_iload_n (pc' := 723) 0 dL_law_722 rfl rfl ?_
  refine j_iconst (pc' := 724) dL_law_723 rfl ?_
  refine j_iadd (pc' := 725) dL_law_724 rfl ?_
  refine w_sld (pc' := 726) dL_law_725 rfl (by omega) (by omega) ?_
  refine j_aload (pc' := 727) 3 dL_law_726 rfl rfl ?_
  refine j_iload_n (pc' := 728) 0 dL_law_727 rfl rfl ?_
  refine j_iconst (pc' := 729) dL_law_728 rfl ?_
  refine j_iadd (pc' := 730) dL_law_729 rfl ?_
  refine w_sld (pc' := 731) dL_law_730 rfl (by omega) (by omega) ?_
  refine j_aload (pc' := 732) 3 dL_law_731 rfl rfl ?_
  refine j_iload_n (pc' := 733) 0 dL_law_732 rfl rfl ?_
  refine j_iconst (pc' := 734) dL_law_733 rfl ?_
  refine j_iadd (pc' := 735) dL_law_734 rfl ?_
  refine w_sld (pc' := 736) dL_law_735 rfl (by omega) (by omega) ?_
  refine w_call hC hN hR (pc' := 739) (As := [vi (sx xs (i + 1)), vi (sx xs (i + 2)), vi (sx xs (i + 3))]) (o := 0) (S := []) dL_law_736 rfl m_L_93 w_X9_rounds (c_X9_rounds X M ic (sx xs (i + 1)) (sx_in xs (i + 1)) (sx xs (i + 2)) (sx_in xs (i + 2)) (sx xs (i + 3)) (sx_in xs (i + 3))) rfl ⟨_, _, _, rfl, rfl, rfl⟩ (Nat.le_of_ble_eq_true rfl) (Nat.le_of_ble_eq_true rfl) rfl (Nat.le_of_ble_eq_true rfl) (fun v M1 hq hR1 => ?_)
  obtain ⟨r1, rfl, e1, p1⟩ := hq
  rw [e1]
  show J X.1 RL cL_law 4 ret (ELW X M b L xs) C N Zl 739 [(3, vi i), (2, vr X 97), (1, vr X 0), (0, .ref b)] [vi r1]
  refine j_pop (pc' := 740) dL_law_739 rfl rfl ?_
  refine j_aload (pc' := 741) 1 dL_law_740 rfl rfl ?_
  refine j_aload (pc' := 742) 3 dL_law_741 rfl rfl ?_
  refine j_iload_n (pc' := 743) 0 dL_law_742 rfl rfl ?_
  refine j_iconst (pc' := 744) dL_law_743 rfl ?_
  refine j_iadd (pc' := 745) dL_law_744 rfl ?_
  refine w_sld (pc' := 746) dL_law_745 rfl (by omega) (by omega) ?_
  refine j_aload (pc' := 747) 3 dL_law_746 rfl rfl ?_
  refine j_iload_n (pc' := 748) 0 dL_law_747 rfl rfl ?_
  refine j_iconst (pc' := 749) dL_law_748 rfl ?_
  refine j_iadd (pc' := 750) dL_law_749 rfl ?_
  refine w_sld (pc' := 751) dL_law_750 rfl (by omega) (by omega) ?_
  refine j_aload (pc' := 752) 3 dL_law_751 rfl rfl ?_
  refine j_iload_n (pc' := 753) 0 dL_law_752 rfl rfl ?_
  refine j_iconst (pc' := 754) dL_law_753 rfl ?_
  refine j_iadd (pc' := 755) dL_law_754 rfl ?_
  refine w_sld (pc' := 756) dL_law_755 rfl (by omega) (by omega) ?_
  refine w_call hC hN hR (pc' := 759) (As := [vi (sx xs (i + 1)), vi (sx xs (i + 2)), vi (sx xs (i + 3))]) (o := 97) (S := []) dL_law_756 rfl m_L_96 w_X10_rounds (c_X10_rounds X M im (sx xs (i + 1)) (sx_in xs (i + 1)) (sx xs (i + 2)) (sx_in xs (i + 2)) (sx xs (i + 3)) (sx_in xs (i + 3))) rfl ⟨_, _, _, rfl, rfl, rfl⟩ (Nat.le_of_ble_eq_true rfl) (Nat.le_of_ble_eq_true rfl) rfl (Nat.le_of_ble_eq_true rfl) (fun v M2 hq hR2 => ?_)
  obtain ⟨r2, rfl, im2, f2, e2_0, e2_1, e2_2, e2_3, e2_4, e2_5, e2_6, e2_7, e2_8, e2_9, e2_10, e2_11, e2_12, e2_13, e2_14, e2_15, e2_16, e2_17, e2_18, e2_19, p2⟩ := hq
  have ic2 : IC M2 := IC.fr ic f2 (fun c z => by unfold free isT; first | omega | (dsimp only at z; omega))
  have fd2 := frC (Fr.tr Fr.rf f2 fi_78)
  have wr2 : TR M2 := TR.fr wr (f2 32 (by decide)) (f2 106 (by decide)) (by omega) (congrFun (f2 0 (by decide)) 12) (by omega)
  show J X.1 RL cL_law 4 ret (ELW X M2 b L xs) C N Zl 759 [(3, vi i), (2, vr X 97), (1, vr X 0), (0, .ref b)] [vi r2]
  refine j_pop (pc' := 760) dL_law_759 rfl rfl ?_
  refine j_goto (tgt := 1429) dL_law_760 rfl ?_
  have F := f2
  have k0_10 : M2 0 10 = M 0 10 := congrFun (f2 0 (by first | decide | omega | (dsimp only; omega))) 10
  have k0_11 : M2 0 11 = M 0 11 := congrFun (f2 0 (by first | decide | omega | (dsimp only; omega))) 11
  have k0_12 : M2 0 12 = M 0 12 := congrFun (f2 0 (by first | decide | omega | (dsimp only; omega))) 12
  have k0_13 : M2 0 13 = M 0 13 := congrFun (f2 0 (by first | decide | omega | (dsimp only; omega))) 13
  obtain ⟨g1, g2, g3, g4, rf, ⟨g6a, g6b⟩, g7_⟩ := gr
  have k99_0 : M2 99 0 = M 99 0 := congrFun (f2 99 (by first | decide | omega | (dsimp only; omega))) 0
  have gr2 : GR M2 := GR.k ⟨g1, g2, g3, g4, rf, ⟨g6a, g6b⟩, g7_⟩ F (fun c z => by unfold inT; first | omega | (dsimp only at z; omega)) (G1.fr g1 F (fun c z => by unfold inT; first | omega | (dsimp only at z; omega)) k99_0 (fun k _ _ => congrFun (f2 99 (by first | decide | omega | (dsimp only; omega))) k) (fun j _ => congrFun (f2 101 (by first | decide | omega | (dsimp only; omega))) j)) (G2.fr g2 (f2 7 (by first | decide | omega | (dsimp only; omega))) (by omega) (by omega) (fun k _ _ => congrFun (f2 99 (by first | decide | omega | (dsimp only; omega))) k)) (RFR.fr rf (by omega) (by omega) (f2 96 (by first | decide | omega | (dsimp only; omega))) (f2 98 (by first | decide | omega | (dsimp only; omega)))) ⟨by omega, by omega⟩ (by omega)
  exact hk M2 hR2 ic2 im2 ⟨by unfold CR at cr ⊢; omega, wr2, gr2⟩
