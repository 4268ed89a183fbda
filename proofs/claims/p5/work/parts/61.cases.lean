theorem det_tasting {a b c r s o0 o2 w0 w2 n2 m2 : Int} (p : ((b < 0 ∨ 3 < b ∨ c < 0 ∨ 100 < c) → r = -1 ∧ n2 = o2) ∧ (0 ≤ b → b ≤ 3 → 0 ≤ c → c ≤ 100 → (a < 0 ∨ o0 ≤ a) → r = -2 ∧ n2 = o2) ∧ (0 ≤ b → b ≤ 3 → 0 ≤ c → c ≤ 100 → 0 ≤ a → a < o0 → 6 ≤ o2 → r = -5 ∧ n2 = o2) ∧ (0 ≤ b → b ≤ 3 → 0 ≤ c → c ≤ 100 → 0 ≤ a → a < o0 → o2 < 6 → r = o2 + 1 ∧ n2 = o2 + 1)) (q : ((b < 0 ∨ 3 < b ∨ c < 0 ∨ 100 < c) → s = -1 ∧ m2 = w2) ∧ (0 ≤ b → b ≤ 3 → 0 ≤ c → c ≤ 100 → (a < 0 ∨ w0 ≤ a) → s = -2 ∧ m2 = w2) ∧ (0 ≤ b → b ≤ 3 → 0 ≤ c → c ≤ 100 → 0 ≤ a → a < w0 → 6 ≤ w2 → s = -5 ∧ m2 = w2) ∧ (0 ≤ b → b ≤ 3 → 0 ≤ c → c ≤ 100 → 0 ≤ a → a < w0 → w2 < 6 → s = w2 + 1 ∧ m2 = w2 + 1)) (e0 : o0 = w0) (e2 : o2 = w2) : r = s ∧ n2 = m2 := by
  subst e0 e2
  obtain ⟨p0, p1, p2, p3⟩ := p
  obtain ⟨q0, q1, q2, q3⟩ := q
  by_cases g : (b < 0 ∨ 3 < b ∨ c < 0 ∨ 100 < c)
  · have x := p0 g
    have y := q0 g
    clear p0 p1 p2 p3 q0 q1 q2 q3
    omega
  by_cases g : (0 ≤ b) ∧ (b ≤ 3) ∧ (0 ≤ c) ∧ (c ≤ 100) ∧ (a < 0 ∨ o0 ≤ a)
  · have x := p1 g.1 g.2.1 g.2.2.1 g.2.2.2.1 g.2.2.2.2
    have y := q1 g.1 g.2.1 g.2.2.1 g.2.2.2.1 g.2.2.2.2
    clear p0 p1 p2 p3 q0 q1 q2 q3
    omega
  by_cases g : (0 ≤ b) ∧ (b ≤ 3) ∧ (0 ≤ c) ∧ (c ≤ 100) ∧ (0 ≤ a) ∧ (a < o0) ∧ (6 ≤ o2)
  · have x := p2 g.1 g.2.1 g.2.2.1 g.2.2.2.1 g.2.2.2.2.1 g.2.2.2.2.2.1 g.2.2.2.2.2.2
    have y := q2 g.1 g.2.1 g.2.2.1 g.2.2.2.1 g.2.2.2.2.1 g.2.2.2.2.2.1 g.2.2.2.2.2.2
    clear p0 p1 p2 p3 q0 q1 q2 q3
    omega
  by_cases g : (0 ≤ b) ∧ (b ≤ 3) ∧ (0 ≤ c) ∧ (c ≤ 100) ∧ (0 ≤ a) ∧ (a < o0) ∧ (o2 < 6)
  · have x := p3 g.1 g.2.1 g.2.2.1 g.2.2.2.1 g.2.2.2.2.1 g.2.2.2.2.2.1 g.2.2.2.2.2.2
    have y := q3 g.1 g.2.1 g.2.2.1 g.2.2.2.1 g.2.2.2.2.1 g.2.2.2.2.2.1 g.2.2.2.2.2.2
    clear p0 p1 p2 p3 q0 q1 q2 q3
    omega
  clear p0 p1 p2 p3 q0 q1 q2 q3
  omega
theorem det_wine {a b c r s o3 w3 n3 m3 : Int} (p : ((a < 0 ∨ 100 < a ∨ b < 0 ∨ 99 < b ∨ c < 0 ∨ 20 < c) → r = -1 ∧ n3 = o3) ∧ (0 ≤ a → a ≤ 100 → 0 ≤ b → b ≤ 99 → 0 ≤ c → c ≤ 20 → 6 ≤ o3 → r = -5 ∧ n3 = o3) ∧ (0 ≤ a → a ≤ 100 → 0 ≤ b → b ≤ 99 → 0 ≤ c → c ≤ 20 → o3 < 6 → r = o3 ∧ n3 = o3 + 1)) (q : ((a < 0 ∨ 100 < a ∨ b < 0 ∨ 99 < b ∨ c < 0 ∨ 20 < c) → s = -1 ∧ m3 = w3) ∧ (0 ≤ a → a ≤ 100 → 0 ≤ b → b ≤ 99 → 0 ≤ c → c ≤ 20 → 6 ≤ w3 → s = -5 ∧ m3 = w3) ∧ (0 ≤ a → a ≤ 100 → 0 ≤ b → b ≤ 99 → 0 ≤ c → c ≤ 20 → w3 < 6 → s = w3 ∧ m3 = w3 + 1)) (e3 : o3 = w3) : r = s ∧ n3 = m3 := by
  subst e3
  obtain ⟨p0, p1, p2⟩ := p
  obtain ⟨q0, q1, q2⟩ := q
  by_cases g : (a < 0 ∨ 100 < a ∨ b < 0 ∨ 99 < b ∨ c < 0 ∨ 20 < c)
  · have x := p0 g
    have y := q0 g
    clear p0 p1 p2 q0 q1 q2
    omega
  by_cases g : (0 ≤ a) ∧ (a ≤ 100) ∧ (0 ≤ b) ∧ (b ≤ 99) ∧ (0 ≤ c) ∧ (c ≤ 20) ∧ (6 ≤ o3)
  · have x := p1 g.1 g.2.1 g.2.2.1 g.2.2.2.1 g.2.2.2.2.1 g.2.2.2.2.2.1 g.2.2.2.2.2.2
    have y := q1 g.1 g.2.1 g.2.2.1 g.2.2.2.1 g.2.2.2.2.1 g.2.2.2.2.2.1 g.2.2.2.2.2.2
    clear p0 p1 p2 q0 q1 q2
    omega
  by_cases g : (0 ≤ a) ∧ (a ≤ 100) ∧ (0 ≤ b) ∧ (b ≤ 99) ∧ (0 ≤ c) ∧ (c ≤ 20) ∧ (o3 < 6)
  · have x := p2 g.1 g.2.1 g.2.2.1 g.2.2.2.1 g.2.2.2.2.1 g.2.2.2.2.2.1 g.2.2.2.2.2.2
    have y := q2 g.1 g.2.1 g.2.2.1 g.2.2.2.1 g.2.2.2.2.1 g.2.2.2.2.2.1 g.2.2.2.2.2.2
    clear p0 p1 p2 q0 q1 q2
    omega
  clear p0 p1 p2 q0 q1 q2
  omega
theorem det_back {a r s o0 o1 o2 o3 o4 o5 o6 o7 o8 o9 o10 o11 o12 o13 w0 w1 w2 w3 w4 w5 w6 w7 w8 w9 w10 w11 w12 w13 n0 n1 n2 n3 m0 m1 m2 m3 : Int} (p : ((a < 0 ∨ 1 < a) → r = -1 ∧ n0 = o0 ∧ n1 = o1 ∧ n2 = o2 ∧ n3 = o3) ∧ (a = 0 → o12 = 0 → r = -2 ∧ n0 = o0 ∧ n1 = o1 ∧ n2 = o2 ∧ n3 = o3) ∧ (a = 1 → o13 = 0 → r = -2 ∧ n0 = o0 ∧ n1 = o1 ∧ n2 = o2 ∧ n3 = o3) ∧ (a = 0 → o12 ≠ 0 → r = 0 ∧ n0 = o4 ∧ n1 = o5 ∧ n2 = o6 ∧ n3 = o7) ∧ (a = 1 → o13 ≠ 0 → r = 0 ∧ n0 = o8 ∧ n1 = o9 ∧ n2 = o10 ∧ n3 = o11)) (q : ((a < 0 ∨ 1 < a) → s = -1 ∧ m0 = w0 ∧ m1 = w1 ∧ m2 = w2 ∧ m3 = w3) ∧ (a = 0 → w12 = 0 → s = -2 ∧ m0 = w0 ∧ m1 = w1 ∧ m2 = w2 ∧ m3 = w3) ∧ (a = 1 → w13 = 0 → s = -2 ∧ m0 = w0 ∧ m1 = w1 ∧ m2 = w2 ∧ m3 = w3) ∧ (a = 0 → w12 ≠ 0 → s = 0 ∧ m0 = w4 ∧ m1 = w5 ∧ m2 = w6 ∧ m3 = w7) ∧ (a = 1 → w13 ≠ 0 → s = 0 ∧ m0 = w8 ∧ m1 = w9 ∧ m2 = w10 ∧ m3 = w11)) (e0 : o0 = w0) (e1 : o1 = w1) (e2 : o2 = w2) (e3 : o3 = w3) (e4 : o4 = w4) (e5 : o5 = w5) (e6 : o6 = w6) (e7 : o7 = w7) (e8 : o8 = w8) (e9 : o9 = w9) (e10 : o10 = w10) (e11 : o11 = w11) (e12 : o12 = w12) (e13 : o13 = w13) : r = s ∧ n0 = m0 ∧ n1 = m1 ∧ n2 = m2 ∧ n3 = m3 := by
  subst e0 e1 e2 e3 e4 e5 e6 e7 e8 e9 e10 e11 e12 e13
  obtain ⟨p0, p1, p2, p3, p4⟩ := p
  obtain ⟨q0, q1, q2, q3, q4⟩ := q
  by_cases g : (a < 0 ∨ 1 < a)
  · have x := p0 g
    have y := q0 g
    clear p0 p1 p2 p3 p4 q0 q1 q2 q3 q4
    omega
  by_cases g : (a = 0) ∧ (o12 = 0)
  · have x := p1 g.1 g.2
    have y := q1 g.1 g.2
    clear p0 p1 p2 p3 p4 q0 q1 q2 q3 q4
    omega
  by_cases g : (a = 1) ∧ (o13 = 0)
  · have x := p2 g.1 g.2
    have y := q2 g.1 g.2
    clear p0 p1 p2 p3 p4 q0 q1 q2 q3 q4
    omega
  by_cases g : (a = 0) ∧ (o12 ≠ 0)
  · have x := p3 g.1 g.2
    have y := q3 g.1 g.2
    clear p0 p1 p2 p3 p4 q0 q1 q2 q3 q4
    omega
  by_cases g : (a = 1) ∧ (o13 ≠ 0)
  · have x := p4 g.1 g.2
    have y := q4 g.1 g.2
    clear p0 p1 p2 p3 p4 q0 q1 q2 q3 q4
    omega
  clear p0 p1 p2 p3 p4 q0 q1 q2 q3 q4
  omega
set_option maxHeartbeats 4000000 in
set_option maxRecDepth 100000 in
theorem law_c0 (X : Cx) (b L : Nat) (xs : Nat → Int32) (C N : Nat) (hC : C + 0 ≤ 600000) (hN : N + 0 ≤ 7302249) (i : Int) (M : Mm) (hR : Rg M) (ic : IC M) (im : IM M) (crx : CX M) (h0 : 0 ≤ i) (h1 : i + 7 ≤ L) (hL : L ≤ 3584) (hk : ∀ M' : Mm, Rg M' → IC M' → IM M' → CX M' → J X.1 RL cL_law 4 ret (ELW X M' b L xs) C N Zl 1430 [(3, vi i), (2, vr X 97), (1, vr X 0), (0, .ref b)] []) : J X.1 RL cL_law 4 ret (ELW X M b L xs) C N Zl 196 [(3, vi i), (2, vr X 97), (1, vr X 0), (0, .ref b)] [] := by
  have cr := crx.1
  have wr := crx.2.1
  have gr := crx.2.2
  have bb := ICb ic
  refine j_aload (pc' := 197) 2 dL_law_196 rfl rfl ?_
  refine j_aload (pc' := 198) 3 dL_law_197 rfl rfl ?_
  refine j_iload_n (pc' := 199) 0 dL_law_198 rfl rfl ?_
  refine j_iconst (pc' := 200) dL_law_199 rfl ?_
  refine j_iadd (pc' := 201) dL_law_200 rfl ?_
  refine w_sld (pc' := 202) dL_law_201 rfl (by omega) (by omega) ?_
  obtain ⟨ta, tb, P, Lq, F, Z, tv, pub⟩ := gr.1
  refine w_call hC hN hR (pc' := 205) (As := [vi (sx xs (i + 1))]) (o := 0) (S := []) dL_law_202 rfl m_L_13 w_X9_glass (c_X9_glass_x X M ic (sx xs (i + 1)) (sx_in xs (i + 1)) ta tb (M 99 0) P Lq F Z (M 101) (fun j => M 99 (4 + j)) tv pub) rfl ⟨_, _, _, rfl, rfl, rfl⟩ (Nat.le_of_ble_eq_true rfl) (Nat.le_of_ble_eq_true rfl) rfl (Nat.le_of_ble_eq_true rfl) (fun v M1 hq hR1 => ?_)
  obtain ⟨r1, rfl, ic1, f1, e1_0, e1_1, e1_2, e1_3, e1_4, e1_5, e1_6, e1_7, e1_8, e1_9, e1_10, e1_11, e1_12, e1_13, e1_14, e1_15, e1_16, p1⟩ := hq
  have im1 : IM M1 := IM.fr im f1 (fun c z => by first | omega | (dsimp only at z; omega))
  have fd1 := frD (Fr.tr Fr.rf f1 fi_76)
  have wr1 : TR M1 := TR.fr wr (f1 32 (by decide)) (f1 106 (by decide)) (by omega) (by omega) (congrFun (f1 97 (by decide)) 17)
  show J X.1 RL cL_law 4 ret (ELW X M1 b L xs) C N Zl 205 [(3, vi i), (2, vr X 97), (1, vr X 0), (0, .ref b)] [vi r1]
  refine j_pop (pc' := 206) dL_law_205 rfl rfl ?_
  refine j_aload (pc' := 207) 1 dL_law_206 rfl rfl ?_
  refine j_aload (pc' := 208) 3 dL_law_207 rfl rfl ?_
  refine j_iload_n (pc' := 209) 0 dL_law_208 rfl rfl ?_
  refine j_iconst (pc' := 210) dL_law_209 rfl ?_
  refine j_iadd (pc' := 211) dL_law_210 rfl ?_
  refine w_sld (pc' := 212) dL_law_211 rfl (by omega) (by omega) ?_
  refine w_call hC hN hR1 (pc' := 215) (As := [vi (sx xs (i + 1))]) (o := 97) (S := []) dL_law_212 rfl m_L_17 w_X10_glass (c_X10_glass_x X M1 im1 (sx xs (i + 1)) (sx_in xs (i + 1))) rfl ⟨_, _, _, rfl, rfl, rfl⟩ (Nat.le_of_ble_eq_true rfl) (Nat.le_of_ble_eq_true rfl) rfl (Nat.le_of_ble_eq_true rfl) (fun v M2 hq hR2 => ?_)
  obtain ⟨r2, rfl, im2, f2, e2_0, e2_1, e2_2, e2_3, e2_4, e2_5, e2_6, e2_7, e2_8, e2_9, e2_10, e2_11, e2_12, e2_13, e2_14, e2_15, e2_16, e2_17, p2⟩ := hq
  have ic2 : IC M2 := IC.fr ic1 f2 (fun c z => by unfold free isT; first | omega | (dsimp only at z; omega))
  have fd2 := frC (Fr.tr Fr.rf f2 fi_77)
  have x2 := p2.2
  replace p2 := p2.1
  have wr2 : TR M2 := TR.fr wr1 (f2 32 (by decide)) (f2 106 (by decide)) (by omega) (congrFun (f2 0 (by decide)) 12) (by omega)
  show J X.1 RL cL_law 4 ret (ELW X M2 b L xs) C N Zl 215 [(3, vi i), (2, vr X 97), (1, vr X 0), (0, .ref b)] [vi r2]
  refine j_pop (pc' := 216) dL_law_215 rfl rfl ?_
  refine j_goto (tgt := 1430) dL_law_216 rfl ?_
  have F := Fr.tr (P := fun c => (fun c => (2 ≤ c ∧ c ≤ 6) ∨ c = 0 ∨ c = 96) c ∨ (fun c => c = 97 ∨ c = 98 ∨ c = 99) c) (Fr.tr Fr.rf f1 (fun c z => Or.inl z)) f2 (fun c z => Or.inr z)
  have k0_10 : M2 0 10 = M1 0 10 := congrFun (f2 0 (by first | decide | omega | (dsimp only; omega))) 10
  have k0_11 : M2 0 11 = M1 0 11 := congrFun (f2 0 (by first | decide | omega | (dsimp only; omega))) 11
  have k0_12 : M2 0 12 = M1 0 12 := congrFun (f2 0 (by first | decide | omega | (dsimp only; omega))) 12
  have k0_13 : M2 0 13 = M1 0 13 := congrFun (f2 0 (by first | decide | omega | (dsimp only; omega))) 13
  have k97_1 : M1 97 1 = M 97 1 := congrFun (f1 97 (by first | decide | omega | (dsimp only; omega))) 1
  have k97_10 : M1 97 10 = M 97 10 := congrFun (f1 97 (by first | decide | omega | (dsimp only; omega))) 10
  have k97_17 : M1 97 17 = M 97 17 := congrFun (f1 97 (by first | decide | omega | (dsimp only; omega))) 17
  have k97_33 : M1 97 33 = M 97 33 := congrFun (f1 97 (by first | decide | omega | (dsimp only; omega))) 33
  have k97_44 : M1 97 44 = M 97 44 := congrFun (f1 97 (by first | decide | omega | (dsimp only; omega))) 44
  obtain ⟨g1, g2, g3, g4, rf, ⟨g6a, g6b⟩, g7_⟩ := gr
  obtain ⟨pr1, pa1, pb1, pc1, n0_, a0_⟩ := p1
  obtain ⟨hrr, gg1, gk⟩ := GR.glass f2 (fun c z => by unfold inT; first | omega | (dsimp only at z; omega)) (f1 99 (by first | decide | omega | (dsimp only; omega))) ((f2 101 (by first | decide | omega | (dsimp only; omega))).trans (f1 101 (by first | decide | omega | (dsimp only; omega)))) (by unfold CR at cr; omega) ⟨pa1, pb1, pc1⟩ p2 x2.1 x2.2.1
  have gn := gg1.nn
  have gr2 : GR M2 := GR.k ⟨g1, g2, g3, g4, rf, ⟨g6a, g6b⟩, g7_⟩ F (fun c z => by unfold inT; first | omega | (dsimp only at z; omega)) gg1 (fun j hj => by rw [((f2 7 (by first | decide | omega | (dsimp only; omega))).trans (f1 7 (by first | decide | omega | (dsimp only; omega)))), gk (10 + j) (by omega)]; exact g2 j (by omega)) (RFR.s2 rf (by omega) hrr k0_10 n0_ x2.2.2.1 (f2 96 (by first | decide | omega | (dsimp only; omega))) a0_ (f1 98 (by first | decide | omega | (dsimp only; omega))) x2.2.2.2) ⟨by omega, by omega⟩ (by omega)
  exact hk M2 hR2 ic2 im2 ⟨by unfold CR at cr ⊢; omega, wr2, gr2⟩
set_option maxHeartbeats 4000000 in
set_option maxRecDepth 100000 in
theorem law_c1 (X : Cx) (b L : Nat) (xs : Nat → Int32) (C N : Nat) (hC : C + 0 ≤ 600000) (hN : N + 0 ≤ 7302249) (i : Int) (M : Mm) (hR : Rg M) (ic : IC M) (im : IM M) (crx : CX M) (h0 : 0 ≤ i) (h1 : i + 7 ≤ L) (hL : L ≤ 3584) (hk : ∀ M' : Mm, Rg M' → IC M' → IM M' → CX M' → J X.1 RL cL_law 4 ret (ELW X M' b L xs) C N Zl 1430 [(3, vi i), (2, vr X 97), (1, vr X 0), (0, .ref b)] []) : J X.1 RL cL_law 4 ret (ELW X M b L xs) C N Zl 219 [(3, vi i), (2, vr X 97), (1, vr X 0), (0, .ref b)] [] := by
  have cr := crx.1
  have wr := crx.2.1
  have gr := crx.2.2
  have bb := ICb ic
  refine j_aload (pc' := 220) 2 dL_law_219 rfl rfl ?_
  refine j_aload (pc' := 221) 3 dL_law_220 rfl rfl ?_
  refine j_iload_n (pc' := 222) 0 dL_law_221 rfl rfl ?_
  refine j_iconst (pc' := 223) dL_law_222 rfl ?_
  refine j_iadd (pc' := 224) dL_law_223 rfl ?_
  refine w_sld (pc' := 225) dL_law_224 rfl (by omega) (by omega) ?_
  refine j_aload (pc' := 226) 3 dL_law_225 rfl rfl ?_
  refine j_iload_n (pc' := 227) 0 dL_law_226 rfl rfl ?_
  refine j_iconst (pc' := 228) dL_law_227 rfl ?_
  refine j_iadd (pc' := 229) dL_law_228 rfl ?_
  refine w_sld (pc' := 230) dL_law_229 rfl (by omega) (by omega) ?_
  obtain ⟨ta, tb, P, Lq, F, Z, tv, pub⟩ := gr.1
  refine w_call hC hN hR (pc' := 233) (As := [vi (sx xs (i + 1)), vi (sx xs (i + 2))]) (o := 0) (S := []) dL_law_230 rfl m_L_18 w_X9_of (c_X9_of_x X M ic (sx xs (i + 1)) (sx_in xs (i + 1)) (sx xs (i + 2)) (sx_in xs (i + 2)) ta tb (M 99 0) P Lq F Z (M 101) (fun j => M 99 (4 + j)) tv pub) rfl ⟨_, _, _, rfl, rfl, rfl⟩ (Nat.le_of_ble_eq_true rfl) (Nat.le_of_ble_eq_true rfl) rfl (Nat.le_of_ble_eq_true rfl) (fun v M1 hq hR1 => ?_)
  obtain ⟨r1, rfl, e1, p1⟩ := hq
  rw [e1]
  show J X.1 RL cL_law 4 ret (ELW X M b L xs) C N Zl 233 [(3, vi i), (2, vr X 97), (1, vr X 0), (0, .ref b)] [vi r1]
  refine j_pop (pc' := 234) dL_law_233 rfl rfl ?_
  refine j_aload (pc' := 235) 1 dL_law_234 rfl rfl ?_
  refine j_aload (pc' := 236) 3 dL_law_235 rfl rfl ?_
  refine j_iload_n (pc' := 237) 0 dL_law_236 rfl rfl ?_
  refine j_iconst (pc' := 238) dL_law_237 rfl ?_
  refine j_iadd (pc' := 239) dL_law_238 rfl ?_
  refine w_sld (pc' := 240) dL_law_239 rfl (by omega) (by omega) ?_
  refine j_aload (pc' := 241) 3 dL_law_240 rfl rfl ?_
  refine j_iload_n (pc' := 242) 0 dL_law_241 rfl rfl ?_
  refine j_iconst (pc' := 243) dL_law_242 rfl ?_
  refine j_iadd (pc' := 244) dL_law_243 rfl ?_
  refine w_sld (pc' := 245) dL_law_244 rfl (by omega) (by omega) ?_
  refine w_call hC hN hR (pc' := 248) (As := [vi (sx xs (i + 1)), vi (sx xs (i + 2))]) (o := 97) (S := []) dL_law_245 rfl m_L_22 w_X10_of (c_X10_of_x X M im (sx xs (i + 1)) (sx_in xs (i + 1)) (sx xs (i + 2)) (sx_in xs (i + 2))) rfl ⟨_, _, _, rfl, rfl, rfl⟩ (Nat.le_of_ble_eq_true rfl) (Nat.le_of_ble_eq_true rfl) rfl (Nat.le_of_ble_eq_true rfl) (fun v M2 hq hR2 => ?_)
  obtain ⟨r2, rfl, im2, f2, e2_0, e2_1, e2_2, e2_3, e2_4, e2_5, e2_6, e2_7, e2_8, e2_9, e2_10, e2_11, e2_12, e2_13, e2_14, e2_15, e2_16, e2_17, e2_18, e2_19, p2⟩ := hq
  have ic2 : IC M2 := IC.fr ic f2 (fun c z => by unfold free isT; first | omega | (dsimp only at z; omega))
  have fd2 := frC (Fr.tr Fr.rf f2 fi_78)
  have wr2 : TR M2 := TR.fr wr (f2 32 (by decide)) (f2 106 (by decide)) (by omega) (congrFun (f2 0 (by decide)) 12) (by omega)
  show J X.1 RL cL_law 4 ret (ELW X M2 b L xs) C N Zl 248 [(3, vi i), (2, vr X 97), (1, vr X 0), (0, .ref b)] [vi r2]
  refine j_pop (pc' := 249) dL_law_248 rfl rfl ?_
  refine j_goto (tgt := 1430) dL_law_249 rfl ?_
  have F := f2
  have k0_10 : M2 0 10 = M 0 10 := congrFun (f2 0 (by first | decide | omega | (dsimp only; omega))) 10
  have k0_11 : M2 0 11 = M 0 11 := congrFun (f2 0 (by first | decide | omega | (dsimp only; omega))) 11
  have k0_12 : M2 0 12 = M 0 12 := congrFun (f2 0 (by first | decide | omega | (dsimp only; omega))) 12
  have k0_13 : M2 0 13 = M 0 13 := congrFun (f2 0 (by first | decide | omega | (dsimp only; omega))) 13
  obtain ⟨g1, g2, g3, g4, rf, ⟨g6a, g6b⟩, g7_⟩ := gr
  have k99_0 : M2 99 0 = M 99 0 := congrFun (f2 99 (by first | decide | omega | (dsimp only; omega))) 0
  have hrr : r1 = r2 := by
    try dsimp only at p1
    omega
  have gr2 : GR M2 := GR.k ⟨g1, g2, g3, g4, rf, ⟨g6a, g6b⟩, g7_⟩ F (fun c z => by unfold inT; first | omega | (dsimp only at z; omega)) (G1.fr g1 F (fun c z => by unfold inT; first | omega | (dsimp only at z; omega)) k99_0 (fun k _ _ => congrFun (f2 99 (by first | decide | omega | (dsimp only; omega))) k) (fun j _ => congrFun (f2 101 (by first | decide | omega | (dsimp only; omega))) j)) (G2.fr g2 (f2 7 (by first | decide | omega | (dsimp only; omega))) (by omega) (by omega) (fun k _ _ => congrFun (f2 99 (by first | decide | omega | (dsimp only; omega))) k)) (RFR.fr rf (by omega) (by omega) (f2 96 (by first | decide | omega | (dsimp only; omega))) (f2 98 (by first | decide | omega | (dsimp only; omega)))) ⟨by omega, by omega⟩ (by omega)
  exact hk M2 hR2 ic2 im2 ⟨by unfold CR at cr ⊢; omega, wr2, gr2⟩
set_option maxHeartbeats 4000000 in
set_option maxRecDepth 100000 in
theorem law_c2 (X : Cx) (b L : Nat) (xs : Nat → Int32) (C N : Nat) (hC : C + 0 ≤ 600000) (hN : N + 0 ≤ 7302249) (i : Int) (M : Mm) (hR : Rg M) (ic : IC M) (im : IM M) (crx : CX M) (h0 : 0 ≤ i) (h1 : i + 7 ≤ L) (hL : L ≤ 3584) (hk : ∀ M' : Mm, Rg M' → IC M' → IM M' → CX M' → J X.1 RL cL_law 4 ret (ELW X M' b L xs) C N Zl 1430 [(3, vi i), (2, vr X 97), (1, vr X 0), (0, .ref b)] []) : J X.1 RL cL_law 4 ret (ELW X M b L xs) C N Zl 252 [(3, vi i), (2, vr X 97), (1, vr X 0), (0, .ref b)] [] := by
  have cr := crx.1
  have wr := crx.2.1
  have gr := crx.2.2
  have bb := ICb ic
  refine j_aload (pc' := 253) 2 dL_law_252 rfl rfl ?_
  refine j_aload (pc' := 254) 3 dL_law_253 rfl rfl ?_
  refine j_iload_n (pc' := 255) 0 dL_law_254 rfl rfl ?_
  refine j_iconst (pc' := 256) dL_law_255 rfl ?_
  refine j_iadd (pc' := 257) dL_law_256 rfl ?_
  refine w_sld (pc' := 258) dL_law_257 rfl (by omega) (by omega) ?_
  refine j_aload (pc' := 259) 3 dL_law_258 rfl rfl ?_
  refine j_iload_n (pc' := 260) 0 dL_law_259 rfl rfl ?_
  refine j_iconst (pc' := 261) dL_law_260 rfl ?_
  refine j_iadd (pc' := 262) dL_law_261 rfl ?_
  refine w_sld (pc' := 263) dL_law_262 rfl (by omega) (by omega) ?_
  obtain ⟨ta, tb, P, Lq, F, Z, tv, pub⟩ := gr.1
  refine w_call hC hN hR (pc' := 266) (As := [vi (sx xs (i + 1)), vi (sx xs (i + 2))]) (o := 0) (S := []) dL_law_263 rfl m_L_23 w_X9_part (c_X9_part_x X M ic (sx xs (i + 1)) (sx_in xs (i + 1)) (sx xs (i + 2)) (sx_in xs (i + 2)) ta tb (M 99 0) P Lq F Z (M 101) (fun j => M 99 (4 + j)) tv pub) rfl ⟨_, _, _, rfl, rfl, rfl⟩ (Nat.le_of_ble_eq_true rfl) (Nat.le_of_ble_eq_true rfl) rfl (Nat.le_of_ble_eq_true rfl) (fun v M1 hq hR1 => ?_)
  obtain ⟨r1, rfl, e1, p1⟩ := hq
  rw [e1]
  show J X.1 RL cL_law 4 ret (ELW X M b L xs) C N Zl 266 [(3, vi i), (2, vr X 97), (1, vr X 0), (0, .ref b)] [vl r1]
  refine j_pop2 (pc' := 267) dL_law_266 rfl rfl ?_
  refine j_aload (pc' := 268) 1 dL_law_267 rfl rfl ?_
  refine j_aload (pc' := 269) 3 dL_law_268 rfl rfl ?_
  refine j_iload_n (pc' := 270) 0 dL_law_269 rfl rfl ?_
  refine j_iconst (pc' := 271) dL_law_270 rfl ?_
  refine j_iadd (pc' := 272) dL_law_271 rfl ?_
  refine w_sld (pc' := 273) dL_law_272 rfl (by omega) (by omega) ?_
  refine j_aload (pc' := 274) 3 dL_law_273 rfl rfl ?_
  refine j_iload_n (pc' := 275) 0 dL_law_274 rfl rfl ?_
  refine j_iconst (pc' := 276) dL_law_275 rfl ?_
  refine j_iadd (pc' := 277) dL_law_276 rfl ?_
  refine w_sld (pc' := 278) dL_law_277 rfl (by omega) (by omega) ?_
  refine w_call hC hN hR (pc' := 281) (As := [vi (sx xs (i + 1)), vi (sx xs (i + 2))]) (o := 97) (S := []) dL_law_278 rfl m_L_27 w_X10_part (c_X10_part_x X M im (sx xs (i + 1)) (sx_in xs (i + 1)) (sx xs (i + 2)) (sx_in xs (i + 2))) rfl ⟨_, _, _, rfl, rfl, rfl⟩ (Nat.le_of_ble_eq_true rfl) (Nat.le_of_ble_eq_true rfl) rfl (Nat.le_of_ble_eq_true rfl) (fun v M2 hq hR2 => ?_)
  obtain ⟨r2, rfl, im2, f2, e2_0, e2_1, e2_2, e2_3, e2_4, e2_5, e2_6, e2_7, e2_8, e2_9, e2_10, e2_11, e2_12, e2_13, e2_14, e2_15, e2_16, e2_17, e2_18, e2_19, p2⟩ := hq
  have ic2 : IC M2 := IC.fr ic f2 (fun c z => by unfold free isT; first | omega | (dsimp only at z; omega))
  have fd2 := frC (Fr.tr Fr.rf f2 fi_78)
  have wr2 : TR M2 := TR.fr wr (f2 32 (by decide)) (f2 106 (by decide)) (by omega) (congrFun (f2 0 (by decide)) 12) (by omega)
  show J X.1 RL cL_law 4 ret (ELW X M2 b L xs) C N Zl 281 [(3, vi i), (2, vr X 97), (1, vr X 0), (0, .ref b)] [vl r2]
  refine j_pop2 (pc' := 282) dL_law_281 rfl rfl ?_
  refine j_goto (tgt := 1430) dL_law_282 rfl ?_
  have F := f2
  have k0_10 : M2 0 10 = M 0 10 := congrFun (f2 0 (by first | decide | omega | (dsimp only; omega))) 10
  have k0_11 : M2 0 11 = M 0 11 := congrFun (f2 0 (by first | decide | omega | (dsimp only; omega))) 11
  have k0_12 : M2 0 12 = M 0 12 := congrFun (f2 0 (by first | decide | omega | (dsimp only; omega))) 12
  have k0_13 : M2 0 13 = M 0 13 := congrFun (f2 0 (by first | decide | omega | (dsimp only; omega))) 13
  obtain ⟨g1, g2, g3, g4, rf, ⟨g6a, g6b⟩, g7_⟩ := gr
  have k99_0 : M2 99 0 = M 99 0 := congrFun (f2 99 (by first | decide | omega | (dsimp only; omega))) 0
  have hrr : r1 = r2 := by
    try dsimp only at p1
    omega
  have gr2 : GR M2 := GR.k ⟨g1, g2, g3, g4, rf, ⟨g6a, g6b⟩, g7_⟩ F (fun c z => by unfold inT; first | omega | (dsimp only at z; omega)) (G1.fr g1 F (fun c z => by unfold inT; first | omega | (dsimp only at z; omega)) k99_0 (fun k _ _ => congrFun (f2 99 (by first | decide | omega | (dsimp only; omega))) k) (fun j _ => congrFun (f2 101 (by first | decide | omega | (dsimp only; omega))) j)) (G2.fr g2 (f2 7 (by first | decide | omega | (dsimp only; omega))) (by omega) (by omega) (fun k _ _ => congrFun (f2 99 (by first | decide | omega | (dsimp only; omega))) k)) (RFR.fr rf (by omega) (by omega) (f2 96 (by first | decide | omega | (dsimp only; omega))) (f2 98 (by first | decide | omega | (dsimp only; omega)))) ⟨by omega, by omega⟩ (by omega)
  exact hk M2 hR2 ic2 im2 ⟨by unfold CR at cr ⊢; omega, wr2, gr2⟩
set_option maxHeartbeats 4000000 in
set_option maxRecDepth 100000 in
theorem law_c3 (X : Cx) (b L : Nat) (xs : Nat → Int32) (C N : Nat) (hC : C + 0 ≤ 600000) (hN : N + 0 ≤ 7302249) (i : Int) (M : Mm) (hR : Rg M) (ic : IC M) (im : IM M) (crx : CX M) (h0 : 0 ≤ i) (h1 : i + 7 ≤ L) (hL : L ≤ 3584) (hk : ∀ M' : Mm, Rg M' → IC M' → IM M' → CX M' → J X.1 RL cL_law 4 ret (ELW X M' b L xs) C N Zl 1430 [(3, vi i), (2, vr X 97), (1, vr X 0), (0, .ref b)] []) : J X.1 RL cL_law 4 ret (ELW X M b L xs) C N Zl 285 [(3, vi i), (2, vr X 97), (1, vr X 0), (0, .ref b)] [] := by
  have cr := crx.1
  have wr := crx.2.1
  have gr := crx.2.2
  have bb := ICb ic
  refine j_aload (pc' := 286) 2 dL_law_285 rfl rfl ?_
  obtain ⟨ta, tb, P, Lq, F, Z, tv, pub⟩ := gr.1
  refine w_call hC hN hR (pc' := 289) (As := []) (o := 0) (S := []) dL_law_286 rfl m_L_28 w_X9_lower (c_X9_lower_x X M ic ta tb (M 99 0) P Lq F Z (M 101) (fun j => M 99 (4 + j)) tv pub) rfl ⟨_, _, _, rfl, rfl, rfl⟩ (Nat.le_of_ble_eq_true rfl) (Nat.le_of_ble_eq_true rfl) rfl (Nat.le_of_ble_eq_true rfl) (fun v M1 hq hR1 => ?_)
  obtain ⟨r1, rfl, e1, p1⟩ := hq
  rw [e1]
  show J X.1 RL cL_law 4 ret (ELW X M b L xs) C N Zl 289 [(3, vi i), (2, vr X 97), (1, vr X 0), (0, .ref b)] [vl r1]
  refine j_aload (pc' := 290) 1 dL_law_289 rfl rfl ?_
  refine w_call hC hN hR (pc' := 293) (As := []) (o := 97) (S := [vl r1]) dL_law_290 rfl m_L_32 w_X10_lower (c_X10_lower_x X M im) rfl ⟨_, _, _, rfl, rfl, rfl⟩ (Nat.le_of_ble_eq_true rfl) (Nat.le_of_ble_eq_true rfl) rfl (Nat.le_of_ble_eq_true rfl) (fun v M2 hq hR2 => ?_)
  obtain ⟨r2, rfl, im2, f2, e2_0, e2_1, e2_2, e2_3, e2_4, e2_5, e2_6, e2_7, e2_8, e2_9, e2_10, e2_11, e2_12, e2_13, e2_14, e2_15, e2_16, e2_17, e2_18, e2_19, p2⟩ := hq
  have ic2 : IC M2 := IC.fr ic f2 (fun c z => by unfold free isT; first | omega | (dsimp only at z; omega))
  have fd2 := frC (Fr.tr Fr.rf f2 fi_78)
  have wr2 : TR M2 := TR.fr wr (f2 32 (by decide)) (f2 106 (by decide)) (by omega) (congrFun (f2 0 (by decide)) 12) (by omega)
  show J X.1 RL cL_law 4 ret (ELW X M2 b L xs) C N Zl 293 [(3, vi i), (2, vr X 97), (1, vr X 0), (0, .ref b)] [vl r2, vl r1]
  have F := f2
  have k0_10 : M2 0 10 = M 0 10 := congrFun (f2 0 (by first | decide | omega | (dsimp only; omega))) 10
  have k0_11 : M2 0 11 = M 0 11 := congrFun (f2 0 (by first | decide | omega | (dsimp only; omega))) 11
  have k0_12 : M2 0 12 = M 0 12 := congrFun (f2 0 (by first | decide | omega | (dsimp only; omega))) 12
  have k0_13 : M2 0 13 = M 0 13 := congrFun (f2 0 (by first | decide | omega | (dsimp only; omega))) 13
  obtain ⟨g1, g2, g3, g4, rf, ⟨g6a, g6b⟩, g7_⟩ := gr
  have k99_0 : M2 99 0 = M 99 0 := congrFun (f2 99 (by first | decide | omega | (dsimp only; omega))) 0
  have hrr : r1 = r2 := p1.trans p2.symm
  have gr2 : GR M2 := GR.k ⟨g1, g2, g3, g4, rf, ⟨g6a, g6b⟩, g7_⟩ F (fun c z => by unfold inT; first | omega | (dsimp only at z; omega)) (G1.fr g1 F (fun c z => by unfold inT; first | omega | (dsimp only at z; omega)) k99_0 (fun k _ _ => congrFun (f2 99 (by first | decide | omega | (dsimp only; omega))) k) (fun j _ => congrFun (f2 101 (by first | decide | omega | (dsimp only; omega))) j)) (G2.fr g2 (f2 7 (by first | decide | omega | (dsimp only; omega))) (by omega) (by omega) (fun k _ _ => congrFun (f2 99 (by first | decide | omega | (dsimp only; omega))) k)) (RFR.fr rf (by omega) (by omega) (f2 96 (by first | decide | omega | (dsimp only; omega))) (f2 98 (by first | decide | omega | (dsimp only; omega)))) ⟨by omega, by omega⟩ (by omega)
  refine j_lc_sm (tgt := 1430) hrr dL_law_293 dL_law_294 rfl ?_
  exact hk M2 hR2 ic2 im2 ⟨by unfold CR at cr ⊢; omega, wr2, gr2⟩
set_option maxHeartbeats 4000000 in
set_option maxRecDepth 100000 in
theorem law_c4 (X : Cx) (b L : Nat) (xs : Nat → Int32) (C N : Nat) (hC : C + 0 ≤ 600000) (hN : N + 0 ≤ 7302249) (i : Int) (M : Mm) (hR : Rg M) (ic : IC M) (im : IM M) (crx : CX M) (h0 : 0 ≤ i) (h1 : i + 7 ≤ L) (hL : L ≤ 3584) (hk : ∀ M' : Mm, Rg M' → IC M' → IM M' → CX M' → J X.1 RL cL_law 4 ret (ELW X M' b L xs) C N Zl 1430 [(3, vi i), (2, vr X 97), (1, vr X 0), (0, .ref b)] []) : J X.1 RL cL_law 4 ret (ELW X M b L xs) C N Zl 299 [(3, vi i), (2, vr X 97), (1, vr X 0), (0, .ref b)] [] := by
  have cr := crx.1
  have wr := crx.2.1
  have gr := crx.2.2
  have bb := ICb ic
  refine j_aload (pc' := 300) 2 dL_law_299 rfl rfl ?_
  refine j_aload (pc' := 301) 3 dL_law_300 rfl rfl ?_
  refine j_iload_n (pc' := 302) 0 dL_law_301 rfl rfl ?_
  refine j_iconst (pc' := 303) dL_law_302 rfl ?_
  refine j_iadd (pc' := 304) dL_law_303 rfl ?_
  refine w_sld (pc' := 305) dL_law_304 rfl (by omega) (by omega) ?_
  refine j_aload (pc' := 306) 3 dL_law_305 rfl rfl ?_
  refine j_iload_n (pc' := 307) 0 dL_law_306 rfl rfl ?_
  refine j_iconst (pc' := 308) dL_law_307 rfl ?_
  refine j_iadd (pc' := 309) dL_law_308 rfl ?_
  refine w_sld (pc' := 310) dL_law_309 rfl (by omega) (by omega) ?_
  obtain ⟨ta, tb, P, Lq, F, Z, tv, pub⟩ := gr.1
  refine w_call hC hN hR (pc' := 313) (As := [vi (sx xs (i + 1)), vi (sx xs (i + 2))]) (o := 0) (S := []) dL_law_310 rfl m_L_33 w_X9_taste (c_X9_taste_x X M ic (sx xs (i + 1)) (sx_in xs (i + 1)) (sx xs (i + 2)) (sx_in xs (i + 2)) ta tb (M 99 0) P Lq F Z (M 101) (fun j => M 99 (4 + j)) tv pub) rfl ⟨_, _, _, rfl, rfl, rfl⟩ (Nat.le_of_ble_eq_true rfl) (Nat.le_of_ble_eq_true rfl) rfl (Nat.le_of_ble_eq_true rfl) (fun v M1 hq hR1 => ?_)
  obtain ⟨r1, rfl, e1, p1⟩ := hq
  rw [e1]
  show J X.1 RL cL_law 4 ret (ELW X M b L xs) C N Zl 313 [(3, vi i), (2, vr X 97), (1, vr X 0), (0, .ref b)] [vi r1]
  refine j_pop (pc' := 314) dL_law_313 rfl rfl ?_
  refine j_aload (pc' := 315) 1 dL_law_314 rfl rfl ?_
  refine j_aload (pc' := 316) 3 dL_law_315 rfl rfl ?_
  refine j_iload_n (pc' := 317) 0 dL_law_316 rfl rfl ?_
  refine j_iconst (pc' := 318) dL_law_317 rfl ?_
  refine j_iadd (pc' := 319) dL_law_318 rfl ?_
  refine w_sld (pc' := 320) dL_law_319 rfl (by omega) (by omega) ?_
  refine j_aload (pc' := 321) 3 dL_law_320 rfl rfl ?_
  refine j_iload_n (pc' := 322) 0 dL_law_321 rfl rfl ?_
  refine j_iconst (pc' := 323) dL_law_322 rfl ?_
  refine j_iadd (pc' := 324) dL_law_323 rfl ?_
  refine w_sld (pc' := 325) dL_law_324 rfl (by omega) (by omega) ?_
  refine w_call hC hN hR (pc' := 328) (As := [vi (sx xs (i + 1)), vi (sx xs (i + 2))]) (o := 97) (S := []) dL_law_325 rfl m_L_36 w_X10_taste (c_X10_taste_x X M im (sx xs (i + 1)) (sx_in xs (i + 1)) (sx xs (i + 2)) (sx_in xs (i + 2))) rfl ⟨_, _, _, rfl, rfl, rfl⟩ (Nat.le_of_ble_eq_true rfl) (Nat.le_of_ble_eq_true rfl) rfl (Nat.le_of_ble_eq_true rfl) (fun v M2 hq hR2 => ?_)
  obtain ⟨r2, rfl, im2, f2, e2_0, e2_1, e2_2, e2_3, e2_4, e2_5, e2_6, e2_7, e2_8, e2_9, e2_10, e2_11, e2_12, e2_13, e2_14, e2_15, e2_16, e2_17, e2_18, e2_19, p2⟩ := hq
  have ic2 : IC M2 := IC.fr ic f2 (fun c z => by unfold free isT; first | omega | (dsimp only at z; omega))
  have fd2 := frC (Fr.tr Fr.rf f2 fi_78)
  have wr2 : TR M2 := TR.fr wr (f2 32 (by decide)) (f2 106 (by decide)) (by omega) (congrFun (f2 0 (by decide)) 12) (by omega)
  show J X.1 RL cL_law 4 ret (ELW X M2 b L xs) C N Zl 328 [(3, vi i), (2, vr X 97), (1, vr X 0), (0, .ref b)] [vi r2]
  refine j_pop (pc' := 329) dL_law_328 rfl rfl ?_
  refine j_goto (tgt := 1430) dL_law_329 rfl ?_
  have F := f2
  have k0_10 : M2 0 10 = M 0 10 := congrFun (f2 0 (by first | decide | omega | (dsimp only; omega))) 10
  have k0_11 : M2 0 11 = M 0 11 := congrFun (f2 0 (by first | decide | omega | (dsimp only; omega))) 11
  have k0_12 : M2 0 12 = M 0 12 := congrFun (f2 0 (by first | decide | omega | (dsimp only; omega))) 12
  have k0_13 : M2 0 13 = M 0 13 := congrFun (f2 0 (by first | decide | omega | (dsimp only; omega))) 13
  obtain ⟨g1, g2, g3, g4, rf, ⟨g6a, g6b⟩, g7_⟩ := gr
  have k99_0 : M2 99 0 = M 99 0 := congrFun (f2 99 (by first | decide | omega | (dsimp only; omega))) 0
  have hrr : r1 = r2 := by
    try dsimp only at p1
    omega
  have gr2 : GR M2 := GR.k ⟨g1, g2, g3, g4, rf, ⟨g6a, g6b⟩, g7_⟩ F (fun c z => by unfold inT; first | omega | (dsimp only at z; omega)) (G1.fr g1 F (fun c z => by unfold inT; first | omega | (dsimp only at z; omega)) k99_0 (fun k _ _ => congrFun (f2 99 (by first | decide | omega | (dsimp only; omega))) k) (fun j _ => congrFun (f2 101 (by first | decide | omega | (dsimp only; omega))) j)) (G2.fr g2 (f2 7 (by first | decide | omega | (dsimp only; omega))) (by omega) (by omega) (fun k _ _ => congrFun (f2 99 (by first | decide | omega | (dsimp only; omega))) k)) (RFR.fr rf (by omega) (by omega) (f2 96 (by first | decide | omega | (dsimp only; omega))) (f2 98 (by first | decide | omega | (dsimp only; omega)))) ⟨by omega, by omega⟩ (by omega)
  exact hk M2 hR2 ic2 im2 ⟨by unfold CR at cr ⊢; omega, wr2, gr2⟩
set_option maxHeartbeats 4000000 in
set_option maxRecDepth 100000 in
theorem law_c5 (X : Cx) (b L : Nat) (xs : Nat → Int32) (C N : Nat) (hC : C + 0 ≤ 600000) (hN : N + 0 ≤ 7302249) (i : Int) (M : Mm) (hR : Rg M) (ic : IC M) (im : IM M) (crx : CX M) (h0 : 0 ≤ i) (h1 : i + 7 ≤ L) (hL : L ≤ 3584) (hk : ∀ M' : Mm, Rg M' → IC M' → IM M' → CX M' → J X.1 RL cL_law 4 ret (ELW X M' b L xs) C N Zl 1430 [(3, vi i), (2, vr X 97), (1, vr X 0), (0, .ref b)] []) : J X.1 RL cL_law 4 ret (ELW X M b L xs) C N Zl 332 [(3, vi i), (2, vr X 97), (1, vr X 0), (0, .ref b)] [] := by
  have cr := crx.1
  have wr := crx.2.1
  have gr := crx.2.2
  have bb := ICb ic
  refine j_aload (pc' := 333) 2 dL_law_332 rfl rfl ?_
  refine j_aload (pc' := 334) 3 dL_law_333 rfl rfl ?_
  refine j_iload_n (pc' := 335) 0 dL_law_334 rfl rfl ?_
  refine j_iconst (pc' := 336) dL_law_335 rfl ?_
  refine j_iadd (pc' := 337) dL_law_336 rfl ?_
  refine w_sld (pc' := 338) dL_law_337 rfl (by omega) (by omega) ?_
  refine j_aload (pc' := 339) 3 dL_law_338 rfl rfl ?_
  refine j_iload_n (pc' := 340) 0 dL_law_339 rfl rfl ?_
  refine j_iconst (pc' := 341) dL_law_340 rfl ?_
  refine j_iadd (pc' := 342) dL_law_341 rfl ?_
  refine w_sld (pc' := 343) dL_law_342 rfl (by omega) (by omega) ?_
  refine j_aload (pc' := 344) 3 dL_law_343 rfl rfl ?_
  refine j_iload_n (pc' := 345) 0 dL_law_344 rfl rfl ?_
  refine j_iconst (pc' := 346) dL_law_345 rfl ?_
  refine j_iadd (pc' := 347) dL_law_346 rfl ?_
  refine w_sld (pc' := 348) dL_law_347 rfl (by omega) (by omega) ?_
  obtain ⟨ta, tb, P, Lq, F, Z, tv, pub⟩ := gr.1
  refine w_call hC hN hR (pc' := 351) (As := [vi (sx xs (i + 1)), vi (sx xs (i + 2)), vi (sx xs (i + 3))]) (o := 0) (S := []) dL_law_348 rfl m_L_37 w_X9_fill (c_X9_fill_x X M ic (sx xs (i + 1)) (sx_in xs (i + 1)) (sx xs (i + 2)) (sx_in xs (i + 2)) (sx xs (i + 3)) (sx_in xs (i + 3)) ta tb (M 99 0) P Lq F Z (M 101) (fun j => M 99 (4 + j)) tv pub) rfl ⟨_, _, _, rfl, rfl, rfl⟩ (Nat.le_of_ble_eq_true rfl) (Nat.le_of_ble_eq_true rfl) rfl (Nat.le_of_ble_eq_true rfl) (fun v M1 hq hR1 => ?_)
  obtain ⟨r1, rfl, ic1, f1, e1_0, e1_1, e1_2, e1_3, e1_4, e1_5, e1_6, e1_7, e1_8, e1_9, e1_10, e1_11, e1_12, e1_13, e1_14, e1_15, e1_16, e1_17, p1⟩ := hq
  have im1 : IM M1 := IM.fr im f1 (fun c z => by first | omega | (dsimp only at z; omega))
  have fd1 := frD (Fr.tr Fr.rf f1 fi_76)
  have wr1 : TR M1 := TR.fr wr (f1 32 (by decide)) (f1 106 (by decide)) (by omega) (by omega) (congrFun (f1 97 (by decide)) 17)
  show J X.1 RL cL_law 4 ret (ELW X M1 b L xs) C N Zl 351 [(3, vi i), (2, vr X 97), (1, vr X 0), (0, .ref b)] [vi r1]
  refine j_pop (pc' := 352) dL_law_351 rfl rfl ?_
  refine j_aload (pc' := 353) 1 dL_law_352 rfl rfl ?_
  refine j_aload (pc' := 354) 3 dL_law_353 rfl rfl ?_
  refine j_iload_n (pc' := 355) 0 dL_law_354 rfl rfl ?_
  refine j_iconst (pc' := 356) dL_law_355 rfl ?_
  refine j_iadd (pc' := 357) dL_law_356 rfl ?_
  refine w_sld (pc' := 358) dL_law_357 rfl (by omega) (by omega) ?_
  refine j_aload (pc' := 359) 3 dL_law_358 rfl rfl ?_
  refine j_iload_n (pc' := 360) 0 dL_law_359 rfl rfl ?_
  refine j_iconst (pc' := 361) dL_law_360 rfl ?_
  refine j_iadd (pc' := 362) dL_law_361 rfl ?_
  refine w_sld (pc' := 363) dL_law_362 rfl (by omega) (by omega) ?_
  refine j_aload (pc' := 364) 3 dL_law_363 rfl rfl ?_
  refine j_iload_n (pc' := 365) 0 dL_law_364 rfl rfl ?_
  refine j_iconst (pc' := 366) dL_law_365 rfl ?_
  refine j_iadd (pc' := 367) dL_law_366 rfl ?_
  refine w_sld (pc' := 368) dL_law_367 rfl (by omega) (by omega) ?_
  refine w_call hC hN hR1 (pc' := 371) (As := [vi (sx xs (i + 1)), vi (sx xs (i + 2)), vi (sx xs (i + 3))]) (o := 97) (S := []) dL_law_368 rfl m_L_41 w_X10_fill (c_X10_fill_x X M1 im1 (sx xs (i + 1)) (sx_in xs (i + 1)) (sx xs (i + 2)) (sx_in xs (i + 2)) (sx xs (i + 3)) (sx_in xs (i + 3))) rfl ⟨_, _, _, rfl, rfl, rfl⟩ (Nat.le_of_ble_eq_true rfl) (Nat.le_of_ble_eq_true rfl) rfl (Nat.le_of_ble_eq_true rfl) (fun v M2 hq hR2 => ?_)
  obtain ⟨r2, rfl, im2, f2, e2_0, e2_1, e2_2, e2_3, e2_4, e2_5, e2_6, e2_7, e2_8, e2_9, e2_10, e2_11, e2_12, e2_13, e2_14, e2_15, e2_16, e2_17, e2_18, p2⟩ := hq
  have ic2 : IC M2 := IC.fr ic1 f2 (fun c z => by unfold free isT; first | omega | (dsimp only at z; omega))
  have fd2 := frC (Fr.tr Fr.rf f2 fi_79)
  have wr2 : TR M2 := TR.fr wr1 (f2 32 (by decide)) (f2 106 (by decide)) (by omega) (congrFun (f2 0 (by decide)) 12) (by omega)
  show J X.1 RL cL_law 4 ret (ELW X M2 b L xs) C N Zl 371 [(3, vi i), (2, vr X 97), (1, vr X 0), (0, .ref b)] [vi r2]
  refine j_pop (pc' := 372) dL_law_371 rfl rfl ?_
  refine j_goto (tgt := 1430) dL_law_372 rfl ?_
  have F := Fr.tr (P := fun c => (fun c => (2 ≤ c ∧ c ≤ 6) ∨ c = 0 ∨ c = 96) c ∨ (fun c => c = 97 ∨ c = 98 ∨ c = 101) c) (Fr.tr Fr.rf f1 (fun c z => Or.inl z)) f2 (fun c z => Or.inr z)
  have k0_10 : M2 0 10 = M1 0 10 := congrFun (f2 0 (by first | decide | omega | (dsimp only; omega))) 10
  have k0_11 : M2 0 11 = M1 0 11 := congrFun (f2 0 (by first | decide | omega | (dsimp only; omega))) 11
  have k0_12 : M2 0 12 = M1 0 12 := congrFun (f2 0 (by first | decide | omega | (dsimp only; omega))) 12
  have k0_13 : M2 0 13 = M1 0 13 := congrFun (f2 0 (by first | decide | omega | (dsimp only; omega))) 13
  have k97_1 : M1 97 1 = M 97 1 := congrFun (f1 97 (by first | decide | omega | (dsimp only; omega))) 1
  have k97_10 : M1 97 10 = M 97 10 := congrFun (f1 97 (by first | decide | omega | (dsimp only; omega))) 10
  have k97_17 : M1 97 17 = M 97 17 := congrFun (f1 97 (by first | decide | omega | (dsimp only; omega))) 17
  have k97_33 : M1 97 33 = M 97 33 := congrFun (f1 97 (by first | decide | omega | (dsimp only; omega))) 33
  have k97_44 : M1 97 44 = M 97 44 := congrFun (f1 97 (by first | decide | omega | (dsimp only; omega))) 44
  obtain ⟨g1, g2, g3, g4, rf, ⟨g6a, g6b⟩, g7_⟩ := gr
  have k99_0 : M2 99 0 = M 99 0 := congrFun ((f2 99 (by first | decide | omega | (dsimp only; omega))).trans (f1 99 (by first | decide | omega | (dsimp only; omega)))) 0
  rw [(f1 101 (by first | decide | omega | (dsimp only; omega))), (f1 99 (by first | decide | omega | (dsimp only; omega)))] at p2
  obtain ⟨hrr, pb_⟩ := p1.2.1 r2 (M2 101) im2.2.1 p2.2.1
  have gr2 : GR M2 := GR.k ⟨g1, g2, g3, g4, rf, ⟨g6a, g6b⟩, g7_⟩ F (fun c z => by unfold inT; first | omega | (dsimp only at z; omega)) (G1.st pb_ f2 (fun c z => by unfold inT; first | omega | (dsimp only at z; omega)) k99_0.symm (E25.rf _) (fun j _ => congrFun ((f2 99 (by first | decide | omega | (dsimp only; omega))).trans (f1 99 (by first | decide | omega | (dsimp only; omega)))) _)) (G2.fr g2 ((f2 7 (by first | decide | omega | (dsimp only; omega))).trans (f1 7 (by first | decide | omega | (dsimp only; omega)))) (by omega) (by omega) (fun k _ _ => congrFun ((f2 99 (by first | decide | omega | (dsimp only; omega))).trans (f1 99 (by first | decide | omega | (dsimp only; omega)))) k)) (RFR.s2 rf (by omega) hrr k0_10 p1.2.2.1 p2.2.2.1 (f2 96 (by first | decide | omega | (dsimp only; omega))) p1.2.2.2 (f1 98 (by first | decide | omega | (dsimp only; omega))) p2.2.2.2) ⟨by omega, by omega⟩ (by omega)
  exact hk M2 hR2 ic2 im2 ⟨by unfold CR at cr ⊢; omega, wr2, gr2⟩
set_option maxHeartbeats 4000000 in
set_option maxRecDepth 100000 in
theorem law_c6 (X : Cx) (b L : Nat) (xs : Nat → Int32) (C N : Nat) (hC : C + 0 ≤ 600000) (hN : N + 0 ≤ 7302249) (i : Int) (M : Mm) (hR : Rg M) (ic : IC M) (im : IM M) (crx : CX M) (h0 : 0 ≤ i) (h1 : i + 7 ≤ L) (hL : L ≤ 3584) (hk : ∀ M' : Mm, Rg M' → IC M' → IM M' → CX M' → J X.1 RL cL_law 4 ret (ELW X M' b L xs) C N Zl 1430 [(3, vi i), (2, vr X 97), (1, vr X 0), (0, .ref b)] []) : J X.1 RL cL_law 4 ret (ELW X M b L xs) C N Zl 375 [(3, vi i), (2, vr X 97), (1, vr X 0), (0, .ref b)] [] := by
  have cr := crx.1
  have wr := crx.2.1
  have gr := crx.2.2
  have bb := ICb ic
  refine j_aload (pc' := 376) 2 dL_law_375 rfl rfl ?_
  refine j_aload (pc' := 377) 3 dL_law_376 rfl rfl ?_
  refine j_iload_n (pc' := 378) 0 dL_law_377 rfl rfl ?_
  refine j_iconst (pc' := 379) dL_law_378 rfl ?_
  refine j_iadd (pc' := 380) dL_law_379 rfl ?_
  refine w_sld (pc' := 381) dL_law_380 rfl (by omega) (by omega) ?_
  refine j_aload (pc' := 382) 3 dL_law_381 rfl rfl ?_
  refine j_iload_n (pc' := 383) 0 dL_law_382 rfl rfl ?_
  refine j_iconst (pc' := 384) dL_law_383 rfl ?_
  refine j_iadd (pc' := 385) dL_law_384 rfl ?_
  refine w_sld (pc' := 386) dL_law_385 rfl (by omega) (by omega) ?_
  refine j_aload (pc' := 387) 3 dL_law_386 rfl rfl ?_
  refine j_iload_n (pc' := 388) 0 dL_law_387 rfl rfl ?_
  refine j_iconst (pc' := 389) dL_law_388 rfl ?_
  refine j_iadd (pc' := 390) dL_law_389 rfl ?_
  refine w_sld (pc' := 391) dL_law_390 rfl (by omega) (by omega) ?_
  obtain ⟨ta, tb, P, Lq, F, Z, tv, pub⟩ := gr.1
  refine w_call hC hN hR (pc' := 394) (As := [vi (sx xs (i + 1)), vi (sx xs (i + 2)), vi (sx xs (i + 3))]) (o := 0) (S := []) dL_law_391 rfl m_L_42 w_X9_spoon (c_X9_spoon_x X M ic (sx xs (i + 1)) (sx_in xs (i + 1)) (sx xs (i + 2)) (sx_in xs (i + 2)) (sx xs (i + 3)) (sx_in xs (i + 3)) ta tb (M 99 0) P Lq F Z (M 101) (fun j => M 99 (4 + j)) tv pub) rfl ⟨_, _, _, rfl, rfl, rfl⟩ (Nat.le_of_ble_eq_true rfl) (Nat.le_of_ble_eq_true rfl) rfl (Nat.le_of_ble_eq_true rfl) (fun v M1 hq hR1 => ?_)
  obtain ⟨r1, rfl, ic1, f1, e1_0, e1_1, e1_2, e1_3, e1_4, e1_5, e1_6, e1_7, e1_8, e1_9, e1_10, e1_11, e1_12, e1_13, e1_14, e1_15, e1_16, e1_17, p1⟩ := hq
  have im1 : IM M1 := IM.fr im f1 (fun c z => by first | omega | (dsimp only at z; omega))
  have fd1 := frD (Fr.tr Fr.rf f1 fi_76)
  have wr1 : TR M1 := TR.fr wr (f1 32 (by decide)) (f1 106 (by decide)) (by omega) (by omega) (congrFun (f1 97 (by decide)) 17)
  show J X.1 RL cL_law 4 ret (ELW X M1 b L xs) C N Zl 394 [(3, vi i), (2, vr X 97), (1, vr X 0), (0, .ref b)] [vi r1]
  refine j_pop (pc' := 395) dL_law_394 rfl rfl ?_
  refine j_aload (pc' := 396) 1 dL_law_395 rfl rfl ?_
  refine j_aload (pc' := 397) 3 dL_law_396 rfl rfl ?_
  refine j_iload_n (pc' := 398) 0 dL_law_397 rfl rfl ?_
  refine j_iconst (pc' := 399) dL_law_398 rfl ?_
  refine j_iadd (pc' := 400) dL_law_399 rfl ?_
  refine w_sld (pc' := 401) dL_law_400 rfl (by omega) (by omega) ?_
  refine j_aload (pc' := 402) 3 dL_law_401 rfl rfl ?_
  refine j_iload_n (pc' := 403) 0 dL_law_402 rfl rfl ?_
  refine j_iconst (pc' := 404) dL_law_403 rfl ?_
  refine j_iadd (pc' := 405) dL_law_404 rfl ?_
  refine w_sld (pc' := 406) dL_law_405 rfl (by omega) (by omega) ?_
  refine j_aload (pc' := 407) 3 dL_law_406 rfl rfl ?_
  refine j_iload_n (pc' := 408) 0 dL_law_407 rfl rfl ?_
  refine j_iconst (pc' := 409) dL_law_408 rfl ?_
  refine j_iadd (pc' := 410) dL_law_409 rfl ?_
  refine w_sld (pc' := 411) dL_law_410 rfl (by omega) (by omega) ?_
  refine w_call hC hN hR1 (pc' := 414) (As := [vi (sx xs (i + 1)), vi (sx xs (i + 2)), vi (sx xs (i + 3))]) (o := 97) (S := []) dL_law_411 rfl m_L_45 w_X10_spoon (c_X10_spoon_x X M1 im1 (sx xs (i + 1)) (sx_in xs (i + 1)) (sx xs (i + 2)) (sx_in xs (i + 2)) (sx xs (i + 3)) (sx_in xs (i + 3))) rfl ⟨_, _, _, rfl, rfl, rfl⟩ (Nat.le_of_ble_eq_true rfl) (Nat.le_of_ble_eq_true rfl) rfl (Nat.le_of_ble_eq_true rfl) (fun v M2 hq hR2 => ?_)
  obtain ⟨r2, rfl, im2, f2, e2_0, e2_1, e2_2, e2_3, e2_4, e2_5, e2_6, e2_7, e2_8, e2_9, e2_10, e2_11, e2_12, e2_13, e2_14, e2_15, e2_16, e2_17, e2_18, p2⟩ := hq
  have ic2 : IC M2 := IC.fr ic1 f2 (fun c z => by unfold free isT; first | omega | (dsimp only at z; omega))
  have fd2 := frC (Fr.tr Fr.rf f2 fi_80)
  have wr2 : TR M2 := TR.fr wr1 (f2 32 (by decide)) (f2 106 (by decide)) (by omega) (congrFun (f2 0 (by decide)) 12) (by omega)
  show J X.1 RL cL_law 4 ret (ELW X M2 b L xs) C N Zl 414 [(3, vi i), (2, vr X 97), (1, vr X 0), (0, .ref b)] [vi r2]
  refine j_pop (pc' := 415) dL_law_414 rfl rfl ?_
  refine j_goto (tgt := 1430) dL_law_415 rfl ?_
  have F := Fr.tr (P := fun c => (fun c => (2 ≤ c ∧ c ≤ 6) ∨ c = 0 ∨ c = 96) c ∨ (fun c => c = 97 ∨ c = 98 ∨ c = 101 ∨ c = 104 ∨ c = 105) c) (Fr.tr Fr.rf f1 (fun c z => Or.inl z)) f2 (fun c z => Or.inr z)
  have k0_10 : M2 0 10 = M1 0 10 := congrFun (f2 0 (by first | decide | omega | (dsimp only; omega))) 10
  have k0_11 : M2 0 11 = M1 0 11 := congrFun (f2 0 (by first | decide | omega | (dsimp only; omega))) 11
  have k0_12 : M2 0 12 = M1 0 12 := congrFun (f2 0 (by first | decide | omega | (dsimp only; omega))) 12
  have k0_13 : M2 0 13 = M1 0 13 := congrFun (f2 0 (by first | decide | omega | (dsimp only; omega))) 13
  have k97_1 : M1 97 1 = M 97 1 := congrFun (f1 97 (by first | decide | omega | (dsimp only; omega))) 1
  have k97_10 : M1 97 10 = M 97 10 := congrFun (f1 97 (by first | decide | omega | (dsimp only; omega))) 10
  have k97_17 : M1 97 17 = M 97 17 := congrFun (f1 97 (by first | decide | omega | (dsimp only; omega))) 17
  have k97_33 : M1 97 33 = M 97 33 := congrFun (f1 97 (by first | decide | omega | (dsimp only; omega))) 33
  have k97_44 : M1 97 44 = M 97 44 := congrFun (f1 97 (by first | decide | omega | (dsimp only; omega))) 44
  obtain ⟨g1, g2, g3, g4, rf, ⟨g6a, g6b⟩, g7_⟩ := gr
  have k99_0 : M2 99 0 = M 99 0 := congrFun ((f2 99 (by first | decide | omega | (dsimp only; omega))).trans (f1 99 (by first | decide | omega | (dsimp only; omega)))) 0
  rw [(f1 101 (by first | decide | omega | (dsimp only; omega))), (f1 99 (by first | decide | omega | (dsimp only; omega)))] at p2
  obtain ⟨hrr, pb_⟩ := p1.2.1 r2 (M2 101) im2.2.1 p2.2.1
  have gr2 : GR M2 := GR.k ⟨g1, g2, g3, g4, rf, ⟨g6a, g6b⟩, g7_⟩ F (fun c z => by unfold inT; first | omega | (dsimp only at z; omega)) (G1.st pb_ f2 (fun c z => by unfold inT; first | omega | (dsimp only at z; omega)) k99_0.symm (E25.rf _) (fun j _ => congrFun ((f2 99 (by first | decide | omega | (dsimp only; omega))).trans (f1 99 (by first | decide | omega | (dsimp only; omega)))) _)) (G2.fr g2 ((f2 7 (by first | decide | omega | (dsimp only; omega))).trans (f1 7 (by first | decide | omega | (dsimp only; omega)))) (by omega) (by omega) (fun k _ _ => congrFun ((f2 99 (by first | decide | omega | (dsimp only; omega))).trans (f1 99 (by first | decide | omega | (dsimp only; omega)))) k)) (RFR.s2 rf (by omega) hrr k0_10 p1.2.2.1 p2.2.2.1 (f2 96 (by first | decide | omega | (dsimp only; omega))) p1.2.2.2 (f1 98 (by first | decide | omega | (dsimp only; omega))) p2.2.2.2) ⟨by omega, by omega⟩ (by omega)
  exact hk M2 hR2 ic2 im2 ⟨by unfold CR at cr ⊢; omega, wr2, gr2⟩
set_option maxHeartbeats 4000000 in
set_option maxRecDepth 100000 in
theorem law_c7 (X : Cx) (b L : Nat) (xs : Nat → Int32) (C N : Nat) (hC : C + 0 ≤ 600000) (hN : N + 0 ≤ 7302249) (i : Int) (M : Mm) (hR : Rg M) (ic : IC M) (im : IM M) (crx : CX M) (h0 : 0 ≤ i) (h1 : i + 7 ≤ L) (hL : L ≤ 3584) (hk : ∀ M' : Mm, Rg M' → IC M' → IM M' → CX M' → J X.1 RL cL_law 4 ret (ELW X M' b L xs) C N Zl 1430 [(3, vi i), (2, vr X 97), (1, vr X 0), (0, .ref b)] []) : J X.1 RL cL_law 4 ret (ELW X M b L xs) C N Zl 418 [(3, vi i), (2, vr X 97), (1, vr X 0), (0, .ref b)] [] := by
  have cr := crx.1
  have wr := crx.2.1
  have gr := crx.2.2
  have bb := ICb ic
  refine j_aload (pc' := 419) 2 dL_law_418 rfl rfl ?_
  refine j_aload (pc' := 420) 3 dL_law_419 rfl rfl ?_
  refine j_iload_n (pc' := 421) 0 dL_law_420 rfl rfl ?_
  refine j_iconst (pc' := 422) dL_law_421 rfl ?_
  refine j_iadd (pc' := 423) dL_law_422 rfl ?_
  refine w_sld (pc' := 424) dL_law_423 rfl (by omega) (by omega) ?_
  refine j_aload (pc' := 425) 3 dL_law_424 rfl rfl ?_
  refine j_iload_n (pc' := 426) 0 dL_law_425 rfl rfl ?_
  refine j_iconst (pc' := 427) dL_law_426 rfl ?_
  refine j_iadd (pc' := 428) dL_law_427 rfl ?_
  refine w_sld (pc' := 429) dL_law_428 rfl (by omega) (by omega) ?_
  obtain ⟨ta, tb, P, Lq, F, Z, tv, pub⟩ := gr.1
  refine w_call hC hN hR (pc' := 432) (As := [vi (sx xs (i + 1)), vi (sx xs (i + 2))]) (o := 0) (S := []) dL_law_429 rfl m_L_46 w_X9_lick (c_X9_lick_x X M ic (sx xs (i + 1)) (sx_in xs (i + 1)) (sx xs (i + 2)) (sx_in xs (i + 2)) ta tb (M 99 0) P Lq F Z (M 101) (fun j => M 99 (4 + j)) tv pub) rfl ⟨_, _, _, rfl, rfl, rfl⟩ (Nat.le_of_ble_eq_true rfl) (Nat.le_of_ble_eq_true rfl) rfl (Nat.le_of_ble_eq_true rfl) (fun v M1 hq hR1 => ?_)
  obtain ⟨r1, rfl, ic1, f1, e1_0, e1_1, e1_2, e1_3, e1_4, e1_5, e1_6, e1_7, e1_8, e1_9, e1_10, e1_11, e1_12, e1_13, e1_14, e1_15, e1_16, e1_17, p1⟩ := hq
  have im1 : IM M1 := IM.fr im f1 (fun c z => by first | omega | (dsimp only at z; omega))
  have fd1 := frD (Fr.tr Fr.rf f1 fi_76)
  have wr1 : TR M1 := TR.fr wr (f1 32 (by decide)) (f1 106 (by decide)) (by omega) (by omega) (congrFun (f1 97 (by decide)) 17)
  show J X.1 RL cL_law 4 ret (ELW X M1 b L xs) C N Zl 432 [(3, vi i), (2, vr X 97), (1, vr X 0), (0, .ref b)] [vi r1]
  refine j_pop (pc' := 433) dL_law_432 rfl rfl ?_
  refine j_aload (pc' := 434) 1 dL_law_433 rfl rfl ?_
  refine j_aload (pc' := 435) 3 dL_law_434 rfl rfl ?_
  refine j_iload_n (pc' := 436) 0 dL_law_435 rfl rfl ?_
  refine j_iconst (pc' := 437) dL_law_436 rfl ?_
  refine j_iadd (pc' := 438) dL_law_437 rfl ?_
  refine w_sld (pc' := 439) dL_law_438 rfl (by omega) (by omega) ?_
  refine j_aload (pc' := 440) 3 dL_law_439 rfl rfl ?_
  refine j_iload_n (pc' := 441) 0 dL_law_440 rfl rfl ?_
  refine j_iconst (pc' := 442) dL_law_441 rfl ?_
  refine j_iadd (pc' := 443) dL_law_442 rfl ?_
  refine w_sld (pc' := 444) dL_law_443 rfl (by omega) (by omega) ?_
  refine w_call hC hN hR1 (pc' := 447) (As := [vi (sx xs (i + 1)), vi (sx xs (i + 2))]) (o := 97) (S := []) dL_law_444 rfl m_L_49 w_X10_lick (c_X10_lick_x X M1 im1 (sx xs (i + 1)) (sx_in xs (i + 1)) (sx xs (i + 2)) (sx_in xs (i + 2))) rfl ⟨_, _, _, rfl, rfl, rfl⟩ (Nat.le_of_ble_eq_true rfl) (Nat.le_of_ble_eq_true rfl) rfl (Nat.le_of_ble_eq_true rfl) (fun v M2 hq hR2 => ?_)
  obtain ⟨r2, rfl, im2, f2, e2_0, e2_1, e2_2, e2_3, e2_4, e2_5, e2_6, e2_7, e2_8, e2_9, e2_10, e2_11, e2_12, e2_13, e2_14, e2_15, e2_16, e2_17, e2_18, p2⟩ := hq
  have ic2 : IC M2 := IC.fr ic1 f2 (fun c z => by unfold free isT; first | omega | (dsimp only at z; omega))
  have fd2 := frC (Fr.tr Fr.rf f2 fi_80)
  have wr2 : TR M2 := TR.fr wr1 (f2 32 (by decide)) (f2 106 (by decide)) (by omega) (congrFun (f2 0 (by decide)) 12) (by omega)
  show J X.1 RL cL_law 4 ret (ELW X M2 b L xs) C N Zl 447 [(3, vi i), (2, vr X 97), (1, vr X 0), (0, .ref b)] [vi r2]
  refine j_pop (pc' := 448) dL_law_447 rfl rfl ?_
  refine j_goto (tgt := 1430) dL_law_448 rfl ?_
  have F := Fr.tr (P := fun c => (fun c => (2 ≤ c ∧ c ≤ 6) ∨ c = 0 ∨ c = 96) c ∨ (fun c => c = 97 ∨ c = 98 ∨ c = 101 ∨ c = 104 ∨ c = 105) c) (Fr.tr Fr.rf f1 (fun c z => Or.inl z)) f2 (fun c z => Or.inr z)
  have k0_10 : M2 0 10 = M1 0 10 := congrFun (f2 0 (by first | decide | omega | (dsimp only; omega))) 10
  have k0_11 : M2 0 11 = M1 0 11 := congrFun (f2 0 (by first | decide | omega | (dsimp only; omega))) 11
  have k0_12 : M2 0 12 = M1 0 12 := congrFun (f2 0 (by first | decide | omega | (dsimp only; omega))) 12
  have k0_13 : M2 0 13 = M1 0 13 := congrFun (f2 0 (by first | decide | omega | (dsimp only; omega))) 13
  have k97_1 : M1 97 1 = M 97 1 := congrFun (f1 97 (by first | decide | omega | (dsimp only; omega))) 1
  have k97_10 : M1 97 10 = M 97 10 := congrFun (f1 97 (by first | decide | omega | (dsimp only; omega))) 10
  have k97_17 : M1 97 17 = M 97 17 := congrFun (f1 97 (by first | decide | omega | (dsimp only; omega))) 17
  have k97_33 : M1 97 33 = M 97 33 := congrFun (f1 97 (by first | decide | omega | (dsimp only; omega))) 33
  have k97_44 : M1 97 44 = M 97 44 := congrFun (f1 97 (by first | decide | omega | (dsimp only; omega))) 44
  obtain ⟨g1, g2, g3, g4, rf, ⟨g6a, g6b⟩, g7_⟩ := gr
  have k99_0 : M2 99 0 = M 99 0 := congrFun ((f2 99 (by first | decide | omega | (dsimp only; omega))).trans (f1 99 (by first | decide | omega | (dsimp only; omega)))) 0
  rw [(f1 101 (by first | decide | omega | (dsimp only; omega))), (f1 99 (by first | decide | omega | (dsimp only; omega)))] at p2
  obtain ⟨hrr, pb_⟩ := p1.2.1 r2 (M2 101) im2.2.1 p2.2.1
  have gr2 : GR M2 := GR.k ⟨g1, g2, g3, g4, rf, ⟨g6a, g6b⟩, g7_⟩ F (fun c z => by unfold inT; first | omega | (dsimp only at z; omega)) (G1.st pb_ f2 (fun c z => by unfold inT; first | omega | (dsimp only at z; omega)) k99_0.symm (E25.rf _) (fun j _ => congrFun ((f2 99 (by first | decide | omega | (dsimp only; omega))).trans (f1 99 (by first | decide | omega | (dsimp only; omega)))) _)) (G2.fr g2 ((f2 7 (by first | decide | omega | (dsimp only; omega))).trans (f1 7 (by first | decide | omega | (dsimp only; omega)))) (by omega) (by omega) (fun k _ _ => congrFun ((f2 99 (by first | decide | omega | (dsimp only; omega))).trans (f1 99 (by first | decide | omega | (dsimp only; omega)))) k)) (RFR.s2 rf (by omega) hrr k0_10 p1.2.2.1 p2.2.2.1 (f2 96 (by first | decide | omega | (dsimp only; omega))) p1.2.2.2 (f1 98 (by first | decide | omega | (dsimp only; omega))) p2.2.2.2) ⟨by omega, by omega⟩ (by omega)
  exact hk M2 hR2 ic2 im2 ⟨by unfold CR at cr ⊢; omega, wr2, gr2⟩
set_option maxHeartbeats 4000000 in
set_option maxRecDepth 100000 in
theorem law_c8 (X : Cx) (b L : Nat) (xs : Nat → Int32) (C N : Nat) (hC : C + 0 ≤ 600000) (hN : N + 0 ≤ 7302249) (i : Int) (M : Mm) (hR : Rg M) (ic : IC M) (im : IM M) (crx : CX M) (h0 : 0 ≤ i) (h1 : i + 7 ≤ L) (hL : L ≤ 3584) (hk : ∀ M' : Mm, Rg M' → IC M' → IM M' → CX M' → J X.1 RL cL_law 4 ret (ELW X M' b L xs) C N Zl 1430 [(3, vi i), (2, vr X 97), (1, vr X 0), (0, .ref b)] []) : J X.1 RL cL_law 4 ret (ELW X M b L xs) C N Zl 451 [(3, vi i), (2, vr X 97), (1, vr X 0), (0, .ref b)] [] := by
  have cr := crx.1
  have wr := crx.2.1
  have gr := crx.2.2
  have bb := ICb ic
  refine j_aload (pc' := 452) 2 dL_law_451 rfl rfl ?_
  refine j_aload (pc' := 453) 3 dL_law_452 rfl rfl ?_
  refine j_iload_n (pc' := 454) 0 dL_law_453 rfl rfl ?_
  refine j_iconst (pc' := 455) dL_law_454 rfl ?_
  refine j_iadd (pc' := 456) dL_law_455 rfl ?_
  refine w_sld (pc' := 457) dL_law_456 rfl (by omega) (by omega) ?_
  obtain ⟨ta, tb, P, Lq, F, Z, tv, pub⟩ := gr.1
  refine w_call hC hN hR (pc' := 460) (As := [vi (sx xs (i + 1))]) (o := 0) (S := []) dL_law_457 rfl m_L_50 w_X9_empty (c_X9_empty_x X M ic (sx xs (i + 1)) (sx_in xs (i + 1)) ta tb (M 99 0) P Lq F Z (M 101) (fun j => M 99 (4 + j)) tv pub) rfl ⟨_, _, _, rfl, rfl, rfl⟩ (Nat.le_of_ble_eq_true rfl) (Nat.le_of_ble_eq_true rfl) rfl (Nat.le_of_ble_eq_true rfl) (fun v M1 hq hR1 => ?_)
  obtain ⟨r1, rfl, ic1, f1, e1_0, e1_1, e1_2, e1_3, e1_4, e1_5, e1_6, e1_7, e1_8, e1_9, e1_10, e1_11, e1_12, e1_13, e1_14, e1_15, e1_16, e1_17, p1⟩ := hq
  have im1 : IM M1 := IM.fr im f1 (fun c z => by first | omega | (dsimp only at z; omega))
  have fd1 := frD (Fr.tr Fr.rf f1 fi_76)
  have wr1 : TR M1 := TR.fr wr (f1 32 (by decide)) (f1 106 (by decide)) (by omega) (by omega) (congrFun (f1 97 (by decide)) 17)
  show J X.1 RL cL_law 4 ret (ELW X M1 b L xs) C N Zl 460 [(3, vi i), (2, vr X 97), (1, vr X 0), (0, .ref b)] [vi r1]
  refine j_pop (pc' := 461) dL_law_460 rfl rfl ?_
  refine j_aload (pc' := 462) 1 dL_law_461 rfl rfl ?_
  refine j_aload (pc' := 463) 3 dL_law_462 rfl rfl ?_
  refine j_iload_n (pc' := 464) 0 dL_law_463 rfl rfl ?_
  refine j_iconst (pc' := 465) dL_law_464 rfl ?_
  refine j_iadd (pc' := 466) dL_law_465 rfl ?_
  refine w_sld (pc' := 467) dL_law_466 rfl (by omega) (by omega) ?_
  refine w_call hC hN hR1 (pc' := 470) (As := [vi (sx xs (i + 1))]) (o := 97) (S := []) dL_law_467 rfl m_L_53 w_X10_empty (c_X10_empty_x X M1 im1 (sx xs (i + 1)) (sx_in xs (i + 1))) rfl ⟨_, _, _, rfl, rfl, rfl⟩ (Nat.le_of_ble_eq_true rfl) (Nat.le_of_ble_eq_true rfl) rfl (Nat.le_of_ble_eq_true rfl) (fun v M2 hq hR2 => ?_)
  obtain ⟨r2, rfl, im2, f2, e2_0, e2_1, e2_2, e2_3, e2_4, e2_5, e2_6, e2_7, e2_8, e2_9, e2_10, e2_11, e2_12, e2_13, e2_14, e2_15, e2_16, e2_17, e2_18, p2⟩ := hq
  have ic2 : IC M2 := IC.fr ic1 f2 (fun c z => by unfold free isT; first | omega | (dsimp only at z; omega))
  have fd2 := frC (Fr.tr Fr.rf f2 fi_79)
  have wr2 : TR M2 := TR.fr wr1 (f2 32 (by decide)) (f2 106 (by decide)) (by omega) (congrFun (f2 0 (by decide)) 12) (by omega)
  show J X.1 RL cL_law 4 ret (ELW X M2 b L xs) C N Zl 470 [(3, vi i), (2, vr X 97), (1, vr X 0), (0, .ref b)] [vi r2]
  refine j_pop (pc' := 471) dL_law_470 rfl rfl ?_
  refine j_goto (tgt := 1430) dL_law_471 rfl ?_
  have F := Fr.tr (P := fun c => (fun c => (2 ≤ c ∧ c ≤ 6) ∨ c = 0 ∨ c = 96) c ∨ (fun c => c = 97 ∨ c = 98 ∨ c = 101) c) (Fr.tr Fr.rf f1 (fun c z => Or.inl z)) f2 (fun c z => Or.inr z)
  have k0_10 : M2 0 10 = M1 0 10 := congrFun (f2 0 (by first | decide | omega | (dsimp only; omega))) 10
  have k0_11 : M2 0 11 = M1 0 11 := congrFun (f2 0 (by first | decide | omega | (dsimp only; omega))) 11
  have k0_12 : M2 0 12 = M1 0 12 := congrFun (f2 0 (by first | decide | omega | (dsimp only; omega))) 12
  have k0_13 : M2 0 13 = M1 0 13 := congrFun (f2 0 (by first | decide | omega | (dsimp only; omega))) 13
  have k97_1 : M1 97 1 = M 97 1 := congrFun (f1 97 (by first | decide | omega | (dsimp only; omega))) 1
  have k97_10 : M1 97 10 = M 97 10 := congrFun (f1 97 (by first | decide | omega | (dsimp only; omega))) 10
  have k97_17 : M1 97 17 = M 97 17 := congrFun (f1 97 (by first | decide | omega | (dsimp only; omega))) 17
  have k97_33 : M1 97 33 = M 97 33 := congrFun (f1 97 (by first | decide | omega | (dsimp only; omega))) 33
  have k97_44 : M1 97 44 = M 97 44 := congrFun (f1 97 (by first | decide | omega | (dsimp only; omega))) 44
  obtain ⟨g1, g2, g3, g4, rf, ⟨g6a, g6b⟩, g7_⟩ := gr
  have k99_0 : M2 99 0 = M 99 0 := congrFun ((f2 99 (by first | decide | omega | (dsimp only; omega))).trans (f1 99 (by first | decide | omega | (dsimp only; omega)))) 0
  rw [(f1 101 (by first | decide | omega | (dsimp only; omega))), (f1 99 (by first | decide | omega | (dsimp only; omega)))] at p2
  obtain ⟨hrr, pb_⟩ := p1.2.1 r2 (M2 101) im2.2.1 p2.2.1
  have gr2 : GR M2 := GR.k ⟨g1, g2, g3, g4, rf, ⟨g6a, g6b⟩, g7_⟩ F (fun c z => by unfold inT; first | omega | (dsimp only at z; omega)) (G1.st pb_ f2 (fun c z => by unfold inT; first | omega | (dsimp only at z; omega)) k99_0.symm (E25.rf _) (fun j _ => congrFun ((f2 99 (by first | decide | omega | (dsimp only; omega))).trans (f1 99 (by first | decide | omega | (dsimp only; omega)))) _)) (G2.fr g2 ((f2 7 (by first | decide | omega | (dsimp only; omega))).trans (f1 7 (by first | decide | omega | (dsimp only; omega)))) (by omega) (by omega) (fun k _ _ => congrFun ((f2 99 (by first | decide | omega | (dsimp only; omega))).trans (f1 99 (by first | decide | omega | (dsimp only; omega)))) k)) (RFR.s2 rf (by omega) hrr k0_10 p1.2.2.1 p2.2.2.1 (f2 96 (by first | decide | omega | (dsimp only; omega))) p1.2.2.2 (f1 98 (by first | decide | omega | (dsimp only; omega))) p2.2.2.2) ⟨by omega, by omega⟩ (by omega)
  exact hk M2 hR2 ic2 im2 ⟨by unfold CR at cr ⊢; omega, wr2, gr2⟩
set_option maxHeartbeats 4000000 in
set_option maxRecDepth 100000 in
theorem law_c9 (X : Cx) (b L : Nat) (xs : Nat → Int32) (C N : Nat) (hC : C + 0 ≤ 600000) (hN : N + 0 ≤ 7302249) (i : Int) (M : Mm) (hR : Rg M) (ic : IC M) (im : IM M) (crx : CX M) (h0 : 0 ≤ i) (h1 : i + 7 ≤ L) (hL : L ≤ 3584) (hk : ∀ M' : Mm, Rg M' → IC M' → IM M' → CX M' → J X.1 RL cL_law 4 ret (ELW X M' b L xs) C N Zl 1430 [(3, vi i), (2, vr X 97), (1, vr X 0), (0, .ref b)] []) : J X.1 RL cL_law 4 ret (ELW X M b L xs) C N Zl 474 [(3, vi i), (2, vr X 97), (1, vr X 0), (0, .ref b)] [] := by
  have cr := crx.1
  have wr := crx.2.1
  have gr := crx.2.2
  have bb := ICb ic
  refine j_aload (pc' := 475) 2 dL_law_474 rfl rfl ?_
  refine j_aload (pc' := 476) 3 dL_law_475 rfl rfl ?_
  refine j_iload_n (pc' := 477) 0 dL_law_476 rfl rfl ?_
  refine j_iconst (pc' := 478) dL_law_477 rfl ?_
  refine j_iadd (pc' := 479) dL_law_478 rfl ?_
  refine w_sld (pc' := 480) dL_law_479 rfl (by omega) (by omega) ?_
  refine j_aload (pc' := 481) 3 dL_law_480 rfl rfl ?_
  refine j_iload_n (pc' := 482) 0 dL_law_481 rfl rfl ?_
  refine j_iconst (pc' := 483) dL_law_482 rfl ?_
  refine j_iadd (pc' := 484) dL_law_483 rfl ?_
  refine w_sld (pc' := 485) dL_law_484 rfl (by omega) (by omega) ?_
  refine j_aload (pc' := 486) 3 dL_law_485 rfl rfl ?_
  refine j_iload_n (pc' := 487) 0 dL_law_486 rfl rfl ?_
  refine j_iconst (pc' := 488) dL_law_487 rfl ?_
  refine j_iadd (pc' := 489) dL_law_488 rfl ?_
  refine w_sld (pc' := 490) dL_law_489 rfl (by omega) (by omega) ?_
  refine j_aload (pc' := 491) 3 dL_law_490 rfl rfl ?_
  refine j_iload_n (pc' := 492) 0 dL_law_491 rfl rfl ?_
  refine j_iconst (pc' := 493) dL_law_492 rfl ?_
  refine j_iadd (pc' := 494) dL_law_493 rfl ?_
  refine w_sld (pc' := 495) dL_law_494 rfl (by omega) (by omega) ?_
  refine j_aload (pc' := 496) 3 dL_law_495 rfl rfl ?_
  refine j_iload_n (pc' := 497) 0 dL_law_496 rfl rfl ?_
  refine j_iconst (pc' := 498) dL_law_497 rfl ?_
  refine j_iadd (pc' := 499) dL_law_498 rfl ?_
  refine w_sld (pc' := 500) dL_law_499 rfl (by omega) (by omega) ?_
  refine w_call hC hN hR (pc' := 503) (As := [vi (sx xs (i + 1)), vi (sx xs (i + 2)), vi (sx xs (i + 3)), vi (sx xs (i + 4)), vi (sx xs (i + 5))]) (o := 0) (S := []) dL_law_500 rfl m_L_54 w_X9_feed (c_X9_feed_x X M ic (sx xs (i + 1)) (sx_in xs (i + 1)) (sx xs (i + 2)) (sx_in xs (i + 2)) (sx xs (i + 3)) (sx_in xs (i + 3)) (sx xs (i + 4)) (sx_in xs (i + 4)) (sx xs (i + 5)) (sx_in xs (i + 5))) rfl ⟨_, _, _, rfl, rfl, rfl⟩ (Nat.le_of_ble_eq_true rfl) (Nat.le_of_ble_eq_true rfl) rfl (Nat.le_of_ble_eq_true rfl) (fun v M1 hq hR1 => ?_)
  obtain ⟨r1, rfl, ic1, f1, e1_0, e1_1, e1_2, e1_3, e1_4, e1_5, e1_6, e1_7, e1_8, e1_9, e1_10, e1_11, e1_12, e1_13, e1_14, e1_15, e1_16, e1_17, p1⟩ := hq
  have im1 : IM M1 := IM.fr im f1 (fun c z => by first | omega | (dsimp only at z; omega))
  have fd1 := frD (Fr.tr Fr.rf f1 fi_81)
  have x1 := p1.2
  replace p1 := p1.1
  show J X.1 RL cL_law 4 ret (ELW X M1 b L xs) C N Zl 503 [(3, vi i), (2, vr X 97), (1, vr X 0), (0, .ref b)] [vi r1]
  refine j_pop (pc' := 504) dL_law_503 rfl rfl ?_
  refine j_aload (pc' := 505) 1 dL_law_504 rfl rfl ?_
  refine j_aload (pc' := 506) 3 dL_law_505 rfl rfl ?_
  refine j_iload_n (pc' := 507) 0 dL_law_506 rfl rfl ?_
  refine j_iconst (pc' := 508) dL_law_507 rfl ?_
  refine j_iadd (pc' := 509) dL_law_508 rfl ?_
  refine w_sld (pc' := 510) dL_law_509 rfl (by omega) (by omega) ?_
  refine j_aload (pc' := 511) 3 dL_law_510 rfl rfl ?_
  refine j_iload_n (pc' := 512) 0 dL_law_511 rfl rfl ?_
  refine j_iconst (pc' := 513) dL_law_512 rfl ?_
  refine j_iadd (pc' := 514) dL_law_513 rfl ?_
  refine w_sld (pc' := 515) dL_law_514 rfl (by omega) (by omega) ?_
  refine j_aload (pc' := 516) 3 dL_law_515 rfl rfl ?_
  refine j_iload_n (pc' := 517) 0 dL_law_516 rfl rfl ?_
  refine j_iconst (pc' := 518) dL_law_517 rfl ?_
  refine j_iadd (pc' := 519) dL_law_518 rfl ?_
  refine w_sld (pc' := 520) dL_law_519 rfl (by omega) (by omega) ?_
  refine j_aload (pc' := 521) 3 dL_law_520 rfl rfl ?_
  refine j_iload_n (pc' := 522) 0 dL_law_521 rfl rfl ?_
  refine j_iconst (pc' := 523) dL_law_522 rfl ?_
  refine j_iadd (pc' := 524) dL_law_523 rfl ?_
  refine w_sld (pc' := 525) dL_law_524 rfl (by omega) (by omega) ?_
  refine j_aload (pc' := 526) 3 dL_law_525 rfl rfl ?_
  refine j_iload_n (pc' := 527) 0 dL_law_526 rfl rfl ?_
  refine j_iconst (pc' := 528) dL_law_527 rfl ?_
  refine j_iadd (pc' := 529) dL_law_528 rfl ?_
  refine w_sld (pc' := 530) dL_law_529 rfl (by omega) (by omega) ?_
  refine w_call hC hN hR1 (pc' := 533) (As := [vi (sx xs (i + 1)), vi (sx xs (i + 2)), vi (sx xs (i + 3)), vi (sx xs (i + 4)), vi (sx xs (i + 5))]) (o := 97) (S := []) dL_law_530 rfl m_L_58 w_X10_feed (c_X10_feed_x X M1 im1 (sx xs (i + 1)) (sx_in xs (i + 1)) (sx xs (i + 2)) (sx_in xs (i + 2)) (sx xs (i + 3)) (sx_in xs (i + 3)) (sx xs (i + 4)) (sx_in xs (i + 4)) (sx xs (i + 5)) (sx_in xs (i + 5))) rfl ⟨_, _, _, rfl, rfl, rfl⟩ (Nat.le_of_ble_eq_true rfl) (Nat.le_of_ble_eq_true rfl) rfl (Nat.le_of_ble_eq_true rfl) (fun v M2 hq hR2 => ?_)
  obtain ⟨r2, rfl, im2, f2, e2_0, e2_1, e2_2, e2_3, e2_4, e2_5, e2_6, e2_7, e2_8, e2_9, e2_10, e2_11, e2_12, e2_13, e2_14, e2_15, e2_16, e2_17, e2_18, p2⟩ := hq
  have ic2 : IC M2 := IC.fr ic1 f2 (fun c z => by unfold free isT; first | omega | (dsimp only at z; omega))
  have fd2 := frC (Fr.tr Fr.rf f2 fi_82)
  have x2 := p2.2
  replace p2 := p2.1
  show J X.1 RL cL_law 4 ret (ELW X M2 b L xs) C N Zl 533 [(3, vi i), (2, vr X 97), (1, vr X 0), (0, .ref b)] [vi r2]
  refine j_pop (pc' := 534) dL_law_533 rfl rfl ?_
  refine j_goto (tgt := 1430) dL_law_534 rfl ?_
  have F := Fr.tr (P := fun c => (fun c => c = 31 ∨ c = 32) c ∨ (fun c => c = 97 ∨ c = 106) c) (Fr.tr Fr.rf f1 (fun c z => Or.inl z)) f2 (fun c z => Or.inr z)
  have k0_10 : M2 0 10 = M1 0 10 := congrFun (f2 0 (by first | decide | omega | (dsimp only; omega))) 10
  have k0_11 : M2 0 11 = M1 0 11 := congrFun (f2 0 (by first | decide | omega | (dsimp only; omega))) 11
  have k0_12 : M2 0 12 = M1 0 12 := congrFun (f2 0 (by first | decide | omega | (dsimp only; omega))) 12
  have k0_13 : M2 0 13 = M1 0 13 := congrFun (f2 0 (by first | decide | omega | (dsimp only; omega))) 13
  have k97_1 : M1 97 1 = M 97 1 := congrFun (f1 97 (by first | decide | omega | (dsimp only; omega))) 1
  have k97_10 : M1 97 10 = M 97 10 := congrFun (f1 97 (by first | decide | omega | (dsimp only; omega))) 10
  have k97_17 : M1 97 17 = M 97 17 := congrFun (f1 97 (by first | decide | omega | (dsimp only; omega))) 17
  have k97_33 : M1 97 33 = M 97 33 := congrFun (f1 97 (by first | decide | omega | (dsimp only; omega))) 33
  have k97_44 : M1 97 44 = M 97 44 := congrFun (f1 97 (by first | decide | omega | (dsimp only; omega))) 44
  obtain ⟨g1, g2, g3, g4, rf, ⟨g6a, g6b⟩, g7_⟩ := gr
  have k99_0 : M2 99 0 = M 99 0 := congrFun ((f2 99 (by first | decide | omega | (dsimp only; omega))).trans (f1 99 (by first | decide | omega | (dsimp only; omega)))) 0
  have gr2 : GR M2 := GR.k ⟨g1, g2, g3, g4, rf, ⟨g6a, g6b⟩, g7_⟩ F (fun c z => by unfold inT; first | omega | (dsimp only at z; omega)) (G1.fr g1 F (fun c z => by unfold inT; first | omega | (dsimp only at z; omega)) k99_0 (fun k _ _ => congrFun ((f2 99 (by first | decide | omega | (dsimp only; omega))).trans (f1 99 (by first | decide | omega | (dsimp only; omega)))) k) (fun j _ => congrFun ((f2 101 (by first | decide | omega | (dsimp only; omega))).trans (f1 101 (by first | decide | omega | (dsimp only; omega)))) j)) (G2.fr g2 ((f2 7 (by first | decide | omega | (dsimp only; omega))).trans (f1 7 (by first | decide | omega | (dsimp only; omega)))) (by omega) (by omega) (fun k _ _ => congrFun ((f2 99 (by first | decide | omega | (dsimp only; omega))).trans (f1 99 (by first | decide | omega | (dsimp only; omega)))) k)) (RFR.fr rf (by omega) (by omega) ((f2 96 (by first | decide | omega | (dsimp only; omega))).trans (f1 96 (by first | decide | omega | (dsimp only; omega)))) ((f2 98 (by first | decide | omega | (dsimp only; omega))).trans (f1 98 (by first | decide | omega | (dsimp only; omega))))) ⟨by omega, by omega⟩ (by omega)
  have wrF : TR M2 := TR.feed wr (by unfold CR at cr; omega) (by omega) x1 x2 (f1 106 (by decide)) (f2 32 (by decide)) (by omega) (fun z => by omega) (fun z => by omega) ((congrFun (f2 0 (by decide)) 12).trans (by omega)) ((show M2 97 17 = M1 97 17 by omega).trans (congrFun (f1 97 (by decide)) 17))
  exact hk M2 hR2 ic2 im2 ⟨by unfold CR at cr ⊢; omega, wrF, gr2⟩
set_option maxHeartbeats 4000000 in
set_option maxRecDepth 100000 in
theorem law_c10 (X : Cx) (b L : Nat) (xs : Nat → Int32) (C N : Nat) (hC : C + 0 ≤ 600000) (hN : N + 0 ≤ 7302249) (i : Int) (M : Mm) (hR : Rg M) (ic : IC M) (im : IM M) (crx : CX M) (h0 : 0 ≤ i) (h1 : i + 7 ≤ L) (hL : L ≤ 3584) (hk : ∀ M' : Mm, Rg M' → IC M' → IM M' → CX M' → J X.1 RL cL_law 4 ret (ELW X M' b L xs) C N Zl 1430 [(3, vi i), (2, vr X 97), (1, vr X 0), (0, .ref b)] []) : J X.1 RL cL_law 4 ret (ELW X M b L xs) C N Zl 537 [(3, vi i), (2, vr X 97), (1, vr X 0), (0, .ref b)] [] := by
  have cr := crx.1
  have wr := crx.2.1
  have gr := crx.2.2
  have bb := ICb ic
  refine j_aload (pc' := 538) 2 dL_law_537 rfl rfl ?_
  refine j_aload (pc' := 539) 3 dL_law_538 rfl rfl ?_
  refine j_iload_n (pc' := 540) 0 dL_law_539 rfl rfl ?_
  refine j_iconst (pc' := 541) dL_law_540 rfl ?_
  refine j_iadd (pc' := 542) dL_law_541 rfl ?_
  refine w_sld (pc' := 543) dL_law_542 rfl (by omega) (by omega) ?_
  refine w_call hC hN hR (pc' := 546) (As := [vi (sx xs (i + 1))]) (o := 0) (S := []) dL_law_543 rfl m_L_59 w_X9_end (c_X9_end X M ic (sx xs (i + 1)) (sx_in xs (i + 1))) rfl ⟨_, _, _, rfl, rfl, rfl⟩ (Nat.le_of_ble_eq_true rfl) (Nat.le_of_ble_eq_true rfl) rfl (Nat.le_of_ble_eq_true rfl) (fun v M1 hq hR1 => ?_)
  obtain ⟨r1, rfl, ic1, f1, e1_0, e1_1, e1_2, e1_3, e1_4, e1_5, e1_6, e1_7, e1_8, e1_9, e1_10, e1_11, e1_12, e1_13, e1_14, e1_15, e1_16, e1_17, p1⟩ := hq
  have im1 : IM M1 := IM.fr im f1 (fun c z => by first | omega | (dsimp only at z; omega))
  have fd1 := frD (Fr.tr Fr.rf f1 fi_83)
  have wr1 : TR M1 := TR.fr wr (f1 32 (by decide)) (f1 106 (by decide)) (by omega) (by omega) (congrFun (f1 97 (by decide)) 17)
  show J X.1 RL cL_law 4 ret (ELW X M1 b L xs) C N Zl 546 [(3, vi i), (2, vr X 97), (1, vr X 0), (0, .ref b)] [vi r1]
  refine j_pop (pc' := 547) dL_law_546 rfl rfl ?_
  refine j_aload (pc' := 548) 1 dL_law_547 rfl rfl ?_
  refine j_aload (pc' := 549) 3 dL_law_548 rfl rfl ?_
  refine j_iload_n (pc' := 550) 0 dL_law_549 rfl rfl ?_
  refine j_iconst (pc' := 551) dL_law_550 rfl ?_
  refine j_iadd (pc' := 552) dL_law_551 rfl ?_
  refine w_sld (pc' := 553) dL_law_552 rfl (by omega) (by omega) ?_
  refine w_call hC hN hR1 (pc' := 556) (As := [vi (sx xs (i + 1))]) (o := 97) (S := []) dL_law_553 rfl m_L_62 w_X10_end (c_X10_end X M1 im1 (sx xs (i + 1)) (sx_in xs (i + 1))) rfl ⟨_, _, _, rfl, rfl, rfl⟩ (Nat.le_of_ble_eq_true rfl) (Nat.le_of_ble_eq_true rfl) rfl (Nat.le_of_ble_eq_true rfl) (fun v M2 hq hR2 => ?_)
  obtain ⟨r2, rfl, im2, f2, e2_0, e2_1, e2_2, e2_3, e2_4, e2_5, e2_6, e2_7, e2_8, e2_9, e2_10, e2_11, e2_12, e2_13, e2_14, e2_15, e2_16, e2_17, e2_18, p2⟩ := hq
  have ic2 : IC M2 := IC.fr ic1 f2 (fun c z => by unfold free isT; first | omega | (dsimp only at z; omega))
  have fd2 := frC (Fr.tr Fr.rf f2 fi_78)
  have wr2 : TR M2 := TR.fr wr1 (f2 32 (by decide)) (f2 106 (by decide)) (by omega) (congrFun (f2 0 (by decide)) 12) (by omega)
  show J X.1 RL cL_law 4 ret (ELW X M2 b L xs) C N Zl 556 [(3, vi i), (2, vr X 97), (1, vr X 0), (0, .ref b)] [vi r2]
  refine j_pop (pc' := 557) dL_law_556 rfl rfl ?_
  refine j_goto (tgt := 1430) dL_law_557 rfl ?_
  have F := Fr.tr (P := fun c => (fun c => c = 31) c ∨ (fun c => c = 97) c) (Fr.tr Fr.rf f1 (fun c z => Or.inl z)) f2 (fun c z => Or.inr z)
  have k0_10 : M2 0 10 = M1 0 10 := congrFun (f2 0 (by first | decide | omega | (dsimp only; omega))) 10
  have k0_11 : M2 0 11 = M1 0 11 := congrFun (f2 0 (by first | decide | omega | (dsimp only; omega))) 11
  have k0_12 : M2 0 12 = M1 0 12 := congrFun (f2 0 (by first | decide | omega | (dsimp only; omega))) 12
  have k0_13 : M2 0 13 = M1 0 13 := congrFun (f2 0 (by first | decide | omega | (dsimp only; omega))) 13
  have k97_1 : M1 97 1 = M 97 1 := congrFun (f1 97 (by first | decide | omega | (dsimp only; omega))) 1
  have k97_10 : M1 97 10 = M 97 10 := congrFun (f1 97 (by first | decide | omega | (dsimp only; omega))) 10
  have k97_17 : M1 97 17 = M 97 17 := congrFun (f1 97 (by first | decide | omega | (dsimp only; omega))) 17
  have k97_33 : M1 97 33 = M 97 33 := congrFun (f1 97 (by first | decide | omega | (dsimp only; omega))) 33
  have k97_44 : M1 97 44 = M 97 44 := congrFun (f1 97 (by first | decide | omega | (dsimp only; omega))) 44
  obtain ⟨g1, g2, g3, g4, rf, ⟨g6a, g6b⟩, g7_⟩ := gr
  have k99_0 : M2 99 0 = M 99 0 := congrFun ((f2 99 (by first | decide | omega | (dsimp only; omega))).trans (f1 99 (by first | decide | omega | (dsimp only; omega)))) 0
  have gr2 : GR M2 := GR.k ⟨g1, g2, g3, g4, rf, ⟨g6a, g6b⟩, g7_⟩ F (fun c z => by unfold inT; first | omega | (dsimp only at z; omega)) (G1.fr g1 F (fun c z => by unfold inT; first | omega | (dsimp only at z; omega)) k99_0 (fun k _ _ => congrFun ((f2 99 (by first | decide | omega | (dsimp only; omega))).trans (f1 99 (by first | decide | omega | (dsimp only; omega)))) k) (fun j _ => congrFun ((f2 101 (by first | decide | omega | (dsimp only; omega))).trans (f1 101 (by first | decide | omega | (dsimp only; omega)))) j)) (G2.fr g2 ((f2 7 (by first | decide | omega | (dsimp only; omega))).trans (f1 7 (by first | decide | omega | (dsimp only; omega)))) (by omega) (by omega) (fun k _ _ => congrFun ((f2 99 (by first | decide | omega | (dsimp only; omega))).trans (f1 99 (by first | decide | omega | (dsimp only; omega)))) k)) (RFR.fr rf (by omega) (by omega) ((f2 96 (by first | decide | omega | (dsimp only; omega))).trans (f1 96 (by first | decide | omega | (dsimp only; omega)))) ((f2 98 (by first | decide | omega | (dsimp only; omega))).trans (f1 98 (by first | decide | omega | (dsimp only; omega))))) ⟨by omega, by omega⟩ (by omega)
  exact hk M2 hR2 ic2 im2 ⟨by unfold CR at cr ⊢; omega, wr2, gr2⟩
set_option maxHeartbeats 4000000 in
set_option maxRecDepth 100000 in
theorem law_c11 (X : Cx) (b L : Nat) (xs : Nat → Int32) (C N : Nat) (hC : C + 0 ≤ 600000) (hN : N + 0 ≤ 7302249) (i : Int) (M : Mm) (hR : Rg M) (ic : IC M) (im : IM M) (crx : CX M) (h0 : 0 ≤ i) (h1 : i + 7 ≤ L) (hL : L ≤ 3584) (hk : ∀ M' : Mm, Rg M' → IC M' → IM M' → CX M' → J X.1 RL cL_law 4 ret (ELW X M' b L xs) C N Zl 1430 [(3, vi i), (2, vr X 97), (1, vr X 0), (0, .ref b)] []) : J X.1 RL cL_law 4 ret (ELW X M b L xs) C N Zl 560 [(3, vi i), (2, vr X 97), (1, vr X 0), (0, .ref b)] [] := by
  have cr := crx.1
  have wr := crx.2.1
  have gr := crx.2.2
  have bb := ICb ic
  refine j_aload (pc' := 561) 2 dL_law_560 rfl rfl ?_
  obtain ⟨ta, tb, P, Lq, F, Z, tv, pub⟩ := gr.1
  refine w_call hC hN hR (pc' := 564) (As := []) (o := 0) (S := []) dL_law_561 rfl m_L_63 w_X9_row (c_X9_row_x X M ic ta tb (M 99 0) P Lq F Z (M 101) (fun j => M 99 (4 + j)) tv pub) rfl ⟨_, _, _, rfl, rfl, rfl⟩ (Nat.le_of_ble_eq_true rfl) (Nat.le_of_ble_eq_true rfl) rfl (Nat.le_of_ble_eq_true rfl) (fun v M1 hq hR1 => ?_)
  obtain ⟨r1, rfl, ic1, f1, e1_0, e1_1, e1_2, e1_3, e1_4, e1_5, e1_6, e1_7, e1_8, e1_9, e1_10, e1_11, e1_12, e1_13, e1_14, e1_15, p1⟩ := hq
  have im1 : IM M1 := IM.fr im f1 (fun c z => by first | omega | (dsimp only at z; omega))
  have fd1 := frD (Fr.tr Fr.rf f1 fi_84)
  obtain ⟨ra1, mm1, rq1, pb1, z31, n0_, a0_⟩ := p1
  have wr1 : TR M1 := TR.fr wr (f1 32 (by decide)) (f1 106 (by decide)) (by omega) (by omega) (congrFun (f1 97 (by decide)) 17)
  show J X.1 RL cL_law 4 ret (ELW X M1 b L xs) C N Zl 564 [(3, vi i), (2, vr X 97), (1, vr X 0), (0, .ref b)] [vi r1]
  refine j_pop (pc' := 565) dL_law_564 rfl rfl ?_
  refine j_aload (pc' := 566) 1 dL_law_565 rfl rfl ?_
  refine w_call hC hN hR1 (pc' := 569) (As := []) (o := 97) (S := []) dL_law_566 rfl m_L_67 w_X10_row (c_X10_row_x X M1 im1) rfl ⟨_, _, _, rfl, rfl, rfl⟩ (Nat.le_of_ble_eq_true rfl) (Nat.le_of_ble_eq_true rfl) rfl (Nat.le_of_ble_eq_true rfl) (fun v M2 hq hR2 => ?_)
  obtain ⟨r2, rfl, im2, f2, e2_0, e2_1, e2_2, e2_3, e2_4, e2_5, e2_6, e2_7, e2_8, e2_9, e2_10, e2_11, e2_12, e2_13, e2_14, e2_15, e2_16, p2⟩ := hq
  have ic2 : IC M2 := IC.fr ic1 f2 (fun c z => by unfold free isT; first | omega | (dsimp only at z; omega))
  have fd2 := frC (Fr.tr Fr.rf f2 fi_79)
  have z12 := p2.2.2.1
  have wr2 : TR M2 := TR.fr wr1 (f2 32 (by decide)) (f2 106 (by decide)) (by omega) (congrFun (f2 0 (by decide)) 12) (by omega)
  show J X.1 RL cL_law 4 ret (ELW X M2 b L xs) C N Zl 569 [(3, vi i), (2, vr X 97), (1, vr X 0), (0, .ref b)] [vi r2]
  refine j_pop (pc' := 570) dL_law_569 rfl rfl ?_
  refine j_goto (tgt := 1430) dL_law_570 rfl ?_
  have F := Fr.tr (P := fun c => (fun c => (2 ≤ c ∧ c ≤ 6) ∨ c = 31 ∨ c = 0 ∨ c = 96) c ∨ (fun c => c = 97 ∨ c = 98 ∨ c = 101) c) (Fr.tr Fr.rf f1 (fun c z => Or.inl z)) f2 (fun c z => Or.inr z)
  have k0_10 : M2 0 10 = M1 0 10 := congrFun (f2 0 (by first | decide | omega | (dsimp only; omega))) 10
  have k0_11 : M2 0 11 = M1 0 11 := congrFun (f2 0 (by first | decide | omega | (dsimp only; omega))) 11
  have k0_12 : M2 0 12 = M1 0 12 := congrFun (f2 0 (by first | decide | omega | (dsimp only; omega))) 12
  have k0_13 : M2 0 13 = M1 0 13 := congrFun (f2 0 (by first | decide | omega | (dsimp only; omega))) 13
  have k97_1 : M1 97 1 = M 97 1 := congrFun (f1 97 (by first | decide | omega | (dsimp only; omega))) 1
  have k97_10 : M1 97 10 = M 97 10 := congrFun (f1 97 (by first | decide | omega | (dsimp only; omega))) 10
  have k97_17 : M1 97 17 = M 97 17 := congrFun (f1 97 (by first | decide | omega | (dsimp only; omega))) 17
  have k97_33 : M1 97 33 = M 97 33 := congrFun (f1 97 (by first | decide | omega | (dsimp only; omega))) 33
  have k97_44 : M1 97 44 = M 97 44 := congrFun (f1 97 (by first | decide | omega | (dsimp only; omega))) 44
  obtain ⟨g1, g2, g3, g4, rf, ⟨g6a, g6b⟩, g7_⟩ := gr
  have k99_0 : M2 99 0 = M 99 0 := congrFun ((f2 99 (by first | decide | omega | (dsimp only; omega))).trans (f1 99 (by first | decide | omega | (dsimp only; omega)))) 0
  obtain ⟨hrr, hs_, gg1⟩ := GR.row rq1 pb1 p2.2.1 (f1 99 (by first | decide | omega | (dsimp only; omega))) (f1 101 (by first | decide | omega | (dsimp only; omega))) (f1 106 (by first | decide | omega | (dsimp only; omega))) (by unfold CR at cr; omega) (by omega) crx.2.1 f2 (fun c z => by unfold inT; first | omega | (dsimp only at z; omega)) (f2 99 (by first | decide | omega | (dsimp only; omega)))
  have gr2 : GR M2 := GR.k ⟨g1, g2, g3, g4, rf, ⟨g6a, g6b⟩, g7_⟩ F (fun c z => by unfold inT; first | omega | (dsimp only at z; omega)) gg1 (G2.fr g2 ((f2 7 (by first | decide | omega | (dsimp only; omega))).trans (f1 7 (by first | decide | omega | (dsimp only; omega)))) (by omega) (by omega) (fun k _ _ => congrFun ((f2 99 (by first | decide | omega | (dsimp only; omega))).trans (f1 99 (by first | decide | omega | (dsimp only; omega)))) k)) (RFR.s2 rf p2.1.1 hrr k0_10 n0_ p2.2.2.2.1 (f2 96 (by first | decide | omega | (dsimp only; omega))) a0_ (f1 98 (by first | decide | omega | (dsimp only; omega))) p2.2.2.2.2) ⟨by omega, by omega⟩ (by omega)
  exact hk M2 hR2 ic2 im2 ⟨by unfold CR at cr ⊢; omega, wr2, gr2⟩
set_option maxHeartbeats 4000000 in
set_option maxRecDepth 100000 in
theorem law_c12 (X : Cx) (b L : Nat) (xs : Nat → Int32) (C N : Nat) (hC : C + 0 ≤ 600000) (hN : N + 0 ≤ 7302249) (i : Int) (M : Mm) (hR : Rg M) (ic : IC M) (im : IM M) (crx : CX M) (h0 : 0 ≤ i) (h1 : i + 7 ≤ L) (hL : L ≤ 3584) (hk : ∀ M' : Mm, Rg M' → IC M' → IM M' → CX M' → J X.1 RL cL_law 4 ret (ELW X M' b L xs) C N Zl 1430 [(3, vi i), (2, vr X 97), (1, vr X 0), (0, .ref b)] []) : J X.1 RL cL_law 4 ret (ELW X M b L xs) C N Zl 573 [(3, vi i), (2, vr X 97), (1, vr X 0), (0, .ref b)] [] := by
  have cr := crx.1
  have wr := crx.2.1
  have gr := crx.2.2
  have bb := ICb ic
  refine j_aload (pc' := 574) 2 dL_law_573 rfl rfl ?_
  refine w_call hC hN hR (pc' := 577) (As := []) (o := 0) (S := []) dL_law_574 rfl m_L_68 w_X9_spilt (c_X9_spilt_x X M ic) rfl ⟨_, _, _, rfl, rfl, rfl⟩ (Nat.le_of_ble_eq_true rfl) (Nat.le_of_ble_eq_true rfl) rfl (Nat.le_of_ble_eq_true rfl) (fun v M1 hq hR1 => ?_)
  obtain ⟨r1, rfl, e1, p1⟩ := hq
  rw [e1]
  show J X.1 RL cL_law 4 ret (ELW X M b L xs) C N Zl 577 [(3, vi i), (2, vr X 97), (1, vr X 0), (0, .ref b)] [vi r1]
  refine j_pop (pc' := 578) dL_law_577 rfl rfl ?_
  refine j_aload (pc' := 579) 1 dL_law_578 rfl rfl ?_
  refine w_call hC hN hR (pc' := 582) (As := []) (o := 97) (S := []) dL_law_579 rfl m_L_71 w_X10_spilt (c_X10_spilt_x X M im) rfl ⟨_, _, _, rfl, rfl, rfl⟩ (Nat.le_of_ble_eq_true rfl) (Nat.le_of_ble_eq_true rfl) rfl (Nat.le_of_ble_eq_true rfl) (fun v M2 hq hR2 => ?_)
  obtain ⟨r2, rfl, im2, f2, e2_0, e2_1, e2_2, e2_3, e2_4, e2_5, e2_6, e2_7, e2_8, e2_9, e2_10, e2_11, e2_12, e2_13, e2_14, e2_15, e2_16, e2_17, e2_18, e2_19, p2⟩ := hq
  have ic2 : IC M2 := IC.fr ic f2 (fun c z => by unfold free isT; first | omega | (dsimp only at z; omega))
  have fd2 := frC (Fr.tr Fr.rf f2 fi_78)
  have wr2 : TR M2 := TR.fr wr (f2 32 (by decide)) (f2 106 (by decide)) (by omega) (congrFun (f2 0 (by decide)) 12) (by omega)
  show J X.1 RL cL_law 4 ret (ELW X M2 b L xs) C N Zl 582 [(3, vi i), (2, vr X 97), (1, vr X 0), (0, .ref b)] [vi r2]
  refine j_pop (pc' := 583) dL_law_582 rfl rfl ?_
  refine j_goto (tgt := 1430) dL_law_583 rfl ?_
  have F := f2
  have k0_10 : M2 0 10 = M 0 10 := congrFun (f2 0 (by first | decide | omega | (dsimp only; omega))) 10
  have k0_11 : M2 0 11 = M 0 11 := congrFun (f2 0 (by first | decide | omega | (dsimp only; omega))) 11
  have k0_12 : M2 0 12 = M 0 12 := congrFun (f2 0 (by first | decide | omega | (dsimp only; omega))) 12
  have k0_13 : M2 0 13 = M 0 13 := congrFun (f2 0 (by first | decide | omega | (dsimp only; omega))) 13
  obtain ⟨g1, g2, g3, g4, rf, ⟨g6a, g6b⟩, g7_⟩ := gr
  have k99_0 : M2 99 0 = M 99 0 := congrFun (f2 99 (by first | decide | omega | (dsimp only; omega))) 0
  have hrr : r1 = r2 := p1.trans (g6a.trans p2.symm)
  have gr2 : GR M2 := GR.k ⟨g1, g2, g3, g4, rf, ⟨g6a, g6b⟩, g7_⟩ F (fun c z => by unfold inT; first | omega | (dsimp only at z; omega)) (G1.fr g1 F (fun c z => by unfold inT; first | omega | (dsimp only at z; omega)) k99_0 (fun k _ _ => congrFun (f2 99 (by first | decide | omega | (dsimp only; omega))) k) (fun j _ => congrFun (f2 101 (by first | decide | omega | (dsimp only; omega))) j)) (G2.fr g2 (f2 7 (by first | decide | omega | (dsimp only; omega))) (by omega) (by omega) (fun k _ _ => congrFun (f2 99 (by first | decide | omega | (dsimp only; omega))) k)) (RFR.fr rf (by omega) (by omega) (f2 96 (by first | decide | omega | (dsimp only; omega))) (f2 98 (by first | decide | omega | (dsimp only; omega)))) ⟨by omega, by omega⟩ (by omega)
  exact hk M2 hR2 ic2 im2 ⟨by unfold CR at cr ⊢; omega, wr2, gr2⟩
set_option maxHeartbeats 4000000 in
set_option maxRecDepth 100000 in
theorem law_c13 (X : Cx) (b L : Nat) (xs : Nat → Int32) (C N : Nat) (hC : C + 0 ≤ 600000) (hN : N + 0 ≤ 7302249) (i : Int) (M : Mm) (hR : Rg M) (ic : IC M) (im : IM M) (crx : CX M) (h0 : 0 ≤ i) (h1 : i + 7 ≤ L) (hL : L ≤ 3584) (hk : ∀ M' : Mm, Rg M' → IC M' → IM M' → CX M' → J X.1 RL cL_law 4 ret (ELW X M' b L xs) C N Zl 1430 [(3, vi i), (2, vr X 97), (1, vr X 0), (0, .ref b)] []) : J X.1 RL cL_law 4 ret (ELW X M b L xs) C N Zl 586 [(3, vi i), (2, vr X 97), (1, vr X 0), (0, .ref b)] [] := by
  have cr := crx.1
  have wr := crx.2.1
  have gr := crx.2.2
  have bb := ICb ic
  refine j_aload (pc' := 587) 2 dL_law_586 rfl rfl ?_
  have gb : ∀ j : Nat, (j : Int) < M 31 1 → 0 ≤ M 32 j ∧ M 32 j ≤ 255 := fun j hj => (wr.1 j hj).2
  obtain ⟨ta, tb, P, Lq, F, Z, tv, pub⟩ := gr.1
  refine w_call hC hN hR (pc' := 590) (As := []) (o := 0) (S := []) dL_law_587 rfl m_L_72 w_X9_evening (c_X9_evening_y X M ic gb ta tb (M 99 0) P Lq F Z (M 101) (fun j => M 99 (4 + j)) tv pub (IM.sz6 im)) rfl ⟨_, _, _, rfl, rfl, rfl⟩ (Nat.le_of_ble_eq_true rfl) (Nat.le_of_ble_eq_true rfl) rfl (Nat.le_of_ble_eq_true rfl) (fun v M1 hq hR1 => ?_)
  obtain ⟨r1, rfl, ic1, f1, e1_0, e1_1, e1_2, e1_3, e1_4, e1_5, e1_6, e1_7, e1_8, e1_9, e1_10, e1_11, e1_12, e1_13, p1⟩ := hq
  have im1 : IM M1 := IM.fr im f1 (fun c z => by first | omega | (dsimp only at z; omega))
  have fd1 := frD (Fr.tr Fr.rf f1 fi_85)
  have x1 := p1.2
  replace p1 := p1.1
  show J X.1 RL cL_law 4 ret (ELW X M1 b L xs) C N Zl 590 [(3, vi i), (2, vr X 97), (1, vr X 0), (0, .ref b)] [vi r1]
  refine j_pop (pc' := 591) dL_law_590 rfl rfl ?_
  refine j_aload (pc' := 592) 1 dL_law_591 rfl rfl ?_
  obtain ⟨ge6, ⟨K, W, S, E, m, tz, v12, q0, q1⟩, n0_, a0_⟩ := x1
  have hz := TR.tz wr (by unfold CR at cr; omega) (f1 106 (by decide)) (by omega) tz
  refine w_call hC hN hR1 (pc' := 595) (As := []) (o := 97) (S := []) dL_law_592 rfl m_L_75 w_X10_evening (c_X10_evening_z X M1 im1 K W S E m hz) rfl ⟨_, _, _, rfl, rfl, rfl⟩ (Nat.le_of_ble_eq_true rfl) (Nat.le_of_ble_eq_true rfl) rfl (Nat.le_of_ble_eq_true rfl) (fun v M2 hq hR2 => ?_)
  obtain ⟨r2, rfl, im2, f2, e2_0, e2_1, e2_2, e2_3, e2_4, e2_5, e2_6, e2_7, e2_8, e2_9, e2_10, e2_11, e2_12, e2_13, e2_14, e2_15, p2⟩ := hq
  have ic2 : IC M2 := IC.fr ic1 f2 (fun c z => by unfold free isT; first | omega | (dsimp only at z; omega))
  have fd2 := frC (Fr.tr Fr.rf f2 fi_86)
  have x2 := p2.2
  replace p2 := p2.1
  show J X.1 RL cL_law 4 ret (ELW X M2 b L xs) C N Zl 595 [(3, vi i), (2, vr X 97), (1, vr X 0), (0, .ref b)] [vi r2]
  refine j_pop (pc' := 596) dL_law_595 rfl rfl ?_
  refine j_goto (tgt := 1430) dL_law_596 rfl ?_
  have F := Fr.tr (P := fun c => (fun c => (2 ≤ c ∧ c ≤ 6) ∨ (30 ≤ c ∧ c ≤ 59) ∨ c = 0 ∨ c = 96) c ∨ (fun c => c = 97 ∨ c = 98 ∨ c = 101 ∨ c = 104 ∨ c = 105 ∨ c = 107 ∨ c = 108 ∨ c = 109 ∨ c = 110 ∨ c = 111 ∨ c = 112) c) (Fr.tr Fr.rf f1 (fun c z => Or.inl z)) f2 (fun c z => Or.inr z)
  have k0_10 : M2 0 10 = M1 0 10 := congrFun (f2 0 (by first | decide | omega | (dsimp only; omega))) 10
  have k0_11 : M2 0 11 = M1 0 11 := congrFun (f2 0 (by first | decide | omega | (dsimp only; omega))) 11
  have k0_12 : M2 0 12 = M1 0 12 := congrFun (f2 0 (by first | decide | omega | (dsimp only; omega))) 12
  have k0_13 : M2 0 13 = M1 0 13 := congrFun (f2 0 (by first | decide | omega | (dsimp only; omega))) 13
  have k97_1 : M1 97 1 = M 97 1 := congrFun (f1 97 (by first | decide | omega | (dsimp only; omega))) 1
  have k97_10 : M1 97 10 = M 97 10 := congrFun (f1 97 (by first | decide | omega | (dsimp only; omega))) 10
  have k97_17 : M1 97 17 = M 97 17 := congrFun (f1 97 (by first | decide | omega | (dsimp only; omega))) 17
  have k97_33 : M1 97 33 = M 97 33 := congrFun (f1 97 (by first | decide | omega | (dsimp only; omega))) 33
  have k97_44 : M1 97 44 = M 97 44 := congrFun (f1 97 (by first | decide | omega | (dsimp only; omega))) 44
  obtain ⟨g1, g2, g3, g4, rf, ⟨g6a, g6b⟩, g7_⟩ := gr
  have k99_0 : M2 99 0 = M 99 0 := congrFun ((f2 99 (by first | decide | omega | (dsimp only; omega))).trans (f1 99 (by first | decide | omega | (dsimp only; omega)))) 0
  have xe := x2.1
  rw [(f1 99 (by first | decide | omega | (dsimp only; omega))), (f1 101 (by first | decide | omega | (dsimp only; omega)))] at xe
  obtain ⟨hrr, v1_, v2_, pb_⟩ := EVX v12 q0 q1 xe
  have wrF : TR M2 := TR.z (by omega) (by omega)
  have gr2 : GR M2 := GR.k ⟨g1, g2, g3, g4, rf, ⟨g6a, g6b⟩, g7_⟩ F (fun c z => by unfold inT; first | omega | (dsimp only at z; omega)) (G1.st pb_ f2 (fun c z => by unfold inT; first | omega | (dsimp only at z; omega)) k99_0.symm (E25.rf _) (fun j _ => congrFun ((f2 99 (by first | decide | omega | (dsimp only; omega))).trans (f1 99 (by first | decide | omega | (dsimp only; omega)))) _)) (G2.fr g2 ((f2 7 (by first | decide | omega | (dsimp only; omega))).trans (f1 7 (by first | decide | omega | (dsimp only; omega)))) (by omega) (by omega) (fun k _ _ => congrFun ((f2 99 (by first | decide | omega | (dsimp only; omega))).trans (f1 99 (by first | decide | omega | (dsimp only; omega)))) k)) (RFR.s2 rf (by omega) hrr k0_10 n0_ x2.2.1 (f2 96 (by first | decide | omega | (dsimp only; omega))) a0_ (f1 98 (by first | decide | omega | (dsimp only; omega))) x2.2.2) ⟨by omega, by omega⟩ (by omega)
  exact hk M2 hR2 ic2 im2 ⟨by unfold CR at cr ⊢; omega, wrF, gr2⟩
set_option maxHeartbeats 4000000 in
set_option maxRecDepth 100000 in
theorem law_c14 (X : Cx) (b L : Nat) (xs : Nat → Int32) (C N : Nat) (hC : C + 0 ≤ 600000) (hN : N + 0 ≤ 7302249) (i : Int) (M : Mm) (hR : Rg M) (ic : IC M) (im : IM M) (crx : CX M) (h0 : 0 ≤ i) (h1 : i + 7 ≤ L) (hL : L ≤ 3584) (hk : ∀ M' : Mm, Rg M' → IC M' → IM M' → CX M' → J X.1 RL cL_law 4 ret (ELW X M' b L xs) C N Zl 1430 [(3, vi i), (2, vr X 97), (1, vr X 0), (0, .ref b)] []) : J X.1 RL cL_law 4 ret (ELW X M b L xs) C N Zl 599 [(3, vi i), (2, vr X 97), (1, vr X 0), (0, .ref b)] [] := by
  have cr := crx.1
  have wr := crx.2.1
  have gr := crx.2.2
  have bb := ICb ic
  refine j_aload (pc' := 600) 2 dL_law_599 rfl rfl ?_
  refine w_call hC hN hR (pc' := 603) (As := []) (o := 0) (S := []) dL_law_600 rfl m_L_76 w_X9_fault (c_X9_fault X M ic) rfl ⟨_, _, _, rfl, rfl, rfl⟩ (Nat.le_of_ble_eq_true rfl) (Nat.le_of_ble_eq_true rfl) rfl (Nat.le_of_ble_eq_true rfl) (fun v M1 hq hR1 => ?_)
  obtain ⟨r1, rfl, e1, p1⟩ := hq
  rw [e1]
  show J X.1 RL cL_law 4 ret (ELW X M b L xs) C N Zl 603 [(3, vi i), (2, vr X 97), (1, vr X 0), (0, .ref b)] [vi r1]
  refine j_pop (pc' := 604) dL_law_603 rfl rfl ?_
  refine j_aload (pc' := 605) 1 dL_law_604 rfl rfl ?_
  refine w_call hC hN hR (pc' := 608) (As := []) (o := 97) (S := []) dL_law_605 rfl m_L_79 w_X10_fault (c_X10_fault X M im) rfl ⟨_, _, _, rfl, rfl, rfl⟩ (Nat.le_of_ble_eq_true rfl) (Nat.le_of_ble_eq_true rfl) rfl (Nat.le_of_ble_eq_true rfl) (fun v M2 hq hR2 => ?_)
  obtain ⟨r2, rfl, im2, f2, e2_0, e2_1, e2_2, e2_3, e2_4, e2_5, e2_6, e2_7, e2_8, e2_9, e2_10, e2_11, e2_12, e2_13, e2_14, e2_15, e2_16, e2_17, e2_18, e2_19, p2⟩ := hq
  have ic2 : IC M2 := IC.fr ic f2 (fun c z => by unfold free isT; first | omega | (dsimp only at z; omega))
  have fd2 := frC (Fr.tr Fr.rf f2 fi_78)
  have wr2 : TR M2 := TR.fr wr (f2 32 (by decide)) (f2 106 (by decide)) (by omega) (congrFun (f2 0 (by decide)) 12) (by omega)
  show J X.1 RL cL_law 4 ret (ELW X M2 b L xs) C N Zl 608 [(3, vi i), (2, vr X 97), (1, vr X 0), (0, .ref b)] [vi r2]
  refine j_pop (pc' := 609) dL_law_608 rfl rfl ?_
  refine j_goto (tgt := 1430) dL_law_609 rfl ?_
  have F := f2
  have k0_10 : M2 0 10 = M 0 10 := congrFun (f2 0 (by first | decide | omega | (dsimp only; omega))) 10
  have k0_11 : M2 0 11 = M 0 11 := congrFun (f2 0 (by first | decide | omega | (dsimp only; omega))) 11
  have k0_12 : M2 0 12 = M 0 12 := congrFun (f2 0 (by first | decide | omega | (dsimp only; omega))) 12
  have k0_13 : M2 0 13 = M 0 13 := congrFun (f2 0 (by first | decide | omega | (dsimp only; omega))) 13
  obtain ⟨g1, g2, g3, g4, rf, ⟨g6a, g6b⟩, g7_⟩ := gr
  have k99_0 : M2 99 0 = M 99 0 := congrFun (f2 99 (by first | decide | omega | (dsimp only; omega))) 0
  have gr2 : GR M2 := GR.k ⟨g1, g2, g3, g4, rf, ⟨g6a, g6b⟩, g7_⟩ F (fun c z => by unfold inT; first | omega | (dsimp only at z; omega)) (G1.fr g1 F (fun c z => by unfold inT; first | omega | (dsimp only at z; omega)) k99_0 (fun k _ _ => congrFun (f2 99 (by first | decide | omega | (dsimp only; omega))) k) (fun j _ => congrFun (f2 101 (by first | decide | omega | (dsimp only; omega))) j)) (G2.fr g2 (f2 7 (by first | decide | omega | (dsimp only; omega))) (by omega) (by omega) (fun k _ _ => congrFun (f2 99 (by first | decide | omega | (dsimp only; omega))) k)) (RFR.fr rf (by omega) (by omega) (f2 96 (by first | decide | omega | (dsimp only; omega))) (f2 98 (by first | decide | omega | (dsimp only; omega)))) ⟨by omega, by omega⟩ (by omega)
  exact hk M2 hR2 ic2 im2 ⟨by unfold CR at cr ⊢; omega, wr2, gr2⟩
set_option maxHeartbeats 4000000 in
set_option maxRecDepth 100000 in
theorem law_c15 (X : Cx) (b L : Nat) (xs : Nat → Int32) (C N : Nat) (hC : C + 0 ≤ 600000) (hN : N + 0 ≤ 7302249) (i : Int) (M : Mm) (hR : Rg M) (ic : IC M) (im : IM M) (crx : CX M) (h0 : 0 ≤ i) (h1 : i + 7 ≤ L) (hL : L ≤ 3584) (hk : ∀ M' : Mm, Rg M' → IC M' → IM M' → CX M' → J X.1 RL cL_law 4 ret (ELW X M' b L xs) C N Zl 1430 [(3, vi i), (2, vr X 97), (1, vr X 0), (0, .ref b)] []) : J X.1 RL cL_law 4 ret (ELW X M b L xs) C N Zl 612 [(3, vi i), (2, vr X 97), (1, vr X 0), (0, .ref b)] [] := by
  have cr := crx.1
  have wr := crx.2.1
  have gr := crx.2.2
  have bb := ICb ic
  refine j_aload (pc' := 613) 2 dL_law_612 rfl rfl ?_
  refine w_call hC hN hR (pc' := 616) (As := []) (o := 0) (S := []) dL_law_613 rfl m_L_80 w_X9_stopped (c_X9_stopped_x X M ic) rfl ⟨_, _, _, rfl, rfl, rfl⟩ (Nat.le_of_ble_eq_true rfl) (Nat.le_of_ble_eq_true rfl) rfl (Nat.le_of_ble_eq_true rfl) (fun v M1 hq hR1 => ?_)
  obtain ⟨r1, rfl, e1, p1⟩ := hq
  rw [e1]
  show J X.1 RL cL_law 4 ret (ELW X M b L xs) C N Zl 616 [(3, vi i), (2, vr X 97), (1, vr X 0), (0, .ref b)] [vi r1]
  refine j_pop (pc' := 617) dL_law_616 rfl rfl ?_
  refine j_aload (pc' := 618) 1 dL_law_617 rfl rfl ?_
  refine w_call hC hN hR (pc' := 621) (As := []) (o := 97) (S := []) dL_law_618 rfl m_L_83 w_X10_stopped (c_X10_stopped_x X M im) rfl ⟨_, _, _, rfl, rfl, rfl⟩ (Nat.le_of_ble_eq_true rfl) (Nat.le_of_ble_eq_true rfl) rfl (Nat.le_of_ble_eq_true rfl) (fun v M2 hq hR2 => ?_)
  obtain ⟨r2, rfl, im2, f2, e2_0, e2_1, e2_2, e2_3, e2_4, e2_5, e2_6, e2_7, e2_8, e2_9, e2_10, e2_11, e2_12, e2_13, e2_14, e2_15, e2_16, e2_17, e2_18, e2_19, p2⟩ := hq
  have ic2 : IC M2 := IC.fr ic f2 (fun c z => by unfold free isT; first | omega | (dsimp only at z; omega))
  have fd2 := frC (Fr.tr Fr.rf f2 fi_78)
  have wr2 : TR M2 := TR.fr wr (f2 32 (by decide)) (f2 106 (by decide)) (by omega) (congrFun (f2 0 (by decide)) 12) (by omega)
  show J X.1 RL cL_law 4 ret (ELW X M2 b L xs) C N Zl 621 [(3, vi i), (2, vr X 97), (1, vr X 0), (0, .ref b)] [vi r2]
  refine j_pop (pc' := 622) dL_law_621 rfl rfl ?_
  refine j_goto (tgt := 1430) dL_law_622 rfl ?_
  have F := f2
  have k0_10 : M2 0 10 = M 0 10 := congrFun (f2 0 (by first | decide | omega | (dsimp only; omega))) 10
  have k0_11 : M2 0 11 = M 0 11 := congrFun (f2 0 (by first | decide | omega | (dsimp only; omega))) 11
  have k0_12 : M2 0 12 = M 0 12 := congrFun (f2 0 (by first | decide | omega | (dsimp only; omega))) 12
  have k0_13 : M2 0 13 = M 0 13 := congrFun (f2 0 (by first | decide | omega | (dsimp only; omega))) 13
  obtain ⟨g1, g2, g3, g4, rf, ⟨g6a, g6b⟩, g7_⟩ := gr
  have k99_0 : M2 99 0 = M 99 0 := congrFun (f2 99 (by first | decide | omega | (dsimp only; omega))) 0
  have hrr : r1 = r2 := p1.trans (g6b.trans p2.symm)
  have gr2 : GR M2 := GR.k ⟨g1, g2, g3, g4, rf, ⟨g6a, g6b⟩, g7_⟩ F (fun c z => by unfold inT; first | omega | (dsimp only at z; omega)) (G1.fr g1 F (fun c z => by unfold inT; first | omega | (dsimp only at z; omega)) k99_0 (fun k _ _ => congrFun (f2 99 (by first | decide | omega | (dsimp only; omega))) k) (fun j _ => congrFun (f2 101 (by first | decide | omega | (dsimp only; omega))) j)) (G2.fr g2 (f2 7 (by first | decide | omega | (dsimp only; omega))) (by omega) (by omega) (fun k _ _ => congrFun (f2 99 (by first | decide | omega | (dsimp only; omega))) k)) (RFR.fr rf (by omega) (by omega) (f2 96 (by first | decide | omega | (dsimp only; omega))) (f2 98 (by first | decide | omega | (dsimp only; omega)))) ⟨by omega, by omega⟩ (by omega)
  exact hk M2 hR2 ic2 im2 ⟨by unfold CR at cr ⊢; omega, wr2, gr2⟩
set_option maxHeartbeats 4000000 in
set_option maxRecDepth 100000 in
theorem law_c16 (X : Cx) (b L : Nat) (xs : Nat → Int32) (C N : Nat) (hC : C + 0 ≤ 600000) (hN : N + 0 ≤ 7302249) (i : Int) (M : Mm) (hR : Rg M) (ic : IC M) (im : IM M) (crx : CX M) (h0 : 0 ≤ i) (h1 : i + 7 ≤ L) (hL : L ≤ 3584) (hk : ∀ M' : Mm, Rg M' → IC M' → IM M' → CX M' → J X.1 RL cL_law 4 ret (ELW X M' b L xs) C N Zl 1430 [(3, vi i), (2, vr X 97), (1, vr X 0), (0, .ref b)] []) : J X.1 RL cL_law 4 ret (ELW X M b L xs) C N Zl 625 [(3, vi i), (2, vr X 97), (1, vr X 0), (0, .ref b)] [] := by
  have cr := crx.1
  have wr := crx.2.1
  have gr := crx.2.2
  have bb := ICb ic
  refine j_aload (pc' := 626) 2 dL_law_625 rfl rfl ?_
  refine j_aload (pc' := 627) 3 dL_law_626 rfl rfl ?_
  refine j_iload_n (pc' := 628) 0 dL_law_627 rfl rfl ?_
  refine j_iconst (pc' := 629) dL_law_628 rfl ?_
  refine j_iadd (pc' := 630) dL_law_629 rfl ?_
  refine w_sld (pc' := 631) dL_law_630 rfl (by omega) (by omega) ?_
  refine j_aload (pc' := 632) 3 dL_law_631 rfl rfl ?_
  refine j_iload_n (pc' := 633) 0 dL_law_632 rfl rfl ?_
  refine j_iconst (pc' := 634) dL_law_633 rfl ?_
  refine j_iadd (pc' := 635) dL_law_634 rfl ?_
  refine w_sld (pc' := 636) dL_law_635 rfl (by omega) (by omega) ?_
  refine j_aload (pc' := 637) 3 dL_law_636 rfl rfl ?_
  refine j_iload_n (pc' := 638) 0 dL_law_637 rfl rfl ?_
  refine j_iconst (pc' := 639) dL_law_638 rfl ?_
  refine j_iadd (pc' := 640) dL_law_639 rfl ?_
  refine w_sld (pc' := 641) dL_law_640 rfl (by omega) (by omega) ?_
  obtain ⟨ta, tb, P, Lq, F, Z, tv, pub⟩ := gr.1
  refine w_call hC hN hR (pc' := 644) (As := [vi (sx xs (i + 1)), vi (sx xs (i + 2)), vi (sx xs (i + 3))]) (o := 0) (S := []) dL_law_641 rfl m_L_84 w_X9_alike (c_X9_alike_x X M ic (sx xs (i + 1)) (sx_in xs (i + 1)) (sx xs (i + 2)) (sx_in xs (i + 2)) (sx xs (i + 3)) (sx_in xs (i + 3)) ta tb (M 99 0) P Lq F Z (M 101) (fun j => M 99 (4 + j)) tv pub) rfl ⟨_, _, _, rfl, rfl, rfl⟩ (Nat.le_of_ble_eq_true rfl) (Nat.le_of_ble_eq_true rfl) rfl (Nat.le_of_ble_eq_true rfl) (fun v M1 hq hR1 => ?_)
  obtain ⟨r1, rfl, e1, p1⟩ := hq
  rw [e1]
  show J X.1 RL cL_law 4 ret (ELW X M b L xs) C N Zl 644 [(3, vi i), (2, vr X 97), (1, vr X 0), (0, .ref b)] [vi r1]
  refine j_pop (pc' := 645) dL_law_644 rfl rfl ?_
  refine j_aload (pc' := 646) 1 dL_law_645 rfl rfl ?_
  refine j_aload (pc' := 647) 3 dL_law_646 rfl rfl ?_
  refine j_iload_n (pc' := 648) 0 dL_law_647 rfl rfl ?_
  refine j_iconst (pc' := 649) dL_law_648 rfl ?_
  refine j_iadd (pc' := 650) dL_law_649 rfl ?_
  refine w_sld (pc' := 651) dL_law_650 rfl (by omega) (by omega) ?_
  refine j_aload (pc' := 652) 3 dL_law_651 rfl rfl ?_
  refine j_iload_n (pc' := 653) 0 dL_law_652 rfl rfl ?_
  refine j_iconst (pc' := 654) dL_law_653 rfl ?_
  refine j_iadd (pc' := 655) dL_law_654 rfl ?_
  refine w_sld (pc' := 656) dL_law_655 rfl (by omega) (by omega) ?_
  refine j_aload (pc' := 657) 3 dL_law_656 rfl rfl ?_
  refine j_iload_n (pc' := 658) 0 dL_law_657 rfl rfl ?_
  refine j_iconst (pc' := 659) dL_law_658 rfl ?_
  refine j_iadd (pc' := 660) dL_law_659 rfl ?_
  refine w_sld (pc' := 661) dL_law_660 rfl (by omega) (by omega) ?_
  refine w_call hC hN hR (pc' := 664) (As := [vi (sx xs (i + 1)), vi (sx xs (i + 2)), vi (sx xs (i + 3))]) (o := 97) (S := []) dL_law_661 rfl m_L_87 w_X10_alike (c_X10_alike_x X M im (sx xs (i + 1)) (sx_in xs (i + 1)) (sx xs (i + 2)) (sx_in xs (i + 2)) (sx xs (i + 3)) (sx_in xs (i + 3))) rfl ⟨_, _, _, rfl, rfl, rfl⟩ (Nat.le_of_ble_eq_true rfl) (Nat.le_of_ble_eq_true rfl) rfl (Nat.le_of_ble_eq_true rfl) (fun v M2 hq hR2 => ?_)
  obtain ⟨r2, rfl, im2, f2, e2_0, e2_1, e2_2, e2_3, e2_4, e2_5, e2_6, e2_7, e2_8, e2_9, e2_10, e2_11, e2_12, e2_13, e2_14, e2_15, e2_16, e2_17, e2_18, e2_19, p2⟩ := hq
  have ic2 : IC M2 := IC.fr ic f2 (fun c z => by unfold free isT; first | omega | (dsimp only at z; omega))
  have fd2 := frC (Fr.tr Fr.rf f2 fi_78)
  have wr2 : TR M2 := TR.fr wr (f2 32 (by decide)) (f2 106 (by decide)) (by omega) (congrFun (f2 0 (by decide)) 12) (by omega)
  show J X.1 RL cL_law 4 ret (ELW X M2 b L xs) C N Zl 664 [(3, vi i), (2, vr X 97), (1, vr X 0), (0, .ref b)] [vi r2]
  refine j_pop (pc' := 665) dL_law_664 rfl rfl ?_
  refine j_goto (tgt := 1430) dL_law_665 rfl ?_
  have F := f2
  have k0_10 : M2 0 10 = M 0 10 := congrFun (f2 0 (by first | decide | omega | (dsimp only; omega))) 10
  have k0_11 : M2 0 11 = M 0 11 := congrFun (f2 0 (by first | decide | omega | (dsimp only; omega))) 11
  have k0_12 : M2 0 12 = M 0 12 := congrFun (f2 0 (by first | decide | omega | (dsimp only; omega))) 12
  have k0_13 : M2 0 13 = M 0 13 := congrFun (f2 0 (by first | decide | omega | (dsimp only; omega))) 13
  obtain ⟨g1, g2, g3, g4, rf, ⟨g6a, g6b⟩, g7_⟩ := gr
  have k99_0 : M2 99 0 = M 99 0 := congrFun (f2 99 (by first | decide | omega | (dsimp only; omega))) 0
  have hrr : r1 = r2 := GR.alike pub p1 p2
  have gr2 : GR M2 := GR.k ⟨g1, g2, g3, g4, rf, ⟨g6a, g6b⟩, g7_⟩ F (fun c z => by unfold inT; first | omega | (dsimp only at z; omega)) (G1.fr g1 F (fun c z => by unfold inT; first | omega | (dsimp only at z; omega)) k99_0 (fun k _ _ => congrFun (f2 99 (by first | decide | omega | (dsimp only; omega))) k) (fun j _ => congrFun (f2 101 (by first | decide | omega | (dsimp only; omega))) j)) (G2.fr g2 (f2 7 (by first | decide | omega | (dsimp only; omega))) (by omega) (by omega) (fun k _ _ => congrFun (f2 99 (by first | decide | omega | (dsimp only; omega))) k)) (RFR.fr rf (by omega) (by omega) (f2 96 (by first | decide | omega | (dsimp only; omega))) (f2 98 (by first | decide | omega | (dsimp only; omega)))) ⟨by omega, by omega⟩ (by omega)
  exact hk M2 hR2 ic2 im2 ⟨by unfold CR at cr ⊢; omega, wr2, gr2⟩
set_option maxHeartbeats 4000000 in
set_option maxRecDepth 100000 in
theorem law_c17 (X : Cx) (b L : Nat) (xs : Nat → Int32) (C N : Nat) (hC : C + 0 ≤ 600000) (hN : N + 0 ≤ 7302249) (i : Int) (M : Mm) (hR : Rg M) (ic : IC M) (im : IM M) (crx : CX M) (h0 : 0 ≤ i) (h1 : i + 7 ≤ L) (hL : L ≤ 3584) (hk : ∀ M' : Mm, Rg M' → IC M' → IM M' → CX M' → J X.1 RL cL_law 4 ret (ELW X M' b L xs) C N Zl 1430 [(3, vi i), (2, vr X 97), (1, vr X 0), (0, .ref b)] []) : J X.1 RL cL_law 4 ret (ELW X M b L xs) C N Zl 668 [(3, vi i), (2, vr X 97), (1, vr X 0), (0, .ref b)] [] := by
  have cr := crx.1
  have wr := crx.2.1
  have gr := crx.2.2
  have bb := ICb ic
  refine j_aload (pc' := 669) 2 dL_law_668 rfl rfl ?_
  refine j_aload (pc' := 670) 3 dL_law_669 rfl rfl ?_
  refine j_iload_n (pc' := 671) 0 dL_law_670 rfl rfl ?_
  refine j_iconst (pc' := 672) dL_law_671 rfl ?_
  refine j_iadd (pc' := 673) dL_law_672 rfl ?_
  refine w_sld (pc' := 674) dL_law_673 rfl (by omega) (by omega) ?_
  refine j_aload (pc' := 675) 3 dL_law_674 rfl rfl ?_
  refine j_iload_n (pc' := 676) 0 dL_law_675 rfl rfl ?_
  refine j_iconst (pc' := 677) dL_law_676 rfl ?_
  refine j_iadd (pc' := 678) dL_law_677 rfl ?_
  refine w_sld (pc' := 679) dL_law_678 rfl (by omega) (by omega) ?_
  refine j_aload (pc' := 680) 3 dL_law_679 rfl rfl ?_
  refine j_iload_n (pc' := 681) 0 dL_law_680 rfl rfl ?_
  refine j_iconst (pc' := 682) dL_law_681 rfl ?_
  refine j_iadd (pc' := 683) dL_law_682 rfl ?_
  refine w_sld (pc' := 684) dL_law_683 rfl (by omega) (by omega) ?_
  refine j_aload (pc' := 685) 3 dL_law_684 rfl rfl ?_
  refine j_iload_n (pc' := 686) 0 dL_law_685 rfl rfl ?_
  refine j_iconst (pc' := 687) dL_law_686 rfl ?_
  refine j_iadd (pc' := 688) dL_law_687 rfl ?_
  refine w_sld (pc' := 689) dL_law_688 rfl (by omega) (by omega) ?_
  refine w_call hC hN hR (pc' := 692) (As := [vi (sx xs (i + 1)), vi (sx xs (i + 2)), vi (sx xs (i + 3)), vi (sx xs (i + 4))]) (o := 0) (S := []) dL_law_689 rfl m_L_88 w_X9_both (c_X9_both X M ic (sx xs (i + 1)) (sx_in xs (i + 1)) (sx xs (i + 2)) (sx_in xs (i + 2)) (sx xs (i + 3)) (sx_in xs (i + 3)) (sx xs (i + 4)) (sx_in xs (i + 4))) rfl ⟨_, _, _, rfl, rfl, rfl⟩ (Nat.le_of_ble_eq_true rfl) (Nat.le_of_ble_eq_true rfl) rfl (Nat.le_of_ble_eq_true rfl) (fun v M1 hq hR1 => ?_)
  obtain ⟨r1, rfl, e1, p1⟩ := hq
  rw [e1]
  show J X.1 RL cL_law 4 ret (ELW X M b L xs) C N Zl 692 [(3, vi i), (2, vr X 97), (1, vr X 0), (0, .ref b)] [vl r1]
  refine j_pop2 (pc' := 693) dL_law_692 rfl rfl ?_
  refine j_aload (pc' := 694) 1 dL_law_693 rfl rfl ?_
  refine j_aload (pc' := 695) 3 dL_law_694 rfl rfl ?_
  refine j_iload_n (pc' := 696) 0 dL_law_695 rfl rfl ?_
  refine j_iconst (pc' := 697) dL_law_696 rfl ?_
  refine j_iadd (pc' := 698) dL_law_697 rfl ?_
  refine w_sld (pc' := 699) dL_law_698 rfl (by omega) (by omega) ?_
  refine j_aload (pc' := 700) 3 dL_law_699 rfl rfl ?_
  refine j_iload_n (pc' := 701) 0 dL_law_700 rfl rfl ?_
  refine j_iconst (pc' := 702) dL_law_701 rfl ?_
  refine j_iadd (pc' := 703) dL_law_702 rfl ?_
  refine w_sld (pc' := 704) dL_law_703 rfl (by omega) (by omega) ?_
  refine j_aload (pc' := 705) 3 dL_law_704 rfl rfl ?_
  refine j_iload_n (pc' := 706) 0 dL_law_705 rfl rfl ?_
  refine j_iconst (pc' := 707) dL_law_706 rfl ?_
  refine j_iadd (pc' := 708) dL_law_707 rfl ?_
  refine w_sld (pc' := 709) dL_law_708 rfl (by omega) (by omega) ?_
  refine j_aload (pc' := 710) 3 dL_law_709 rfl rfl ?_
  refine j_iload_n (pc' := 711) 0 dL_law_710 rfl rfl ?_
  refine j_iconst (pc' := 712) dL_law_711 rfl ?_
  refine j_iadd (pc' := 713) dL_law_712 rfl ?_
  refine w_sld (pc' := 714) dL_law_713 rfl (by omega) (by omega) ?_
  refine w_call hC hN hR (pc' := 717) (As := [vi (sx xs (i + 1)), vi (sx xs (i + 2)), vi (sx xs (i + 3)), vi (sx xs (i + 4))]) (o := 97) (S := []) dL_law_714 rfl m_L_92 w_X10_both (c_X10_both X M im (sx xs (i + 1)) (sx_in xs (i + 1)) (sx xs (i + 2)) (sx_in xs (i + 2)) (sx xs (i + 3)) (sx_in xs (i + 3)) (sx xs (i + 4)) (sx_in xs (i + 4))) rfl ⟨_, _, _, rfl, rfl, rfl⟩ (Nat.le_of_ble_eq_true rfl) (Nat.le_of_ble_eq_true rfl) rfl (Nat.le_of_ble_eq_true rfl) (fun v M2 hq hR2 => ?_)
  obtain ⟨r2, rfl, im2, f2, e2_0, e2_1, e2_2, e2_3, e2_4, e2_5, e2_6, e2_7, e2_8, e2_9, e2_10, e2_11, e2_12, e2_13, e2_14, e2_15, e2_16, e2_17, e2_18, e2_19, p2⟩ := hq
  have ic2 : IC M2 := IC.fr ic f2 (fun c z => by unfold free isT; first | omega | (dsimp only at z; omega))
  have fd2 := frC (Fr.tr Fr.rf f2 fi_78)
  have wr2 : TR M2 := TR.fr wr (f2 32 (by decide)) (f2 106 (by decide)) (by omega) (congrFun (f2 0 (by decide)) 12) (by omega)
  show J X.1 RL cL_law 4 ret (ELW X M2 b L xs) C N Zl 717 [(3, vi i), (2, vr X 97), (1, vr X 0), (0, .ref b)] [vl r2]
  refine j_pop2 (pc' := 718) dL_law_717 rfl rfl ?_
  refine j_goto (tgt := 1430) dL_law_718 rfl ?_
  have F := f2
  have k0_10 : M2 0 10 = M 0 10 := congrFun (f2 0 (by first | decide | omega | (dsimp only; omega))) 10
  have k0_11 : M2 0 11 = M 0 11 := congrFun (f2 0 (by first | decide | omega | (dsimp only; omega))) 11
  have k0_12 : M2 0 12 = M 0 12 := congrFun (f2 0 (by first | decide | omega | (dsimp only; omega))) 12
  have k0_13 : M2 0 13 = M 0 13 := congrFun (f2 0 (by first | decide | omega | (dsimp only; omega))) 13
  obtain ⟨g1, g2, g3, g4, rf, ⟨g6a, g6b⟩, g7_⟩ := gr
  have k99_0 : M2 99 0 = M 99 0 := congrFun (f2 99 (by first | decide | omega | (dsimp only; omega))) 0
  have gr2 : GR M2 := GR.k ⟨g1, g2, g3, g4, rf, ⟨g6a, g6b⟩, g7_⟩ F (fun c z => by unfold inT; first | omega | (dsimp only at z; omega)) (G1.fr g1 F (fun c z => by unfold inT; first | omega | (dsimp only at z; omega)) k99_0 (fun k _ _ => congrFun (f2 99 (by first | decide | omega | (dsimp only; omega))) k) (fun j _ => congrFun (f2 101 (by first | decide | omega | (dsimp only; omega))) j)) (G2.fr g2 (f2 7 (by first | decide | omega | (dsimp only; omega))) (by omega) (by omega) (fun k _ _ => congrFun (f2 99 (by first | decide | omega | (dsimp only; omega))) k)) (RFR.fr rf (by omega) (by omega) (f2 96 (by first | decide | omega | (dsimp only; omega))) (f2 98 (by first | decide | omega | (dsimp only; omega)))) ⟨by omega, by omega⟩ (by omega)
  exact hk M2 hR2 ic2 im2 ⟨by unfold CR at cr ⊢; omega, wr2, gr2⟩
set_option maxHeartbeats 4000000 in
set_option maxRecDepth 100000 in
theorem law_c18 (X : Cx) (b L : Nat) (xs : Nat → Int32) (C N : Nat) (hC : C + 0 ≤ 600000) (hN : N + 0 ≤ 7302249) (i : Int) (M : Mm) (hR : Rg M) (ic : IC M) (im : IM M) (crx : CX M) (h0 : 0 ≤ i) (h1 : i + 7 ≤ L) (hL : L ≤ 3584) (hk : ∀ M' : Mm, Rg M' → IC M' → IM M' → CX M' → J X.1 RL cL_law 4 ret (ELW X M' b L xs) C N Zl 1430 [(3, vi i), (2, vr X 97), (1, vr X 0), (0, .ref b)] []) : J X.1 RL cL_law 4 ret (ELW X M b L xs) C N Zl 721 [(3, vi i), (2, vr X 97), (1, vr X 0), (0, .ref b)] [] := by
  have cr := crx.1
  have wr := crx.2.1
  have gr := crx.2.2
  have bb := ICb ic
  refine j_aload (pc' := 722) 2 dL_law_721 rfl rfl ?_
  refine j_aload (pc' := 723) 3 dL_law_722 rfl rfl ?_
  refine j_iload_n (pc' := 724) 0 dL_law_723 rfl rfl ?_
  refine j_iconst (pc' := 725) dL_law_724 rfl ?_
  refine j_iadd (pc' := 726) dL_law_725 rfl ?_
  refine w_sld (pc' := 727) dL_law_726 rfl (by omega) (by omega) ?_
  refine j_aload (pc' := 728) 3 dL_law_727 rfl rfl ?_
  refine j_iload_n (pc' := 729) 0 dL_law_728 rfl rfl ?_
  refine j_iconst (pc' := 730) dL_law_729 rfl ?_
  refine j_iadd (pc' := 731) dL_law_730 rfl ?_
  refine w_sld (pc' := 732) dL_law_731 rfl (by omega) (by omega) ?_
  refine j_aload (pc' := 733) 3 dL_law_732 rfl rfl ?_
  refine j_iload_n (pc' := 734) 0 dL_law_733 rfl rfl ?_
  refine j_iconst (pc' := 735) dL_law_734 rfl ?_
  refine j_iadd (pc' := 736) dL_law_735 rfl ?_
  refine w_sld (pc' := 737) dL_law_736 rfl (by omega) (by omega) ?_
  refine w_call hC hN hR (pc' := 740) (As := [vi (sx xs (i + 1)), vi (sx xs (i + 2)), vi (sx xs (i + 3))]) (o := 0) (S := []) dL_law_737 rfl m_L_93 w_X9_rounds (c_X9_rounds X M ic (sx xs (i + 1)) (sx_in xs (i + 1)) (sx xs (i + 2)) (sx_in xs (i + 2)) (sx xs (i + 3)) (sx_in xs (i + 3))) rfl ⟨_, _, _, rfl, rfl, rfl⟩ (Nat.le_of_ble_eq_true rfl) (Nat.le_of_ble_eq_true rfl) rfl (Nat.le_of_ble_eq_true rfl) (fun v M1 hq hR1 => ?_)
  obtain ⟨r1, rfl, e1, p1⟩ := hq
  rw [e1]
  show J X.1 RL cL_law 4 ret (ELW X M b L xs) C N Zl 740 [(3, vi i), (2, vr X 97), (1, vr X 0), (0, .ref b)] [vi r1]
  refine j_pop (pc' := 741) dL_law_740 rfl rfl ?_
  refine j_aload (pc' := 742) 1 dL_law_741 rfl rfl ?_
  refine j_aload (pc' := 743) 3 dL_law_742 rfl rfl ?_
  refine j_iload_n (pc' := 744) 0 dL_law_743 rfl rfl ?_
  refine j_iconst (pc' := 745) dL_law_744 rfl ?_
  refine j_iadd (pc' := 746) dL_law_745 rfl ?_
  refine w_sld (pc' := 747) dL_law_746 rfl (by omega) (by omega) ?_
  refine j_aload (pc' := 748) 3 dL_law_747 rfl rfl ?_
  refine j_iload_n (pc' := 749) 0 dL_law_748 rfl rfl ?_
  refine j_iconst (pc' := 750) dL_law_749 rfl ?_
  refine j_iadd (pc' := 751) dL_law_750 rfl ?_
  refine w_sld (pc' := 752) dL_law_751 rfl (by omega) (by omega) ?_
  refine j_aload (pc' := 753) 3 dL_law_752 rfl rfl ?_
  refine j_iload_n (pc' := 754) 0 dL_law_753 rfl rfl ?_
  refine j_iconst (pc' := 755) dL_law_754 rfl ?_
  refine j_iadd (pc' := 756) dL_law_755 rfl ?_
  refine w_sld (pc' := 757) dL_law_756 rfl (by omega) (by omega) ?_
  refine w_call hC hN hR (pc' := 760) (As := [vi (sx xs (i + 1)), vi (sx xs (i + 2)), vi (sx xs (i + 3))]) (o := 97) (S := []) dL_law_757 rfl m_L_96 w_X10_rounds (c_X10_rounds X M im (sx xs (i + 1)) (sx_in xs (i + 1)) (sx xs (i + 2)) (sx_in xs (i + 2)) (sx xs (i + 3)) (sx_in xs (i + 3))) rfl ⟨_, _, _, rfl, rfl, rfl⟩ (Nat.le_of_ble_eq_true rfl) (Nat.le_of_ble_eq_true rfl) rfl (Nat.le_of_ble_eq_true rfl) (fun v M2 hq hR2 => ?_)
  obtain ⟨r2, rfl, im2, f2, e2_0, e2_1, e2_2, e2_3, e2_4, e2_5, e2_6, e2_7, e2_8, e2_9, e2_10, e2_11, e2_12, e2_13, e2_14, e2_15, e2_16, e2_17, e2_18, e2_19, p2⟩ := hq
  have ic2 : IC M2 := IC.fr ic f2 (fun c z => by unfold free isT; first | omega | (dsimp only at z; omega))
  have fd2 := frC (Fr.tr Fr.rf f2 fi_78)
  have wr2 : TR M2 := TR.fr wr (f2 32 (by decide)) (f2 106 (by decide)) (by omega) (congrFun (f2 0 (by decide)) 12) (by omega)
  show J X.1 RL cL_law 4 ret (ELW X M2 b L xs) C N Zl 760 [(3, vi i), (2, vr X 97), (1, vr X 0), (0, .ref b)] [vi r2]
  refine j_pop (pc' := 761) dL_law_760 rfl rfl ?_
  refine j_goto (tgt := 1430) dL_law_761 rfl ?_
  have F := f2
  have k0_10 : M2 0 10 = M 0 10 := congrFun (f2 0 (by first | decide | omega | (dsimp only; omega))) 10
  have k0_11 : M2 0 11 = M 0 11 := congrFun (f2 0 (by first | decide | omega | (dsimp only; omega))) 11
  have k0_12 : M2 0 12 = M 0 12 := congrFun (f2 0 (by first | decide | omega | (dsimp only; omega))) 12
  have k0_13 : M2 0 13 = M 0 13 := congrFun (f2 0 (by first | decide | omega | (dsimp only; omega))) 13
  obtain ⟨g1, g2, g3, g4, rf, ⟨g6a, g6b⟩, g7_⟩ := gr
  have k99_0 : M2 99 0 = M 99 0 := congrFun (f2 99 (by first | decide | omega | (dsimp only; omega))) 0
  have gr2 : GR M2 := GR.k ⟨g1, g2, g3, g4, rf, ⟨g6a, g6b⟩, g7_⟩ F (fun c z => by unfold inT; first | omega | (dsimp only at z; omega)) (G1.fr g1 F (fun c z => by unfold inT; first | omega | (dsimp only at z; omega)) k99_0 (fun k _ _ => congrFun (f2 99 (by first | decide | omega | (dsimp only; omega))) k) (fun j _ => congrFun (f2 101 (by first | decide | omega | (dsimp only; omega))) j)) (G2.fr g2 (f2 7 (by first | decide | omega | (dsimp only; omega))) (by omega) (by omega) (fun k _ _ => congrFun (f2 99 (by first | decide | omega | (dsimp only; omega))) k)) (RFR.fr rf (by omega) (by omega) (f2 96 (by first | decide | omega | (dsimp only; omega))) (f2 98 (by first | decide | omega | (dsimp only; omega)))) ⟨by omega, by omega⟩ (by omega)
  exact hk M2 hR2 ic2 im2 ⟨by unfold CR at cr ⊢; omega, wr2, gr2⟩
