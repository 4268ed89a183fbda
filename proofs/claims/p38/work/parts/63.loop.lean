set_option maxHeartbeats 4000000 in
set_option maxRecDepth 100000 in
theorem law_loop (X : Cx) (b L : Nat) (xs : Nat → Int32) (C N : Nat) (hC : C + 0 ≤ 600000) (hN : N + 0 ≤ 7302249) (hL : L ≤ 3584) : ∀ (kk : Nat) (i : Int) (M : Mm), Rg M → IC M → IM M → CX M → 0 ≤ i → i ≤ 3584 → (4000 - i).toNat = kk → J X.1 RL cL_law 4 ret (ELW X M b L xs) C N Zl 18 [(3, vi i), (2, vr X 97), (1, vr X 0), (0, .ref b)] [] := by
  intro kk
  induction kk using Nat.strongRecOn with
  | ind kk ih =>
    intro i M hR ic im cr h0 hi hkk
    refine j_iload_n (pc' := 19) 0 dL_law_18 rfl rfl ?_
    refine j_aload (pc' := 20) 3 dL_law_19 rfl rfl ?_
    refine w_slen (pc' := 21) dL_law_20 rfl ?_
    refine j_bipush (pc' := 23) (v := 7) dL_law_21 rfl (by decide) ?_
    refine j_isub (pc' := 24) dL_law_23 rfl ?_
    refine j_ic_gt (pc' := 27) (tgt := 1435) (by omega) (by omega) dL_law_24 rfl rfl (fun c => ?_) (fun c => ?_)
    · refine j_iconst (pc' := 1436) dL_law_1435 rfl ?_
      exact w_ret dL_law_1436 hC hN
    have hk : ∀ M' : Mm, Rg M' → IC M' → IM M' → CX M' → J X.1 RL cL_law 4 ret (ELW X M' b L xs) C N Zl 1429 [(3, vi i), (2, vr X 97), (1, vr X 0), (0, .ref b)] [] := by
      intro M' a1 a2 a3 a4
      refine j_iinc (pc' := 1432) (L' := [(3, vi (i + 7)), (2, vr X 97), (1, vr X 0), (0, .ref b)]) 0 dL_law_1429 rfl rfl (by decide) rfl ?_
      refine j_goto (tgt := 18) dL_law_1432 rfl ?_
      exact ih _ (by omega) (i + 7) M' a1 a2 a3 a4 (by omega) (by omega) rfl
    refine j_aload (pc' := 28) 3 dL_law_27 rfl rfl ?_
    refine j_iload_n (pc' := 29) 0 dL_law_28 rfl rfl ?_
    refine w_sld (pc' := 30) dL_law_29 rfl (by omega) (by omega) ?_
    refine j_bipush (pc' := 32) (v := 63) dL_law_30 rfl (by decide) ?_
    refine j_iand (pc' := 33) dL_law_32 rfl (fun ho => ?_)
    generalize oand (sx xs i) 63 = o at ho ⊢
    by_cases c0 : o = 0
    · refine j_tabIn (tgt := 196) (off := 163) ho dL_law_33 (by omega) (by omega) (by rw [c0]; rfl) rfl ?_
      exact law_c0 X b L xs C N hC hN i M hR ic im cr h0 (by omega) hL hk
    by_cases c1 : o = 1
    · refine j_tabIn (tgt := 219) (off := 186) ho dL_law_33 (by omega) (by omega) (by rw [c1]; rfl) rfl ?_
      exact law_c1 X b L xs C N hC hN i M hR ic im cr h0 (by omega) hL hk
    by_cases c2 : o = 2
    · refine j_tabIn (tgt := 252) (off := 219) ho dL_law_33 (by omega) (by omega) (by rw [c2]; rfl) rfl ?_
      exact law_c2 X b L xs C N hC hN i M hR ic im cr h0 (by omega) hL hk
    by_cases c3 : o = 3
    · refine j_tabIn (tgt := 285) (off := 252) ho dL_law_33 (by omega) (by omega) (by rw [c3]; rfl) rfl ?_
      exact law_c3 X b L xs C N hC hN i M hR ic im cr h0 (by omega) hL hk
    by_cases c4 : o = 4
    · refine j_tabIn (tgt := 298) (off := 265) ho dL_law_33 (by omega) (by omega) (by rw [c4]; rfl) rfl ?_
      exact law_c4 X b L xs C N hC hN i M hR ic im cr h0 (by omega) hL hk
    by_cases c5 : o = 5
    · refine j_tabIn (tgt := 331) (off := 298) ho dL_law_33 (by omega) (by omega) (by rw [c5]; rfl) rfl ?_
      exact law_c5 X b L xs C N hC hN i M hR ic im cr h0 (by omega) hL hk
    by_cases c6 : o = 6
    · refine j_tabIn (tgt := 374) (off := 341) ho dL_law_33 (by omega) (by omega) (by rw [c6]; rfl) rfl ?_
      exact law_c6 X b L xs C N hC hN i M hR ic im cr h0 (by omega) hL hk
    by_cases c7 : o = 7
    · refine j_tabIn (tgt := 417) (off := 384) ho dL_law_33 (by omega) (by omega) (by rw [c7]; rfl) rfl ?_
      exact law_c7 X b L xs C N hC hN i M hR ic im cr h0 (by omega) hL hk
    by_cases c8 : o = 8
    · refine j_tabIn (tgt := 450) (off := 417) ho dL_law_33 (by omega) (by omega) (by rw [c8]; rfl) rfl ?_
      exact law_c8 X b L xs C N hC hN i M hR ic im cr h0 (by omega) hL hk
    by_cases c9 : o = 9
    · refine j_tabIn (tgt := 473) (off := 440) ho dL_law_33 (by omega) (by omega) (by rw [c9]; rfl) rfl ?_
      exact law_c9 X b L xs C N hC hN i M hR ic im cr h0 (by omega) hL hk
    by_cases c10 : o = 10
    · refine j_tabIn (tgt := 536) (off := 503) ho dL_law_33 (by omega) (by omega) (by rw [c10]; rfl) rfl ?_
      exact law_c10 X b L xs C N hC hN i M hR ic im cr h0 (by omega) hL hk
    by_cases c11 : o = 11
    · refine j_tabIn (tgt := 559) (off := 526) ho dL_law_33 (by omega) (by omega) (by rw [c11]; rfl) rfl ?_
      exact law_c11 X b L xs C N hC hN i M hR ic im cr h0 (by omega) hL hk
    by_cases c12 : o = 12
    · refine j_tabIn (tgt := 572) (off := 539) ho dL_law_33 (by omega) (by omega) (by rw [c12]; rfl) rfl ?_
      exact law_c12 X b L xs C N hC hN i M hR ic im cr h0 (by omega) hL hk
    by_cases c13 : o = 13
    · refine j_tabIn (tgt := 585) (off := 552) ho dL_law_33 (by omega) (by omega) (by rw [c13]; rfl) rfl ?_
      exact law_c13 X b L xs C N hC hN i M hR ic im cr h0 (by omega) hL hk
    by_cases c14 : o = 14
    · refine j_tabIn (tgt := 598) (off := 565) ho dL_law_33 (by omega) (by omega) (by rw [c14]; rfl) rfl ?_
      exact law_c14 X b L xs C N hC hN i M hR ic im cr h0 (by omega) hL hk
    by_cases c15 : o = 15
    · refine j_tabIn (tgt := 611) (off := 578) ho dL_law_33 (by omega) (by omega) (by rw [c15]; rfl) rfl ?_
      exact law_c15 X b L xs C N hC hN i M hR ic im cr h0 (by omega) hL hk
    by_cases c16 : o = 16
    · refine j_tabIn (tgt := 624) (off := 591) ho dL_law_33 (by omega) (by omega) (by rw [c16]; rfl) rfl ?_
      exact law_c16 X b L xs C N hC hN i M hR ic im cr h0 (by omega) hL hk
    by_cases c17 : o = 17
    · refine j_tabIn (tgt := 667) (off := 634) ho dL_law_33 (by omega) (by omega) (by rw [c17]; rfl) rfl ?_
      exact law_c17 X b L xs C N hC hN i M hR ic im cr h0 (by omega) hL hk
    by_cases c18 : o = 18
    · refine j_tabIn (tgt := 720) (off := 687) ho dL_law_33 (by omega) (by omega) (by rw [c18]; rfl) rfl ?_
      exact law_c18 X b L xs C N hC hN i M hR ic im cr h0 (by omega) hL hk
    by_cases c19 : o = 19
    · refine j_tabIn (tgt := 763) (off := 730) ho dL_law_33 (by omega) (by omega) (by rw [c19]; rfl) rfl ?_
      exact law_c19 X b L xs C N hC hN i M hR ic im cr h0 (by omega) hL hk
    by_cases c20 : o = 20
    · refine j_tabIn (tgt := 786) (off := 753) ho dL_law_33 (by omega) (by omega) (by rw [c20]; rfl) rfl ?_
      exact law_c20 X b L xs C N hC hN i M hR ic im cr h0 (by omega) hL hk
    by_cases c21 : o = 21
    · refine j_tabIn (tgt := 799) (off := 766) ho dL_law_33 (by omega) (by omega) (by rw [c21]; rfl) rfl ?_
      exact law_c21 X b L xs C N hC hN i M hR ic im cr h0 (by omega) hL hk
    by_cases c22 : o = 22
    · refine j_tabIn (tgt := 874) (off := 841) ho dL_law_33 (by omega) (by omega) (by rw [c22]; rfl) rfl ?_
      exact law_c22 X b L xs C N hC hN i M hR ic im cr h0 (by omega) hL hk
    by_cases c23 : o = 23
    · refine j_tabIn (tgt := 917) (off := 884) ho dL_law_33 (by omega) (by omega) (by rw [c23]; rfl) rfl ?_
      exact law_c23 X b L xs C N hC hN i M hR ic im cr h0 (by omega) hL hk
    by_cases c24 : o = 24
    · refine j_tabIn (tgt := 960) (off := 927) ho dL_law_33 (by omega) (by omega) (by rw [c24]; rfl) rfl ?_
      exact law_c24 X b L xs C N hC hN i M hR ic im cr h0 (by omega) hL hk
    by_cases c25 : o = 25
    · refine j_tabIn (tgt := 1013) (off := 980) ho dL_law_33 (by omega) (by omega) (by rw [c25]; rfl) rfl ?_
      exact law_c25 X b L xs C N hC hN i M hR ic im cr h0 (by omega) hL hk
    by_cases c26 : o = 26
    · refine j_tabIn (tgt := 1056) (off := 1023) ho dL_law_33 (by omega) (by omega) (by rw [c26]; rfl) rfl ?_
      exact law_c26 X b L xs C N hC hN i M hR ic im cr h0 (by omega) hL hk
    by_cases c27 : o = 27
    · refine j_tabIn (tgt := 1109) (off := 1076) ho dL_law_33 (by omega) (by omega) (by rw [c27]; rfl) rfl ?_
      exact law_c27 X b L xs C N hC hN i M hR ic im cr h0 (by omega) hL hk
    by_cases c28 : o = 28
    · refine j_tabIn (tgt := 1152) (off := 1119) ho dL_law_33 (by omega) (by omega) (by rw [c28]; rfl) rfl ?_
      exact law_c28 X b L xs C N hC hN i M hR ic im cr h0 (by omega) hL hk
    by_cases c29 : o = 29
    · refine j_tabIn (tgt := 1175) (off := 1142) ho dL_law_33 (by omega) (by omega) (by rw [c29]; rfl) rfl ?_
      exact law_c29 X b L xs C N hC hN i M hR ic im cr h0 (by omega) hL hk
    by_cases c30 : o = 30
    · refine j_tabIn (tgt := 1218) (off := 1185) ho dL_law_33 (by omega) (by omega) (by rw [c30]; rfl) rfl ?_
      exact law_c30 X b L xs C N hC hN i M hR ic im cr h0 (by omega) hL hk
    by_cases c31 : o = 31
    · refine j_tabIn (tgt := 1281) (off := 1248) ho dL_law_33 (by omega) (by omega) (by rw [c31]; rfl) rfl ?_
      exact law_c31 X b L xs C N hC hN i M hR ic im cr h0 (by omega) hL hk
    by_cases c32 : o = 32
    · refine j_tabIn (tgt := 1314) (off := 1281) ho dL_law_33 (by omega) (by omega) (by rw [c32]; rfl) rfl ?_
      exact law_c32 X b L xs C N hC hN i M hR ic im cr h0 (by omega) hL hk
    by_cases c33 : o = 33
    · refine j_tabIn (tgt := 1347) (off := 1314) ho dL_law_33 (by omega) (by omega) (by rw [c33]; rfl) rfl ?_
      exact law_c33 X b L xs C N hC hN i M hR ic im cr h0 (by omega) hL hk
    by_cases c34 : o = 34
    · refine j_tabIn (tgt := 1370) (off := 1337) ho dL_law_33 (by omega) (by omega) (by rw [c34]; rfl) rfl ?_
      exact law_c34 X b L xs C N hC hN i M hR ic im cr h0 (by omega) hL hk
    by_cases c35 : o = 35
    · refine j_tabIn (tgt := 1393) (off := 1360) ho dL_law_33 (by omega) (by omega) (by rw [c35]; rfl) rfl ?_
      exact law_c35 X b L xs C N hC hN i M hR ic im cr h0 (by omega) hL hk
    by_cases c36 : o = 36
    · refine j_tabIn (tgt := 1416) (off := 1383) ho dL_law_33 (by omega) (by omega) (by rw [c36]; rfl) rfl ?_
      exact law_c36 X b L xs C N hC hN i M hR ic im cr h0 (by omega) hL hk
    refine j_tabOut (tgt := 1429) ho dL_law_33 (by omega) rfl ?_
    exact hk M hR ic im cr
