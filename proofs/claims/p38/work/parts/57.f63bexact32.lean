set_option maxHeartbeats 4000000 in
set_option maxRecDepth 100000 in
theorem c_X9_tasting_x (X : Cx) (M : Mm) (hi : IC M) (a : Int) (ha : inI a) (b : Int) (hb : inI b) (c : Int) (hc : inI c) : Con X 4 yX9_tasting cX9_tasting 4 (some .int) [vr X 0, vi a, vi b, vi c] M (Qi (fun r M1 => IC M1 ∧ Fr (fun c => c = 1 ∨ c = 8 ∨ c = 0 ∨ c = 96) M M1 ∧ M1 2 5 = M 2 5 ∧ M1 1 2 = M 1 2 ∧ M1 1 6 = M 1 6 ∧ M1 11 5 = M 11 5 ∧ M1 10 2 = M 10 2 ∧ M1 10 4 = M 10 4 ∧ M1 10 6 = M 10 6 ∧ M1 20 5 = M 20 5 ∧ M1 19 2 = M 19 2 ∧ M1 19 4 = M 19 4 ∧ M1 19 6 = M 19 6 ∧ M1 29 0 = M 29 0 ∧ M1 29 1 = M 29 1 ∧ M1 31 1 = M 31 1 ∧ M1 0 11 = M 0 11 ∧ M1 0 12 = M 0 12 ∧ M1 0 13 = M 0 13 ∧ ((((b < 0 ∨ 3 < b ∨ c < 0 ∨ 100 < c) → r = -1 ∧ M1 1 4 = M 1 4) ∧ (0 ≤ b → b ≤ 3 → 0 ≤ c → c ≤ 100 → (a < 0 ∨ M 2 5 ≤ a) → r = -2 ∧ M1 1 4 = M 1 4) ∧ (0 ≤ b → b ≤ 3 → 0 ≤ c → c ≤ 100 → 0 ≤ a → a < M 2 5 → 6 ≤ M 1 4 → r = -5 ∧ M1 1 4 = M 1 4) ∧ (0 ≤ b → b ≤ 3 → 0 ≤ c → c ≤ 100 → 0 ≤ a → a < M 2 5 → M 1 4 < 6 → r = M 1 4 + 1 ∧ M1 1 4 = M 1 4 + 1)) ∧ M1 0 10 = ngv r ∧ M1 96 = ansF (M 96) r))) := by
  refine Con.ofG rfl (Nat.le_of_ble_eq_true rfl) ?_
  show G X 4 RX9 cX9_tasting 4 (some .int) (Qi (fun r M1 => IC M1 ∧ Fr (fun c => c = 1 ∨ c = 8 ∨ c = 0 ∨ c = 96) M M1 ∧ M1 2 5 = M 2 5 ∧ M1 1 2 = M 1 2 ∧ M1 1 6 = M 1 6 ∧ M1 11 5 = M 11 5 ∧ M1 10 2 = M 10 2 ∧ M1 10 4 = M 10 4 ∧ M1 10 6 = M 10 6 ∧ M1 20 5 = M 20 5 ∧ M1 19 2 = M 19 2 ∧ M1 19 4 = M 19 4 ∧ M1 19 6 = M 19 6 ∧ M1 29 0 = M 29 0 ∧ M1 29 1 = M 29 1 ∧ M1 31 1 = M 31 1 ∧ M1 0 11 = M 0 11 ∧ M1 0 12 = M 0 12 ∧ M1 0 13 = M 0 13 ∧ ((((b < 0 ∨ 3 < b ∨ c < 0 ∨ 100 < c) → r = -1 ∧ M1 1 4 = M 1 4) ∧ (0 ≤ b → b ≤ 3 → 0 ≤ c → c ≤ 100 → (a < 0 ∨ M 2 5 ≤ a) → r = -2 ∧ M1 1 4 = M 1 4) ∧ (0 ≤ b → b ≤ 3 → 0 ≤ c → c ≤ 100 → 0 ≤ a → a < M 2 5 → 6 ≤ M 1 4 → r = -5 ∧ M1 1 4 = M 1 4) ∧ (0 ≤ b → b ≤ 3 → 0 ≤ c → c ≤ 100 → 0 ≤ a → a < M 2 5 → M 1 4 < 6 → r = M 1 4 + 1 ∧ M1 1 4 = M 1 4 + 1)) ∧ M1 0 10 = ngv r ∧ M1 96 = ansF (M 96) r))) 0 [(0, vr X 0), (1, vi a), (2, vi b), (3, vi c)] [] M
  have hsc := hi.2.1.1.1
  have hsd := hi.2.1.1.2
  refine g_aload_n (pc' := 1) 0 dX9_tasting_0 rfl rfl ?_
  refine g_aload_n (pc' := 2) 0 dX9_tasting_1 rfl rfl ?_
  refine g_iload_n (pc' := 3) 1 dX9_tasting_2 rfl rfl ?_
  refine g_iload_n (pc' := 4) 2 dX9_tasting_3 rfl rfl ?_
  refine g_iload_n (pc' := 5) 3 dX9_tasting_4 rfl rfl ?_
  refine g_callVi (pc' := 8) (As := [vi a, vi b, vi c]) (b := 0) (S := [vr X 0]) dX9_tasting_5 rfl m_X9_223 w_X9_addTasting (c_X9_addTasting X M hi a ha b hb c hc) rfl ⟨_, _, _, rfl, rfl, rfl⟩ (by decide) (by decide) rfl (Nat.le_of_ble_eq_true rfl) (fun z2 M3 q1 => ?_)
  obtain ⟨iM3, fM30, eM3_2_5, eM3_1_2, eM3_1_6, eM3_11_5, eM3_10_2, eM3_10_4, eM3_10_6, eM3_20_5, eM3_19_2, eM3_19_4, eM3_19_6, eM3_29_0, eM3_29_1, eM3_31_1, eM3_0_11, eM3_0_12, eM3_0_13, eM3_0_10, pM3⟩ := q1
  have fM3 : Fr (fun c => c = 1 ∨ c = 8 ∨ c = 0 ∨ c = 96) M M3 := Fr.tr Fr.rf fM30 fi_19
  have q2_5_M3 : id (M3 2 5 = M 2 5) := eM3_2_5
  have q1_2_M3 : id (M3 1 2 = M 1 2) := eM3_1_2
  have q1_6_M3 : id (M3 1 6 = M 1 6) := eM3_1_6
  have q11_5_M3 : id (M3 11 5 = M 11 5) := eM3_11_5
  have q10_2_M3 : id (M3 10 2 = M 10 2) := eM3_10_2
  have q10_4_M3 : id (M3 10 4 = M 10 4) := eM3_10_4
  have q10_6_M3 : id (M3 10 6 = M 10 6) := eM3_10_6
  have q20_5_M3 : id (M3 20 5 = M 20 5) := eM3_20_5
  have q19_2_M3 : id (M3 19 2 = M 19 2) := eM3_19_2
  have q19_4_M3 : id (M3 19 4 = M 19 4) := eM3_19_4
  have q19_6_M3 : id (M3 19 6 = M 19 6) := eM3_19_6
  have q29_0_M3 : id (M3 29 0 = M 29 0) := eM3_29_0
  have q29_1_M3 : id (M3 29 1 = M 29 1) := eM3_29_1
  have q31_1_M3 : id (M3 31 1 = M 31 1) := eM3_31_1
  have q0_11_M3 : id (M3 0 11 = M 0 11) := eM3_0_11
  have q0_12_M3 : id (M3 0 12 = M 0 12) := eM3_0_12
  have q0_13_M3 : id (M3 0 13 = M 0 13) := eM3_0_13
  have q0_10_M3 : (M3 0 10 = M 0 10) := eM3_0_10
  have wM3_0_10 : M3 0 10 = M 0 10 := eM3_0_10
  have wM3_0_10 : M3 0 10 = M 0 10 := eM3_0_10
  clear eM3_2_5 eM3_1_2 eM3_1_6 eM3_11_5 eM3_10_2 eM3_10_4 eM3_10_6 eM3_20_5 eM3_19_2 eM3_19_4 eM3_19_6 eM3_29_0 eM3_29_1 eM3_31_1 eM3_0_11 eM3_0_12 eM3_0_13
  have e96M3 := fM30 96 (by first | decide | omega | (dsimp only; omega))
  refine g_callVi (pc' := 11) (As := [vi z2]) (b := 0) (S := []) dX9_tasting_8 rfl m_X9_79 w_X9_answered (c_X9_answered_x X M3 iM3 z2 ⟨by omega, by omega⟩) rfl ⟨_, _, _, rfl, rfl, rfl⟩ (by decide) (by decide) rfl (Nat.le_of_ble_eq_true rfl) (fun z5 M6 q4 => ?_)
  obtain ⟨iM6, fM60, eM6_2_5, eM6_1_2, eM6_1_4, eM6_1_6, eM6_11_5, eM6_10_2, eM6_10_4, eM6_10_6, eM6_20_5, eM6_19_2, eM6_19_4, eM6_19_6, eM6_29_0, eM6_29_1, eM6_31_1, eM6_0_11, eM6_0_12, eM6_0_13, pM6⟩ := q4
  have fM6 : Fr (fun c => c = 1 ∨ c = 8 ∨ c = 0 ∨ c = 96) M M6 := Fr.tr fM3 fM60 fi_20
  have q2_5_M6 : id (M6 2 5 = M 2 5) := eM6_2_5.trans q2_5_M3
  have q1_2_M6 : id (M6 1 2 = M 1 2) := eM6_1_2.trans q1_2_M3
  have q1_6_M6 : id (M6 1 6 = M 1 6) := eM6_1_6.trans q1_6_M3
  have q11_5_M6 : id (M6 11 5 = M 11 5) := eM6_11_5.trans q11_5_M3
  have q10_2_M6 : id (M6 10 2 = M 10 2) := eM6_10_2.trans q10_2_M3
  have q10_4_M6 : id (M6 10 4 = M 10 4) := eM6_10_4.trans q10_4_M3
  have q10_6_M6 : id (M6 10 6 = M 10 6) := eM6_10_6.trans q10_6_M3
  have q20_5_M6 : id (M6 20 5 = M 20 5) := eM6_20_5.trans q20_5_M3
  have q19_2_M6 : id (M6 19 2 = M 19 2) := eM6_19_2.trans q19_2_M3
  have q19_4_M6 : id (M6 19 4 = M 19 4) := eM6_19_4.trans q19_4_M3
  have q19_6_M6 : id (M6 19 6 = M 19 6) := eM6_19_6.trans q19_6_M3
  have q29_0_M6 : id (M6 29 0 = M 29 0) := eM6_29_0.trans q29_0_M3
  have q29_1_M6 : id (M6 29 1 = M 29 1) := eM6_29_1.trans q29_1_M3
  have q31_1_M6 : id (M6 31 1 = M 31 1) := eM6_31_1.trans q31_1_M3
  have q0_11_M6 : id (M6 0 11 = M 0 11) := eM6_0_11.trans q0_11_M3
  have q0_12_M6 : id (M6 0 12 = M 0 12) := eM6_0_12.trans q0_12_M3
  have q0_13_M6 : id (M6 0 13 = M 0 13) := eM6_0_13.trans q0_13_M3
  have wM6_1_4 : M6 1 4 = M3 1 4 := eM6_1_4
  clear eM6_2_5 eM6_1_2 eM6_1_6 eM6_11_5 eM6_10_2 eM6_10_4 eM6_10_6 eM6_20_5 eM6_19_2 eM6_19_4 eM6_19_6 eM6_29_0 eM6_29_1 eM6_31_1 eM6_0_11 eM6_0_12 eM6_0_13
  obtain ⟨anM6, asM6, a96M6⟩ := pM6
  rw [e96M3] at a96M6
  subst anM6
  refine g_ireturn dX9_tasting_11 ?_
  exact ⟨iM6, fM6, q2_5_M6, q1_2_M6, q1_6_M6, q11_5_M6, q10_2_M6, q10_4_M6, q10_6_M6, q20_5_M6, q19_2_M6, q19_4_M6, q19_6_M6, q29_0_M6, q29_1_M6, q31_1_M6, q0_11_M6, q0_12_M6, q0_13_M6, by omega, asM6, a96M6⟩
set_option maxHeartbeats 4000000 in
set_option maxRecDepth 100000 in
theorem c_X9_wine_x (X : Cx) (M : Mm) (hi : IC M) (a : Int) (ha : inI a) (b : Int) (hb : inI b) (c : Int) (hc : inI c) : Con X 4 yX9_wine cX9_wine 4 (some .int) [vr X 0, vi a, vi b, vi c] M (Qi (fun r M1 => IC M1 ∧ Fr (fun c => c = 1 ∨ c = 9 ∨ c = 0 ∨ c = 96) M M1 ∧ M1 2 5 = M 2 5 ∧ M1 1 2 = M 1 2 ∧ M1 1 4 = M 1 4 ∧ M1 11 5 = M 11 5 ∧ M1 10 2 = M 10 2 ∧ M1 10 4 = M 10 4 ∧ M1 10 6 = M 10 6 ∧ M1 20 5 = M 20 5 ∧ M1 19 2 = M 19 2 ∧ M1 19 4 = M 19 4 ∧ M1 19 6 = M 19 6 ∧ M1 29 0 = M 29 0 ∧ M1 29 1 = M 29 1 ∧ M1 31 1 = M 31 1 ∧ M1 0 11 = M 0 11 ∧ M1 0 12 = M 0 12 ∧ M1 0 13 = M 0 13 ∧ ((((a < 0 ∨ 100 < a ∨ b < 0 ∨ 99 < b ∨ c < 0 ∨ 20 < c) → r = -1 ∧ M1 1 6 = M 1 6) ∧ (0 ≤ a → a ≤ 100 → 0 ≤ b → b ≤ 99 → 0 ≤ c → c ≤ 20 → 6 ≤ M 1 6 → r = -5 ∧ M1 1 6 = M 1 6) ∧ (0 ≤ a → a ≤ 100 → 0 ≤ b → b ≤ 99 → 0 ≤ c → c ≤ 20 → M 1 6 < 6 → r = M 1 6 ∧ M1 1 6 = M 1 6 + 1)) ∧ M1 0 10 = ngv r ∧ M1 96 = ansF (M 96) r))) := by
  refine Con.ofG rfl (Nat.le_of_ble_eq_true rfl) ?_
  show G X 4 RX9 cX9_wine 4 (some .int) (Qi (fun r M1 => IC M1 ∧ Fr (fun c => c = 1 ∨ c = 9 ∨ c = 0 ∨ c = 96) M M1 ∧ M1 2 5 = M 2 5 ∧ M1 1 2 = M 1 2 ∧ M1 1 4 = M 1 4 ∧ M1 11 5 = M 11 5 ∧ M1 10 2 = M 10 2 ∧ M1 10 4 = M 10 4 ∧ M1 10 6 = M 10 6 ∧ M1 20 5 = M 20 5 ∧ M1 19 2 = M 19 2 ∧ M1 19 4 = M 19 4 ∧ M1 19 6 = M 19 6 ∧ M1 29 0 = M 29 0 ∧ M1 29 1 = M 29 1 ∧ M1 31 1 = M 31 1 ∧ M1 0 11 = M 0 11 ∧ M1 0 12 = M 0 12 ∧ M1 0 13 = M 0 13 ∧ ((((a < 0 ∨ 100 < a ∨ b < 0 ∨ 99 < b ∨ c < 0 ∨ 20 < c) → r = -1 ∧ M1 1 6 = M 1 6) ∧ (0 ≤ a → a ≤ 100 → 0 ≤ b → b ≤ 99 → 0 ≤ c → c ≤ 20 → 6 ≤ M 1 6 → r = -5 ∧ M1 1 6 = M 1 6) ∧ (0 ≤ a → a ≤ 100 → 0 ≤ b → b ≤ 99 → 0 ≤ c → c ≤ 20 → M 1 6 < 6 → r = M 1 6 ∧ M1 1 6 = M 1 6 + 1)) ∧ M1 0 10 = ngv r ∧ M1 96 = ansF (M 96) r))) 0 [(0, vr X 0), (1, vi a), (2, vi b), (3, vi c)] [] M
  have hsc := hi.2.1.1.1
  have hsd := hi.2.1.1.2
  refine g_aload_n (pc' := 1) 0 dX9_wine_0 rfl rfl ?_
  refine g_aload_n (pc' := 2) 0 dX9_wine_1 rfl rfl ?_
  refine g_iload_n (pc' := 3) 1 dX9_wine_2 rfl rfl ?_
  refine g_iload_n (pc' := 4) 2 dX9_wine_3 rfl rfl ?_
  refine g_iload_n (pc' := 5) 3 dX9_wine_4 rfl rfl ?_
  refine g_callVi (pc' := 8) (As := [vi a, vi b, vi c]) (b := 0) (S := [vr X 0]) dX9_wine_5 rfl m_X9_244 w_X9_addWine (c_X9_addWine X M hi a ha b hb c hc) rfl ⟨_, _, _, rfl, rfl, rfl⟩ (by decide) (by decide) rfl (Nat.le_of_ble_eq_true rfl) (fun z2 M3 q1 => ?_)
  obtain ⟨iM3, fM30, eM3_2_5, eM3_1_2, eM3_1_4, eM3_11_5, eM3_10_2, eM3_10_4, eM3_10_6, eM3_20_5, eM3_19_2, eM3_19_4, eM3_19_6, eM3_29_0, eM3_29_1, eM3_31_1, eM3_0_11, eM3_0_12, eM3_0_13, eM3_0_10, pM3⟩ := q1
  have fM3 : Fr (fun c => c = 1 ∨ c = 9 ∨ c = 0 ∨ c = 96) M M3 := Fr.tr Fr.rf fM30 fi_21
  have q2_5_M3 : id (M3 2 5 = M 2 5) := eM3_2_5
  have q1_2_M3 : id (M3 1 2 = M 1 2) := eM3_1_2
  have q1_4_M3 : id (M3 1 4 = M 1 4) := eM3_1_4
  have q11_5_M3 : id (M3 11 5 = M 11 5) := eM3_11_5
  have q10_2_M3 : id (M3 10 2 = M 10 2) := eM3_10_2
  have q10_4_M3 : id (M3 10 4 = M 10 4) := eM3_10_4
  have q10_6_M3 : id (M3 10 6 = M 10 6) := eM3_10_6
  have q20_5_M3 : id (M3 20 5 = M 20 5) := eM3_20_5
  have q19_2_M3 : id (M3 19 2 = M 19 2) := eM3_19_2
  have q19_4_M3 : id (M3 19 4 = M 19 4) := eM3_19_4
  have q19_6_M3 : id (M3 19 6 = M 19 6) := eM3_19_6
  have q29_0_M3 : id (M3 29 0 = M 29 0) := eM3_29_0
  have q29_1_M3 : id (M3 29 1 = M 29 1) := eM3_29_1
  have q31_1_M3 : id (M3 31 1 = M 31 1) := eM3_31_1
  have q0_11_M3 : id (M3 0 11 = M 0 11) := eM3_0_11
  have q0_12_M3 : id (M3 0 12 = M 0 12) := eM3_0_12
  have q0_13_M3 : id (M3 0 13 = M 0 13) := eM3_0_13
  have q0_10_M3 : (M3 0 10 = M 0 10) := eM3_0_10
  have wM3_0_10 : M3 0 10 = M 0 10 := eM3_0_10
  have wM3_0_10 : M3 0 10 = M 0 10 := eM3_0_10
  clear eM3_2_5 eM3_1_2 eM3_1_4 eM3_11_5 eM3_10_2 eM3_10_4 eM3_10_6 eM3_20_5 eM3_19_2 eM3_19_4 eM3_19_6 eM3_29_0 eM3_29_1 eM3_31_1 eM3_0_11 eM3_0_12 eM3_0_13
  have e96M3 := fM30 96 (by first | decide | omega | (dsimp only; omega))
  refine g_callVi (pc' := 11) (As := [vi z2]) (b := 0) (S := []) dX9_wine_8 rfl m_X9_79 w_X9_answered (c_X9_answered_x X M3 iM3 z2 ⟨by omega, by omega⟩) rfl ⟨_, _, _, rfl, rfl, rfl⟩ (by decide) (by decide) rfl (Nat.le_of_ble_eq_true rfl) (fun z5 M6 q4 => ?_)
  obtain ⟨iM6, fM60, eM6_2_5, eM6_1_2, eM6_1_4, eM6_1_6, eM6_11_5, eM6_10_2, eM6_10_4, eM6_10_6, eM6_20_5, eM6_19_2, eM6_19_4, eM6_19_6, eM6_29_0, eM6_29_1, eM6_31_1, eM6_0_11, eM6_0_12, eM6_0_13, pM6⟩ := q4
  have fM6 : Fr (fun c => c = 1 ∨ c = 9 ∨ c = 0 ∨ c = 96) M M6 := Fr.tr fM3 fM60 fi_22
  have q2_5_M6 : id (M6 2 5 = M 2 5) := eM6_2_5.trans q2_5_M3
  have q1_2_M6 : id (M6 1 2 = M 1 2) := eM6_1_2.trans q1_2_M3
  have q1_4_M6 : id (M6 1 4 = M 1 4) := eM6_1_4.trans q1_4_M3
  have q11_5_M6 : id (M6 11 5 = M 11 5) := eM6_11_5.trans q11_5_M3
  have q10_2_M6 : id (M6 10 2 = M 10 2) := eM6_10_2.trans q10_2_M3
  have q10_4_M6 : id (M6 10 4 = M 10 4) := eM6_10_4.trans q10_4_M3
  have q10_6_M6 : id (M6 10 6 = M 10 6) := eM6_10_6.trans q10_6_M3
  have q20_5_M6 : id (M6 20 5 = M 20 5) := eM6_20_5.trans q20_5_M3
  have q19_2_M6 : id (M6 19 2 = M 19 2) := eM6_19_2.trans q19_2_M3
  have q19_4_M6 : id (M6 19 4 = M 19 4) := eM6_19_4.trans q19_4_M3
  have q19_6_M6 : id (M6 19 6 = M 19 6) := eM6_19_6.trans q19_6_M3
  have q29_0_M6 : id (M6 29 0 = M 29 0) := eM6_29_0.trans q29_0_M3
  have q29_1_M6 : id (M6 29 1 = M 29 1) := eM6_29_1.trans q29_1_M3
  have q31_1_M6 : id (M6 31 1 = M 31 1) := eM6_31_1.trans q31_1_M3
  have q0_11_M6 : id (M6 0 11 = M 0 11) := eM6_0_11.trans q0_11_M3
  have q0_12_M6 : id (M6 0 12 = M 0 12) := eM6_0_12.trans q0_12_M3
  have q0_13_M6 : id (M6 0 13 = M 0 13) := eM6_0_13.trans q0_13_M3
  have wM6_1_6 : M6 1 6 = M3 1 6 := eM6_1_6
  clear eM6_2_5 eM6_1_2 eM6_1_4 eM6_11_5 eM6_10_2 eM6_10_4 eM6_10_6 eM6_20_5 eM6_19_2 eM6_19_4 eM6_19_6 eM6_29_0 eM6_29_1 eM6_31_1 eM6_0_11 eM6_0_12 eM6_0_13
  obtain ⟨anM6, asM6, a96M6⟩ := pM6
  rw [e96M3] at a96M6
  subst anM6
  refine g_ireturn dX9_wine_11 ?_
  exact ⟨iM6, fM6, q2_5_M6, q1_2_M6, q1_4_M6, q11_5_M6, q10_2_M6, q10_4_M6, q10_6_M6, q20_5_M6, q19_2_M6, q19_4_M6, q19_6_M6, q29_0_M6, q29_1_M6, q31_1_M6, q0_11_M6, q0_12_M6, q0_13_M6, by omega, asM6, a96M6⟩
set_option maxHeartbeats 4000000 in
set_option maxRecDepth 100000 in
theorem c_X9_drink_x (X : Cx) (M : Mm) (hi : IC M) (a : Int) (ha : inI a) : Con X 4 yX9_drink cX9_drink 2 (some .int) [vr X 0, vi a] M (Qi (fun r M1 => IC M1 ∧ Fr (fun c => c = 1 ∨ c = 9 ∨ c = 0 ∨ c = 96) M M1 ∧ M1 2 5 = M 2 5 ∧ M1 1 2 = M 1 2 ∧ M1 1 4 = M 1 4 ∧ M1 11 5 = M 11 5 ∧ M1 10 2 = M 10 2 ∧ M1 10 4 = M 10 4 ∧ M1 10 6 = M 10 6 ∧ M1 20 5 = M 20 5 ∧ M1 19 2 = M 19 2 ∧ M1 19 4 = M 19 4 ∧ M1 19 6 = M 19 6 ∧ M1 29 0 = M 29 0 ∧ M1 29 1 = M 29 1 ∧ M1 31 1 = M 31 1 ∧ M1 0 11 = M 0 11 ∧ M1 0 12 = M 0 12 ∧ M1 0 13 = M 0 13 ∧ ((((a < 0 ∨ M 1 6 ≤ a) → r = -2 ∧ M1 1 6 = M 1 6) ∧ (0 ≤ a → a < M 1 6 → r = M 1 6 - 1 ∧ M1 1 6 = M 1 6 - 1)) ∧ M1 0 10 = ngv r ∧ M1 96 = ansF (M 96) r))) := by
  refine Con.ofG rfl (Nat.le_of_ble_eq_true rfl) ?_
  show G X 4 RX9 cX9_drink 2 (some .int) (Qi (fun r M1 => IC M1 ∧ Fr (fun c => c = 1 ∨ c = 9 ∨ c = 0 ∨ c = 96) M M1 ∧ M1 2 5 = M 2 5 ∧ M1 1 2 = M 1 2 ∧ M1 1 4 = M 1 4 ∧ M1 11 5 = M 11 5 ∧ M1 10 2 = M 10 2 ∧ M1 10 4 = M 10 4 ∧ M1 10 6 = M 10 6 ∧ M1 20 5 = M 20 5 ∧ M1 19 2 = M 19 2 ∧ M1 19 4 = M 19 4 ∧ M1 19 6 = M 19 6 ∧ M1 29 0 = M 29 0 ∧ M1 29 1 = M 29 1 ∧ M1 31 1 = M 31 1 ∧ M1 0 11 = M 0 11 ∧ M1 0 12 = M 0 12 ∧ M1 0 13 = M 0 13 ∧ ((((a < 0 ∨ M 1 6 ≤ a) → r = -2 ∧ M1 1 6 = M 1 6) ∧ (0 ≤ a → a < M 1 6 → r = M 1 6 - 1 ∧ M1 1 6 = M 1 6 - 1)) ∧ M1 0 10 = ngv r ∧ M1 96 = ansF (M 96) r))) 0 [(0, vr X 0), (1, vi a)] [] M
  have hsc := hi.2.1.1.1
  have hsd := hi.2.1.1.2
  refine g_aload_n (pc' := 1) 0 dX9_drink_0 rfl rfl ?_
  refine g_aload_n (pc' := 2) 0 dX9_drink_1 rfl rfl ?_
  refine g_iload_n (pc' := 3) 1 dX9_drink_2 rfl rfl ?_
  refine g_callVi (pc' := 6) (As := [vi a]) (b := 0) (S := [vr X 0]) dX9_drink_3 rfl m_X9_253 w_X9_removeWine (c_X9_removeWine X M hi a ha) rfl ⟨_, _, _, rfl, rfl, rfl⟩ (by decide) (by decide) rfl (Nat.le_of_ble_eq_true rfl) (fun z2 M3 q1 => ?_)
  obtain ⟨iM3, fM30, eM3_2_5, eM3_1_2, eM3_1_4, eM3_11_5, eM3_10_2, eM3_10_4, eM3_10_6, eM3_20_5, eM3_19_2, eM3_19_4, eM3_19_6, eM3_29_0, eM3_29_1, eM3_31_1, eM3_0_11, eM3_0_12, eM3_0_13, eM3_0_10, pM3⟩ := q1
  have fM3 : Fr (fun c => c = 1 ∨ c = 9 ∨ c = 0 ∨ c = 96) M M3 := Fr.tr Fr.rf fM30 fi_21
  have q2_5_M3 : id (M3 2 5 = M 2 5) := eM3_2_5
  have q1_2_M3 : id (M3 1 2 = M 1 2) := eM3_1_2
  have q1_4_M3 : id (M3 1 4 = M 1 4) := eM3_1_4
  have q11_5_M3 : id (M3 11 5 = M 11 5) := eM3_11_5
  have q10_2_M3 : id (M3 10 2 = M 10 2) := eM3_10_2
  have q10_4_M3 : id (M3 10 4 = M 10 4) := eM3_10_4
  have q10_6_M3 : id (M3 10 6 = M 10 6) := eM3_10_6
  have q20_5_M3 : id (M3 20 5 = M 20 5) := eM3_20_5
  have q19_2_M3 : id (M3 19 2 = M 19 2) := eM3_19_2
  have q19_4_M3 : id (M3 19 4 = M 19 4) := eM3_19_4
  have q19_6_M3 : id (M3 19 6 = M 19 6) := eM3_19_6
  have q29_0_M3 : id (M3 29 0 = M 29 0) := eM3_29_0
  have q29_1_M3 : id (M3 29 1 = M 29 1) := eM3_29_1
  have q31_1_M3 : id (M3 31 1 = M 31 1) := eM3_31_1
  have q0_11_M3 : id (M3 0 11 = M 0 11) := eM3_0_11
  have q0_12_M3 : id (M3 0 12 = M 0 12) := eM3_0_12
  have q0_13_M3 : id (M3 0 13 = M 0 13) := eM3_0_13
  have q0_10_M3 : (M3 0 10 = M 0 10) := eM3_0_10
  have wM3_0_10 : M3 0 10 = M 0 10 := eM3_0_10
  have wM3_0_10 : M3 0 10 = M 0 10 := eM3_0_10
  clear eM3_2_5 eM3_1_2 eM3_1_4 eM3_11_5 eM3_10_2 eM3_10_4 eM3_10_6 eM3_20_5 eM3_19_2 eM3_19_4 eM3_19_6 eM3_29_0 eM3_29_1 eM3_31_1 eM3_0_11 eM3_0_12 eM3_0_13
  have e96M3 := fM30 96 (by first | decide | omega | (dsimp only; omega))
  refine g_callVi (pc' := 9) (As := [vi z2]) (b := 0) (S := []) dX9_drink_6 rfl m_X9_79 w_X9_answered (c_X9_answered_x X M3 iM3 z2 ⟨by omega, by omega⟩) rfl ⟨_, _, _, rfl, rfl, rfl⟩ (by decide) (by decide) rfl (Nat.le_of_ble_eq_true rfl) (fun z5 M6 q4 => ?_)
  obtain ⟨iM6, fM60, eM6_2_5, eM6_1_2, eM6_1_4, eM6_1_6, eM6_11_5, eM6_10_2, eM6_10_4, eM6_10_6, eM6_20_5, eM6_19_2, eM6_19_4, eM6_19_6, eM6_29_0, eM6_29_1, eM6_31_1, eM6_0_11, eM6_0_12, eM6_0_13, pM6⟩ := q4
  have fM6 : Fr (fun c => c = 1 ∨ c = 9 ∨ c = 0 ∨ c = 96) M M6 := Fr.tr fM3 fM60 fi_22
  have q2_5_M6 : id (M6 2 5 = M 2 5) := eM6_2_5.trans q2_5_M3
  have q1_2_M6 : id (M6 1 2 = M 1 2) := eM6_1_2.trans q1_2_M3
  have q1_4_M6 : id (M6 1 4 = M 1 4) := eM6_1_4.trans q1_4_M3
  have q11_5_M6 : id (M6 11 5 = M 11 5) := eM6_11_5.trans q11_5_M3
  have q10_2_M6 : id (M6 10 2 = M 10 2) := eM6_10_2.trans q10_2_M3
  have q10_4_M6 : id (M6 10 4 = M 10 4) := eM6_10_4.trans q10_4_M3
  have q10_6_M6 : id (M6 10 6 = M 10 6) := eM6_10_6.trans q10_6_M3
  have q20_5_M6 : id (M6 20 5 = M 20 5) := eM6_20_5.trans q20_5_M3
  have q19_2_M6 : id (M6 19 2 = M 19 2) := eM6_19_2.trans q19_2_M3
  have q19_4_M6 : id (M6 19 4 = M 19 4) := eM6_19_4.trans q19_4_M3
  have q19_6_M6 : id (M6 19 6 = M 19 6) := eM6_19_6.trans q19_6_M3
  have q29_0_M6 : id (M6 29 0 = M 29 0) := eM6_29_0.trans q29_0_M3
  have q29_1_M6 : id (M6 29 1 = M 29 1) := eM6_29_1.trans q29_1_M3
  have q31_1_M6 : id (M6 31 1 = M 31 1) := eM6_31_1.trans q31_1_M3
  have q0_11_M6 : id (M6 0 11 = M 0 11) := eM6_0_11.trans q0_11_M3
  have q0_12_M6 : id (M6 0 12 = M 0 12) := eM6_0_12.trans q0_12_M3
  have q0_13_M6 : id (M6 0 13 = M 0 13) := eM6_0_13.trans q0_13_M3
  have wM6_1_6 : M6 1 6 = M3 1 6 := eM6_1_6
  clear eM6_2_5 eM6_1_2 eM6_1_4 eM6_11_5 eM6_10_2 eM6_10_4 eM6_10_6 eM6_20_5 eM6_19_2 eM6_19_4 eM6_19_6 eM6_29_0 eM6_29_1 eM6_31_1 eM6_0_11 eM6_0_12 eM6_0_13
  obtain ⟨anM6, asM6, a96M6⟩ := pM6
  rw [e96M3] at a96M6
  subst anM6
  refine g_ireturn dX9_drink_9 ?_
  exact ⟨iM6, fM6, q2_5_M6, q1_2_M6, q1_4_M6, q11_5_M6, q10_2_M6, q10_4_M6, q10_6_M6, q20_5_M6, q19_2_M6, q19_4_M6, q19_6_M6, q29_0_M6, q29_1_M6, q31_1_M6, q0_11_M6, q0_12_M6, q0_13_M6, by omega, asM6, a96M6⟩
set_option maxHeartbeats 4000000 in
set_option maxRecDepth 100000 in
theorem c_X10_wine_x (X : Cx) (M : Mm) (hi : IM M) (a : Int) (ha : inI a) (b : Int) (hb : inI b) (c : Int) (hc : inI c) : Con X 12 yX10_wine cX10_wine 5 (some .int) [vr X 97, vi a, vi b, vi c] M (Qi (fun r M1 => IM M1 ∧ Fr (fun c => c = 97 ∨ c = 98 ∨ c = 99) M M1 ∧ M1 99 0 = M 99 0 ∧ M1 99 1 = M 99 1 ∧ M1 99 2 = M 99 2 ∧ M1 100 0 = M 100 0 ∧ M1 100 1 = M 100 1 ∧ M1 100 2 = M 100 2 ∧ M1 100 3 = M 100 3 ∧ M1 100 49 = M 100 49 ∧ M1 100 50 = M 100 50 ∧ M1 100 51 = M 100 51 ∧ M1 100 52 = M 100 52 ∧ M1 103 0 = M 103 0 ∧ M1 103 1 = M 103 1 ∧ M1 97 12 = M 97 12 ∧ M1 97 17 = M 97 17 ∧ M1 97 33 = M 97 33 ∧ M1 97 10 = M 97 10 ∧ M1 97 44 = M 97 44 ∧ ((((a < 0 ∨ 100 < a ∨ b < 0 ∨ 99 < b ∨ c < 0 ∨ 20 < c) → r = -1 ∧ M1 99 3 = M 99 3) ∧ (0 ≤ a → a ≤ 100 → 0 ≤ b → b ≤ 99 → 0 ≤ c → c ≤ 20 → 6 ≤ M 99 3 → r = -5 ∧ M1 99 3 = M 99 3) ∧ (0 ≤ a → a ≤ 100 → 0 ≤ b → b ≤ 99 → 0 ≤ c → c ≤ 20 → M 99 3 < 6 → r = M 99 3 ∧ M1 99 3 = M 99 3 + 1)) ∧ (∀ k : Nat, 4 ≤ k → k < 13 → M1 99 k = M 99 k) ∧ M1 97 1 = ngv r ∧ M1 98 = telF (M 98) r))) := by
  refine Con.ofG rfl (Nat.le_of_ble_eq_true rfl) ?_
  show G X 12 RX10 cX10_wine 5 (some .int) (Qi (fun r M1 => IM M1 ∧ Fr (fun c => c = 97 ∨ c = 98 ∨ c = 99) M M1 ∧ M1 99 0 = M 99 0 ∧ M1 99 1 = M 99 1 ∧ M1 99 2 = M 99 2 ∧ M1 100 0 = M 100 0 ∧ M1 100 1 = M 100 1 ∧ M1 100 2 = M 100 2 ∧ M1 100 3 = M 100 3 ∧ M1 100 49 = M 100 49 ∧ M1 100 50 = M 100 50 ∧ M1 100 51 = M 100 51 ∧ M1 100 52 = M 100 52 ∧ M1 103 0 = M 103 0 ∧ M1 103 1 = M 103 1 ∧ M1 97 12 = M 97 12 ∧ M1 97 17 = M 97 17 ∧ M1 97 33 = M 97 33 ∧ M1 97 10 = M 97 10 ∧ M1 97 44 = M 97 44 ∧ ((((a < 0 ∨ 100 < a ∨ b < 0 ∨ 99 < b ∨ c < 0 ∨ 20 < c) → r = -1 ∧ M1 99 3 = M 99 3) ∧ (0 ≤ a → a ≤ 100 → 0 ≤ b → b ≤ 99 → 0 ≤ c → c ≤ 20 → 6 ≤ M 99 3 → r = -5 ∧ M1 99 3 = M 99 3) ∧ (0 ≤ a → a ≤ 100 → 0 ≤ b → b ≤ 99 → 0 ≤ c → c ≤ 20 → M 99 3 < 6 → r = M 99 3 ∧ M1 99 3 = M 99 3 + 1)) ∧ (∀ k : Nat, 4 ≤ k → k < 13 → M1 99 k = M 99 k) ∧ M1 97 1 = ngv r ∧ M1 98 = telF (M 98) r))) 0 [(0, vr X 97), (1, vi a), (2, vi b), (3, vi c)] [] M
  have p0 := hi.1.1
  have p1 := hi.1.2.1
  have p2 := hi.1.2.2.1
  have p3 := hi.1.2.2.2.1
  have p12 := hi.2.2.2.1
  refine g_aload_n (pc' := 1) 0 dX10_wine_0 rfl rfl ?_
  refine g_iconst (pc' := 2) dX10_wine_1 rfl ?_
  refine g_putI (pc' := 5) dX10_wine_2 rfl p_X10_77 rfl rfl (by decide) (fun M1 hM1 => ?_)
  have iM1 : IM M1 := IM.wr hi hM1 (by unfold okv; first | decide | omega)
  have fM1 : Fr (fun c => c = 97 ∨ c = 98 ∨ c = 99) M M1 := Fr.wr Fr.rf hM1 (by first | decide | omega | (dsimp only; omega))
  have q99_0_M1 : (M1 99 0 = M 99 0) := (show M1 99 0 = M 99 0 by rw [hM1]; exact mu_ne _ _ (by first | decide | omega))
  have q99_1_M1 : (M1 99 1 = M 99 1) := (show M1 99 1 = M 99 1 by rw [hM1]; exact mu_ne _ _ (by first | decide | omega))
  have q99_2_M1 : (M1 99 2 = M 99 2) := (show M1 99 2 = M 99 2 by rw [hM1]; exact mu_ne _ _ (by first | decide | omega))
  have q100_0_M1 : id (M1 100 0 = M 100 0) := (show M1 100 0 = M 100 0 by rw [hM1]; exact mu_ne _ _ (by first | decide | omega))
  have q100_1_M1 : id (M1 100 1 = M 100 1) := (show M1 100 1 = M 100 1 by rw [hM1]; exact mu_ne _ _ (by first | decide | omega))
  have q100_2_M1 : id (M1 100 2 = M 100 2) := (show M1 100 2 = M 100 2 by rw [hM1]; exact mu_ne _ _ (by first | decide | omega))
  have q100_3_M1 : id (M1 100 3 = M 100 3) := (show M1 100 3 = M 100 3 by rw [hM1]; exact mu_ne _ _ (by first | decide | omega))
  have q100_49_M1 : id (M1 100 49 = M 100 49) := (show M1 100 49 = M 100 49 by rw [hM1]; exact mu_ne _ _ (by first | decide | omega))
  have q100_50_M1 : id (M1 100 50 = M 100 50) := (show M1 100 50 = M 100 50 by rw [hM1]; exact mu_ne _ _ (by first | decide | omega))
  have q100_51_M1 : id (M1 100 51 = M 100 51) := (show M1 100 51 = M 100 51 by rw [hM1]; exact mu_ne _ _ (by first | decide | omega))
  have q100_52_M1 : id (M1 100 52 = M 100 52) := (show M1 100 52 = M 100 52 by rw [hM1]; exact mu_ne _ _ (by first | decide | omega))
  have q103_0_M1 : id (M1 103 0 = M 103 0) := (show M1 103 0 = M 103 0 by rw [hM1]; exact mu_ne _ _ (by first | decide | omega))
  have q103_1_M1 : id (M1 103 1 = M 103 1) := (show M1 103 1 = M 103 1 by rw [hM1]; exact mu_ne _ _ (by first | decide | omega))
  have q97_12_M1 : (M1 97 12 = M 97 12) := (show M1 97 12 = M 97 12 by rw [hM1]; exact mu_ne _ _ (by first | decide | omega))
  have q97_17_M1 : (M1 97 17 = M 97 17) := (show M1 97 17 = M 97 17 by rw [hM1]; exact mu_ne _ _ (by first | decide | omega))
  have q97_33_M1 : (M1 97 33 = M 97 33) := (show M1 97 33 = M 97 33 by rw [hM1]; exact mu_ne _ _ (by first | decide | omega))
  have q97_10_M1 : (M1 97 10 = M 97 10) := (show M1 97 10 = M 97 10 by rw [hM1]; exact mu_ne _ _ (by first | decide | omega))
  have q97_44_M1 : (M1 97 44 = M 97 44) := (show M1 97 44 = M 97 44 by rw [hM1]; exact mu_ne _ _ (by first | decide | omega))
  have q99_3_M1 : (M1 99 3 = M 99 3) := (show M1 99 3 = M 99 3 by rw [hM1]; exact mu_ne _ _ (by first | decide | omega))
  have q97_1_M1 : (M1 97 1 = M 97 1) := (show M1 97 1 = M 97 1 by rw [hM1]; exact mu_ne _ _ (by first | decide | omega))
  have wM1_99_3 : M1 99 3 = M 99 3 := by rw [hM1]; exact mu_ne _ _ (by first | decide | omega)
  have wM1_97_1 : M1 97 1 = M 97 1 := by rw [hM1]; exact mu_ne _ _ (by first | decide | omega)
  have wM1_97_1 : M1 97 1 = M 97 1 := by rw [hM1]; exact mu_ne _ _ (by first | decide | omega)
  have xM1_97_0 : M1 97 0 = 0 := by rw [hM1]; exact mu_at _ _ _ _
  have rkM1 : ∀ k : Nat, 4 ≤ k → k < 13 → M1 99 k = M 99 k := fun k hk1 hk2 => by rw [hM1, mu_cell _ _ (by decide)]
  have k98M1 : M1 98 = M 98 := (show M1 98 = M 98 by rw [hM1]; exact mu_cell _ _ (by decide))
  refine g_iload_n (pc' := 6) 1 dX10_wine_5 rfl rfl ?_
  refine g_i2l (pc' := 7) ha dX10_wine_6 rfl ?_
  refine g_lconst (pc' := 8) (v := 0) dX10_wine_7 rfl (by decide) ?_
  refine g_ldc2 (pc' := 11) (v := 100) dX10_wine_8 rfl k_X10_110 ?_
  refine g_callSip (pc' := 14) (As := [vl a, vl 0, vl 100]) (S := []) dX10_wine_11 rfl m_X10_83 w_X10_in (c_X10_in X M1 a ⟨by omega, by omega⟩ 0 (by decide) 100 (by decide)) rfl (by decide) (by decide) rfl (Nat.le_of_ble_eq_true rfl) (fun z3 q2 => ?_)
  refine g_if_eq (pc' := 17) (tgt := 41) ⟨by omega, by omega⟩ dX10_wine_14 rfl rfl (fun c4 => ?_) (fun c4 => ?_)
  · replace q2 := q2.resolve_left (fun h => absurd (c4.symm.trans h.1) (by decide))
    refine g_aload_n (pc' := 42) 0 dX10_wine_41 rfl rfl ?_
    refine g_iconst (pc' := 43) dX10_wine_42 rfl ?_
    refine g_callVi (pc' := 46) (As := [vi (-1)]) (b := 97) (S := []) dX10_wine_43 rfl m_X10_87 w_X10_tell (c_X10_tell_x X M1 iM1 (-1) (by decide) (by omega)) rfl ⟨_, _, _, rfl, rfl, rfl⟩ (by decide) (by decide) rfl (Nat.le_of_ble_eq_true rfl) (fun z6 M7 q5 => ?_)
    obtain ⟨iM7, fM70, eM7_99_0, eM7_99_1, eM7_99_2, eM7_99_3, eM7_100_0, eM7_100_1, eM7_100_2, eM7_100_3, eM7_100_49, eM7_100_50, eM7_100_51, eM7_100_52, eM7_103_0, eM7_103_1, eM7_97_12, eM7_97_17, eM7_97_33, eM7_97_10, eM7_97_44, pM7⟩ := q5
    have fM7 : Fr (fun c => c = 97 ∨ c = 98 ∨ c = 99) M M7 := Fr.tr fM1 fM70 fi_30
    have q99_0_M7 : (M7 99 0 = M 99 0) := eM7_99_0.trans q99_0_M1
    have q99_1_M7 : (M7 99 1 = M 99 1) := eM7_99_1.trans q99_1_M1
    have q99_2_M7 : (M7 99 2 = M 99 2) := eM7_99_2.trans q99_2_M1
    have q100_0_M7 : id (M7 100 0 = M 100 0) := eM7_100_0.trans q100_0_M1
    have q100_1_M7 : id (M7 100 1 = M 100 1) := eM7_100_1.trans q100_1_M1
    have q100_2_M7 : id (M7 100 2 = M 100 2) := eM7_100_2.trans q100_2_M1
    have q100_3_M7 : id (M7 100 3 = M 100 3) := eM7_100_3.trans q100_3_M1
    have q100_49_M7 : id (M7 100 49 = M 100 49) := eM7_100_49.trans q100_49_M1
    have q100_50_M7 : id (M7 100 50 = M 100 50) := eM7_100_50.trans q100_50_M1
    have q100_51_M7 : id (M7 100 51 = M 100 51) := eM7_100_51.trans q100_51_M1
    have q100_52_M7 : id (M7 100 52 = M 100 52) := eM7_100_52.trans q100_52_M1
    have q103_0_M7 : id (M7 103 0 = M 103 0) := eM7_103_0.trans q103_0_M1
    have q103_1_M7 : id (M7 103 1 = M 103 1) := eM7_103_1.trans q103_1_M1
    have q97_12_M7 : (M7 97 12 = M 97 12) := eM7_97_12.trans q97_12_M1
    have q97_17_M7 : (M7 97 17 = M 97 17) := eM7_97_17.trans q97_17_M1
    have q97_33_M7 : (M7 97 33 = M 97 33) := eM7_97_33.trans q97_33_M1
    have q97_10_M7 : (M7 97 10 = M 97 10) := eM7_97_10.trans q97_10_M1
    have q97_44_M7 : (M7 97 44 = M 97 44) := eM7_97_44.trans q97_44_M1
    have q99_3_M7 : (M7 99 3 = M 99 3) := eM7_99_3.trans q99_3_M1
    have wM7_99_3 : M7 99 3 = M1 99 3 := eM7_99_3
    clear eM7_100_0 eM7_100_1 eM7_100_2 eM7_100_3 eM7_100_49 eM7_100_50 eM7_100_51 eM7_100_52 eM7_103_0 eM7_103_1
    obtain ⟨anM7, asM7, a98M7⟩ := pM7
    rw [k98M1] at a98M7
    subst anM7
    have t99 := fM70 99 (by decide)
    refine g_ireturn dX10_wine_46 ?_
    exact ⟨iM7, fM7, q99_0_M7, q99_1_M7, q99_2_M7, q100_0_M7, q100_1_M7, q100_2_M7, q100_3_M7, q100_49_M7, q100_50_M7, q100_51_M7, q100_52_M7, q103_0_M7, q103_1_M7, q97_12_M7, q97_17_M7, q97_33_M7, q97_10_M7, q97_44_M7, by omega, fun k hk1 hk2 => by rw [t99]; exact rkM1 k hk1 hk2, asM7, a98M7⟩
  · replace q2 := q2.resolve_right (fun h => c4 h.1)
    refine g_iload_n (pc' := 18) 2 dX10_wine_17 rfl rfl ?_
    refine g_i2l (pc' := 19) hb dX10_wine_18 rfl ?_
    refine g_lconst (pc' := 20) (v := 0) dX10_wine_19 rfl (by decide) ?_
    refine g_ldc2 (pc' := 23) (v := 99) dX10_wine_20 rfl k_X10_382 ?_
    refine g_callSip (pc' := 26) (As := [vl b, vl 0, vl 99]) (S := []) dX10_wine_23 rfl m_X10_83 w_X10_in (c_X10_in X M1 b ⟨by omega, by omega⟩ 0 (by decide) 99 (by decide)) rfl (by decide) (by decide) rfl (Nat.le_of_ble_eq_true rfl) (fun z9 q8 => ?_)
    refine g_if_eq (pc' := 29) (tgt := 41) ⟨by omega, by omega⟩ dX10_wine_26 rfl rfl (fun c10 => ?_) (fun c10 => ?_)
    · replace q8 := q8.resolve_left (fun h => absurd (c10.symm.trans h.1) (by decide))
      refine g_aload_n (pc' := 42) 0 dX10_wine_41 rfl rfl ?_
      refine g_iconst (pc' := 43) dX10_wine_42 rfl ?_
      refine g_callVi (pc' := 46) (As := [vi (-1)]) (b := 97) (S := []) dX10_wine_43 rfl m_X10_87 w_X10_tell (c_X10_tell_x X M1 iM1 (-1) (by decide) (by omega)) rfl ⟨_, _, _, rfl, rfl, rfl⟩ (by decide) (by decide) rfl (Nat.le_of_ble_eq_true rfl) (fun z12 M13 q11 => ?_)
      obtain ⟨iM13, fM130, eM13_99_0, eM13_99_1, eM13_99_2, eM13_99_3, eM13_100_0, eM13_100_1, eM13_100_2, eM13_100_3, eM13_100_49, eM13_100_50, eM13_100_51, eM13_100_52, eM13_103_0, eM13_103_1, eM13_97_12, eM13_97_17, eM13_97_33, eM13_97_10, eM13_97_44, pM13⟩ := q11
      have fM13 : Fr (fun c => c = 97 ∨ c = 98 ∨ c = 99) M M13 := Fr.tr fM1 fM130 fi_30
      have q99_0_M13 : (M13 99 0 = M 99 0) := eM13_99_0.trans q99_0_M1
      have q99_1_M13 : (M13 99 1 = M 99 1) := eM13_99_1.trans q99_1_M1
      have q99_2_M13 : (M13 99 2 = M 99 2) := eM13_99_2.trans q99_2_M1
      have q100_0_M13 : id (M13 100 0 = M 100 0) := eM13_100_0.trans q100_0_M1
      have q100_1_M13 : id (M13 100 1 = M 100 1) := eM13_100_1.trans q100_1_M1
      have q100_2_M13 : id (M13 100 2 = M 100 2) := eM13_100_2.trans q100_2_M1
      have q100_3_M13 : id (M13 100 3 = M 100 3) := eM13_100_3.trans q100_3_M1
      have q100_49_M13 : id (M13 100 49 = M 100 49) := eM13_100_49.trans q100_49_M1
      have q100_50_M13 : id (M13 100 50 = M 100 50) := eM13_100_50.trans q100_50_M1
      have q100_51_M13 : id (M13 100 51 = M 100 51) := eM13_100_51.trans q100_51_M1
      have q100_52_M13 : id (M13 100 52 = M 100 52) := eM13_100_52.trans q100_52_M1
      have q103_0_M13 : id (M13 103 0 = M 103 0) := eM13_103_0.trans q103_0_M1
      have q103_1_M13 : id (M13 103 1 = M 103 1) := eM13_103_1.trans q103_1_M1
      have q97_12_M13 : (M13 97 12 = M 97 12) := eM13_97_12.trans q97_12_M1
      have q97_17_M13 : (M13 97 17 = M 97 17) := eM13_97_17.trans q97_17_M1
      have q97_33_M13 : (M13 97 33 = M 97 33) := eM13_97_33.trans q97_33_M1
      have q97_10_M13 : (M13 97 10 = M 97 10) := eM13_97_10.trans q97_10_M1
      have q97_44_M13 : (M13 97 44 = M 97 44) := eM13_97_44.trans q97_44_M1
      have q99_3_M13 : (M13 99 3 = M 99 3) := eM13_99_3.trans q99_3_M1
      have wM13_99_3 : M13 99 3 = M1 99 3 := eM13_99_3
      clear eM13_100_0 eM13_100_1 eM13_100_2 eM13_100_3 eM13_100_49 eM13_100_50 eM13_100_51 eM13_100_52 eM13_103_0 eM13_103_1
      obtain ⟨anM13, asM13, a98M13⟩ := pM13
      rw [k98M1] at a98M13
      subst anM13
      have t99 := fM130 99 (by decide)
      refine g_ireturn dX10_wine_46 ?_
      exact ⟨iM13, fM13, q99_0_M13, q99_1_M13, q99_2_M13, q100_0_M13, q100_1_M13, q100_2_M13, q100_3_M13, q100_49_M13, q100_50_M13, q100_51_M13, q100_52_M13, q103_0_M13, q103_1_M13, q97_12_M13, q97_17_M13, q97_33_M13, q97_10_M13, q97_44_M13, by omega, fun k hk1 hk2 => by rw [t99]; exact rkM1 k hk1 hk2, asM13, a98M13⟩
    · replace q8 := q8.resolve_right (fun h => c10 h.1)
      refine g_iload_n (pc' := 30) 3 dX10_wine_29 rfl rfl ?_
      refine g_i2l (pc' := 31) hc dX10_wine_30 rfl ?_
      refine g_lconst (pc' := 32) (v := 0) dX10_wine_31 rfl (by decide) ?_
      refine g_ldc2 (pc' := 35) (v := 20) dX10_wine_32 rfl k_X10_204 ?_
      refine g_callSip (pc' := 38) (As := [vl c, vl 0, vl 20]) (S := []) dX10_wine_35 rfl m_X10_83 w_X10_in (c_X10_in X M1 c ⟨by omega, by omega⟩ 0 (by decide) 20 (by decide)) rfl (by decide) (by decide) rfl (Nat.le_of_ble_eq_true rfl) (fun z15 q14 => ?_)
      refine g_if_ne (pc' := 41) (tgt := 47) ⟨by omega, by omega⟩ dX10_wine_38 rfl rfl (fun c16 => ?_) (fun c16 => ?_)
      · replace q14 := q14.resolve_right (fun h => c16 h.1)
        refine g_aload_n (pc' := 48) 0 dX10_wine_47 rfl rfl ?_
        refine g_getR (pc' := 51) dX10_wine_48 rfl f_X10_13 rfl rfl ?_
        refine g_iconst (pc' := 52) dX10_wine_51 rfl ?_
        refine g_iald (pc' := 53) dX10_wine_52 rfl rfl (by decide) (by decide) (fun v17 ev17 rv17 => ?_)
        have ev17 : v17 = M1 99 3 := ev17
        have bv17 : 0 ≤ v17 ∧ v17 ≤ 6 := by rw [ev17]; exact iM1.1.2.2.2.1
        have av17 : v17 = M 99 3 := ev17.trans q99_3_M1
        refine g_istore (pc' := 55) (L' := [(4, vi v17), (0, vr X 97), (1, vi a), (2, vi b), (3, vi c)]) dX10_wine_53 rfl (by decide) rfl ?_
        refine g_iload (pc' := 57) 0 dX10_wine_55 rfl rfl ?_
        refine g_bipush (pc' := 59) (v := 6) dX10_wine_57 rfl (by decide) ?_
        refine g_ic_ne (pc' := 62) (tgt := 69) rv17 (by decide) dX10_wine_59 rfl rfl (fun c18 => ?_) (fun c18 => ?_)
        · refine g_aload_n (pc' := 70) 1 dX10_wine_69 rfl rfl ?_
          refine g_getR (pc' := 73) dX10_wine_70 rfl f_X10_13 rfl rfl ?_
          refine g_bipush (pc' := 75) (v := 31) dX10_wine_73 rfl (by decide) ?_
          refine g_iconst (pc' := 76) dX10_wine_75 rfl ?_
          refine g_iload (pc' := 78) 0 dX10_wine_76 rfl rfl ?_
          refine g_imul (pc' := 79) dX10_wine_78 rfl ?_
          refine g_iadd (pc' := 80) dX10_wine_79 rfl ?_
          refine g_iload_n (pc' := 81) 2 dX10_wine_80 rfl rfl ?_
          refine g_iast (pc' := 82) dX10_wine_81 rfl rfl (by omega) (by omega) ha (fun M19 hM19 => ?_)
          have iM19 : IM M19 := IM.wrow iM1 hM19 (by unfold okrow; omega)
          have fM19 : Fr (fun c => c = 97 ∨ c = 98 ∨ c = 99) M M19 := Fr.wr fM1 hM19 (by first | decide | omega | (dsimp only; omega))
          have q99_0_M19 : (M19 99 0 = M 99 0) := (show M19 99 0 = M1 99 0 by rw [hM19]; exact mu_ne _ _ (by first | decide | omega)).trans q99_0_M1
          have q99_1_M19 : (M19 99 1 = M 99 1) := (show M19 99 1 = M1 99 1 by rw [hM19]; exact mu_ne _ _ (by first | decide | omega)).trans q99_1_M1
          have q99_2_M19 : (M19 99 2 = M 99 2) := (show M19 99 2 = M1 99 2 by rw [hM19]; exact mu_ne _ _ (by first | decide | omega)).trans q99_2_M1
          have q100_0_M19 : id (M19 100 0 = M 100 0) := (show M19 100 0 = M1 100 0 by rw [hM19]; exact mu_ne _ _ (by first | decide | omega)).trans q100_0_M1
          have q100_1_M19 : id (M19 100 1 = M 100 1) := (show M19 100 1 = M1 100 1 by rw [hM19]; exact mu_ne _ _ (by first | decide | omega)).trans q100_1_M1
          have q100_2_M19 : id (M19 100 2 = M 100 2) := (show M19 100 2 = M1 100 2 by rw [hM19]; exact mu_ne _ _ (by first | decide | omega)).trans q100_2_M1
          have q100_3_M19 : id (M19 100 3 = M 100 3) := (show M19 100 3 = M1 100 3 by rw [hM19]; exact mu_ne _ _ (by first | decide | omega)).trans q100_3_M1
          have q100_49_M19 : id (M19 100 49 = M 100 49) := (show M19 100 49 = M1 100 49 by rw [hM19]; exact mu_ne _ _ (by first | decide | omega)).trans q100_49_M1
          have q100_50_M19 : id (M19 100 50 = M 100 50) := (show M19 100 50 = M1 100 50 by rw [hM19]; exact mu_ne _ _ (by first | decide | omega)).trans q100_50_M1
          have q100_51_M19 : id (M19 100 51 = M 100 51) := (show M19 100 51 = M1 100 51 by rw [hM19]; exact mu_ne _ _ (by first | decide | omega)).trans q100_51_M1
          have q100_52_M19 : id (M19 100 52 = M 100 52) := (show M19 100 52 = M1 100 52 by rw [hM19]; exact mu_ne _ _ (by first | decide | omega)).trans q100_52_M1
          have q103_0_M19 : id (M19 103 0 = M 103 0) := (show M19 103 0 = M1 103 0 by rw [hM19]; exact mu_ne _ _ (by first | decide | omega)).trans q103_0_M1
          have q103_1_M19 : id (M19 103 1 = M 103 1) := (show M19 103 1 = M1 103 1 by rw [hM19]; exact mu_ne _ _ (by first | decide | omega)).trans q103_1_M1
          have q97_12_M19 : (M19 97 12 = M 97 12) := (show M19 97 12 = M1 97 12 by rw [hM19]; exact mu_ne _ _ (by first | decide | omega)).trans q97_12_M1
          have q97_17_M19 : (M19 97 17 = M 97 17) := (show M19 97 17 = M1 97 17 by rw [hM19]; exact mu_ne _ _ (by first | decide | omega)).trans q97_17_M1
          have q97_33_M19 : (M19 97 33 = M 97 33) := (show M19 97 33 = M1 97 33 by rw [hM19]; exact mu_ne _ _ (by first | decide | omega)).trans q97_33_M1
          have q97_10_M19 : (M19 97 10 = M 97 10) := (show M19 97 10 = M1 97 10 by rw [hM19]; exact mu_ne _ _ (by first | decide | omega)).trans q97_10_M1
          have q97_44_M19 : (M19 97 44 = M 97 44) := (show M19 97 44 = M1 97 44 by rw [hM19]; exact mu_ne _ _ (by first | decide | omega)).trans q97_44_M1
          have q99_3_M19 : (M19 99 3 = M 99 3) := (show M19 99 3 = M1 99 3 by rw [hM19]; exact mu_ne _ _ (by first | decide | omega)).trans q99_3_M1
          have q97_1_M19 : (M19 97 1 = M 97 1) := (show M19 97 1 = M1 97 1 by rw [hM19]; exact mu_ne _ _ (by first | decide | omega)).trans q97_1_M1
          have wM19_99_3 : M19 99 3 = M1 99 3 := by rw [hM19]; exact mu_ne _ _ (by first | decide | omega)
          have wM19_97_1 : M19 97 1 = M1 97 1 := by rw [hM19]; exact mu_ne _ _ (by first | decide | omega)
          have wM19_97_1 : M19 97 1 = M1 97 1 := by rw [hM19]; exact mu_ne _ _ (by first | decide | omega)
          have xM19_97_0 : M19 97 0 = 0 := (show M19 97 0 = M1 97 0 by rw [hM19]; exact mu_ne _ _ (by first | decide | omega)).trans xM1_97_0
          have rkM19 : ∀ k : Nat, 4 ≤ k → k < 13 → M19 99 k = M 99 k := fun k hk1 hk2 => by rw [hM19, mu_ne _ _ (fun _ => by omega)]; exact rkM1 k hk1 hk2
          have k98M19 : M19 98 = M 98 := (show M19 98 = M1 98 by rw [hM19]; exact mu_cell _ _ (by decide)).trans k98M1
          refine g_aload_n (pc' := 83) 1 dX10_wine_82 rfl rfl ?_
          refine g_getR (pc' := 86) dX10_wine_83 rfl f_X10_13 rfl rfl ?_
          refine g_bipush (pc' := 88) (v := 31) dX10_wine_86 rfl (by decide) ?_
          refine g_iconst (pc' := 89) dX10_wine_88 rfl ?_
          refine g_iload (pc' := 91) 0 dX10_wine_89 rfl rfl ?_
          refine g_imul (pc' := 92) dX10_wine_91 rfl ?_
          refine g_iadd (pc' := 93) dX10_wine_92 rfl ?_
          refine g_iconst (pc' := 94) dX10_wine_93 rfl ?_
          refine g_iadd (pc' := 95) dX10_wine_94 rfl ?_
          refine g_iload_n (pc' := 96) 3 dX10_wine_95 rfl rfl ?_
          refine g_iast (pc' := 97) dX10_wine_96 rfl rfl (by omega) (by omega) hb (fun M20 hM20 => ?_)
          have iM20 : IM M20 := IM.wrow iM19 hM20 (by unfold okrow; omega)
          have fM20 : Fr (fun c => c = 97 ∨ c = 98 ∨ c = 99) M M20 := Fr.wr fM19 hM20 (by first | decide | omega | (dsimp only; omega))
          have q99_0_M20 : (M20 99 0 = M 99 0) := (show M20 99 0 = M19 99 0 by rw [hM20]; exact mu_ne _ _ (by first | decide | omega)).trans q99_0_M19
          have q99_1_M20 : (M20 99 1 = M 99 1) := (show M20 99 1 = M19 99 1 by rw [hM20]; exact mu_ne _ _ (by first | decide | omega)).trans q99_1_M19
          have q99_2_M20 : (M20 99 2 = M 99 2) := (show M20 99 2 = M19 99 2 by rw [hM20]; exact mu_ne _ _ (by first | decide | omega)).trans q99_2_M19
          have q100_0_M20 : id (M20 100 0 = M 100 0) := (show M20 100 0 = M19 100 0 by rw [hM20]; exact mu_ne _ _ (by first | decide | omega)).trans q100_0_M19
          have q100_1_M20 : id (M20 100 1 = M 100 1) := (show M20 100 1 = M19 100 1 by rw [hM20]; exact mu_ne _ _ (by first | decide | omega)).trans q100_1_M19
          have q100_2_M20 : id (M20 100 2 = M 100 2) := (show M20 100 2 = M19 100 2 by rw [hM20]; exact mu_ne _ _ (by first | decide | omega)).trans q100_2_M19
          have q100_3_M20 : id (M20 100 3 = M 100 3) := (show M20 100 3 = M19 100 3 by rw [hM20]; exact mu_ne _ _ (by first | decide | omega)).trans q100_3_M19
          have q100_49_M20 : id (M20 100 49 = M 100 49) := (show M20 100 49 = M19 100 49 by rw [hM20]; exact mu_ne _ _ (by first | decide | omega)).trans q100_49_M19
          have q100_50_M20 : id (M20 100 50 = M 100 50) := (show M20 100 50 = M19 100 50 by rw [hM20]; exact mu_ne _ _ (by first | decide | omega)).trans q100_50_M19
          have q100_51_M20 : id (M20 100 51 = M 100 51) := (show M20 100 51 = M19 100 51 by rw [hM20]; exact mu_ne _ _ (by first | decide | omega)).trans q100_51_M19
          have q100_52_M20 : id (M20 100 52 = M 100 52) := (show M20 100 52 = M19 100 52 by rw [hM20]; exact mu_ne _ _ (by first | decide | omega)).trans q100_52_M19
          have q103_0_M20 : id (M20 103 0 = M 103 0) := (show M20 103 0 = M19 103 0 by rw [hM20]; exact mu_ne _ _ (by first | decide | omega)).trans q103_0_M19
          have q103_1_M20 : id (M20 103 1 = M 103 1) := (show M20 103 1 = M19 103 1 by rw [hM20]; exact mu_ne _ _ (by first | decide | omega)).trans q103_1_M19
          have q97_12_M20 : (M20 97 12 = M 97 12) := (show M20 97 12 = M19 97 12 by rw [hM20]; exact mu_ne _ _ (by first | decide | omega)).trans q97_12_M19
          have q97_17_M20 : (M20 97 17 = M 97 17) := (show M20 97 17 = M19 97 17 by rw [hM20]; exact mu_ne _ _ (by first | decide | omega)).trans q97_17_M19
          have q97_33_M20 : (M20 97 33 = M 97 33) := (show M20 97 33 = M19 97 33 by rw [hM20]; exact mu_ne _ _ (by first | decide | omega)).trans q97_33_M19
          have q97_10_M20 : (M20 97 10 = M 97 10) := (show M20 97 10 = M19 97 10 by rw [hM20]; exact mu_ne _ _ (by first | decide | omega)).trans q97_10_M19
          have q97_44_M20 : (M20 97 44 = M 97 44) := (show M20 97 44 = M19 97 44 by rw [hM20]; exact mu_ne _ _ (by first | decide | omega)).trans q97_44_M19
          have q99_3_M20 : (M20 99 3 = M 99 3) := (show M20 99 3 = M19 99 3 by rw [hM20]; exact mu_ne _ _ (by first | decide | omega)).trans q99_3_M19
          have q97_1_M20 : (M20 97 1 = M 97 1) := (show M20 97 1 = M19 97 1 by rw [hM20]; exact mu_ne _ _ (by first | decide | omega)).trans q97_1_M19
          have wM20_99_3 : M20 99 3 = M19 99 3 := by rw [hM20]; exact mu_ne _ _ (by first | decide | omega)
          have wM20_97_1 : M20 97 1 = M19 97 1 := by rw [hM20]; exact mu_ne _ _ (by first | decide | omega)
          have wM20_97_1 : M20 97 1 = M19 97 1 := by rw [hM20]; exact mu_ne _ _ (by first | decide | omega)
          have xM20_97_0 : M20 97 0 = 0 := (show M20 97 0 = M19 97 0 by rw [hM20]; exact mu_ne _ _ (by first | decide | omega)).trans xM19_97_0
          have rkM20 : ∀ k : Nat, 4 ≤ k → k < 13 → M20 99 k = M 99 k := fun k hk1 hk2 => by rw [hM20, mu_ne _ _ (fun _ => by omega)]; exact rkM19 k hk1 hk2
          have k98M20 : M20 98 = M 98 := (show M20 98 = M19 98 by rw [hM20]; exact mu_cell _ _ (by decide)).trans k98M19
          refine g_aload_n (pc' := 98) 1 dX10_wine_97 rfl rfl ?_
          refine g_getR (pc' := 101) dX10_wine_98 rfl f_X10_13 rfl rfl ?_
          refine g_bipush (pc' := 103) (v := 31) dX10_wine_101 rfl (by decide) ?_
          refine g_iconst (pc' := 104) dX10_wine_103 rfl ?_
          refine g_iload (pc' := 106) 0 dX10_wine_104 rfl rfl ?_
          refine g_imul (pc' := 107) dX10_wine_106 rfl ?_
          refine g_iadd (pc' := 108) dX10_wine_107 rfl ?_
          refine g_iconst (pc' := 109) dX10_wine_108 rfl ?_
          refine g_iadd (pc' := 110) dX10_wine_109 rfl ?_
          refine g_iload_n (pc' := 111) 4 dX10_wine_110 rfl rfl ?_
          refine g_iast (pc' := 112) dX10_wine_111 rfl rfl (by omega) (by omega) hc (fun M21 hM21 => ?_)
          have iM21 : IM M21 := IM.wrow iM20 hM21 (by unfold okrow; omega)
          have fM21 : Fr (fun c => c = 97 ∨ c = 98 ∨ c = 99) M M21 := Fr.wr fM20 hM21 (by first | decide | omega | (dsimp only; omega))
          have q99_0_M21 : (M21 99 0 = M 99 0) := (show M21 99 0 = M20 99 0 by rw [hM21]; exact mu_ne _ _ (by first | decide | omega)).trans q99_0_M20
          have q99_1_M21 : (M21 99 1 = M 99 1) := (show M21 99 1 = M20 99 1 by rw [hM21]; exact mu_ne _ _ (by first | decide | omega)).trans q99_1_M20
          have q99_2_M21 : (M21 99 2 = M 99 2) := (show M21 99 2 = M20 99 2 by rw [hM21]; exact mu_ne _ _ (by first | decide | omega)).trans q99_2_M20
          have q100_0_M21 : id (M21 100 0 = M 100 0) := (show M21 100 0 = M20 100 0 by rw [hM21]; exact mu_ne _ _ (by first | decide | omega)).trans q100_0_M20
          have q100_1_M21 : id (M21 100 1 = M 100 1) := (show M21 100 1 = M20 100 1 by rw [hM21]; exact mu_ne _ _ (by first | decide | omega)).trans q100_1_M20
          have q100_2_M21 : id (M21 100 2 = M 100 2) := (show M21 100 2 = M20 100 2 by rw [hM21]; exact mu_ne _ _ (by first | decide | omega)).trans q100_2_M20
          have q100_3_M21 : id (M21 100 3 = M 100 3) := (show M21 100 3 = M20 100 3 by rw [hM21]; exact mu_ne _ _ (by first | decide | omega)).trans q100_3_M20
          have q100_49_M21 : id (M21 100 49 = M 100 49) := (show M21 100 49 = M20 100 49 by rw [hM21]; exact mu_ne _ _ (by first | decide | omega)).trans q100_49_M20
          have q100_50_M21 : id (M21 100 50 = M 100 50) := (show M21 100 50 = M20 100 50 by rw [hM21]; exact mu_ne _ _ (by first | decide | omega)).trans q100_50_M20
          have q100_51_M21 : id (M21 100 51 = M 100 51) := (show M21 100 51 = M20 100 51 by rw [hM21]; exact mu_ne _ _ (by first | decide | omega)).trans q100_51_M20
          have q100_52_M21 : id (M21 100 52 = M 100 52) := (show M21 100 52 = M20 100 52 by rw [hM21]; exact mu_ne _ _ (by first | decide | omega)).trans q100_52_M20
          have q103_0_M21 : id (M21 103 0 = M 103 0) := (show M21 103 0 = M20 103 0 by rw [hM21]; exact mu_ne _ _ (by first | decide | omega)).trans q103_0_M20
          have q103_1_M21 : id (M21 103 1 = M 103 1) := (show M21 103 1 = M20 103 1 by rw [hM21]; exact mu_ne _ _ (by first | decide | omega)).trans q103_1_M20
          have q97_12_M21 : (M21 97 12 = M 97 12) := (show M21 97 12 = M20 97 12 by rw [hM21]; exact mu_ne _ _ (by first | decide | omega)).trans q97_12_M20
          have q97_17_M21 : (M21 97 17 = M 97 17) := (show M21 97 17 = M20 97 17 by rw [hM21]; exact mu_ne _ _ (by first | decide | omega)).trans q97_17_M20
          have q97_33_M21 : (M21 97 33 = M 97 33) := (show M21 97 33 = M20 97 33 by rw [hM21]; exact mu_ne _ _ (by first | decide | omega)).trans q97_33_M20
          have q97_10_M21 : (M21 97 10 = M 97 10) := (show M21 97 10 = M20 97 10 by rw [hM21]; exact mu_ne _ _ (by first | decide | omega)).trans q97_10_M20
          have q97_44_M21 : (M21 97 44 = M 97 44) := (show M21 97 44 = M20 97 44 by rw [hM21]; exact mu_ne _ _ (by first | decide | omega)).trans q97_44_M20
          have q99_3_M21 : (M21 99 3 = M 99 3) := (show M21 99 3 = M20 99 3 by rw [hM21]; exact mu_ne _ _ (by first | decide | omega)).trans q99_3_M20
          have q97_1_M21 : (M21 97 1 = M 97 1) := (show M21 97 1 = M20 97 1 by rw [hM21]; exact mu_ne _ _ (by first | decide | omega)).trans q97_1_M20
          have wM21_99_3 : M21 99 3 = M20 99 3 := by rw [hM21]; exact mu_ne _ _ (by first | decide | omega)
          have wM21_97_1 : M21 97 1 = M20 97 1 := by rw [hM21]; exact mu_ne _ _ (by first | decide | omega)
          have wM21_97_1 : M21 97 1 = M20 97 1 := by rw [hM21]; exact mu_ne _ _ (by first | decide | omega)
          have xM21_97_0 : M21 97 0 = 0 := (show M21 97 0 = M20 97 0 by rw [hM21]; exact mu_ne _ _ (by first | decide | omega)).trans xM20_97_0
          have rkM21 : ∀ k : Nat, 4 ≤ k → k < 13 → M21 99 k = M 99 k := fun k hk1 hk2 => by rw [hM21, mu_ne _ _ (fun _ => by omega)]; exact rkM20 k hk1 hk2
          have k98M21 : M21 98 = M 98 := (show M21 98 = M20 98 by rw [hM21]; exact mu_cell _ _ (by decide)).trans k98M20
          refine g_aload_n (pc' := 113) 1 dX10_wine_112 rfl rfl ?_
          refine g_getR (pc' := 116) dX10_wine_113 rfl f_X10_13 rfl rfl ?_
          refine g_iconst (pc' := 117) dX10_wine_116 rfl ?_
          refine g_dup2_11 (pc' := 118) dX10_wine_117 rfl rfl rfl ?_
          refine g_iald (pc' := 119) dX10_wine_118 rfl rfl (by decide) (by decide) (fun v22 ev22 rv22 => ?_)
          have ev22 : v22 = M21 99 3 := ev22
          have bv22 : 0 ≤ v22 ∧ v22 ≤ 6 := by rw [ev22]; exact iM21.1.2.2.2.1
          have av22 : v22 = M 99 3 := ev22.trans q99_3_M21
          obtain rfl : v17 = v22 := av17.trans av22.symm
          refine g_iconst (pc' := 120) dX10_wine_119 rfl ?_
          refine g_iadd (pc' := 121) dX10_wine_120 rfl ?_
          refine g_iast (pc' := 122) dX10_wine_121 rfl rfl (by decide) (by decide) ⟨by omega, by omega⟩ (fun M23 hM23 => ?_)
          have hM23 : M23 = mu M21 99 3 (v17 + 1) := hM23
          have iM23 : IM M23 := IM.wrow iM21 hM23 (by unfold okrow; omega)
          have fM23 : Fr (fun c => c = 97 ∨ c = 98 ∨ c = 99) M M23 := Fr.wr fM21 hM23 (by first | decide | omega | (dsimp only; omega))
          have q99_0_M23 : (M23 99 0 = M 99 0) := (show M23 99 0 = M21 99 0 by rw [hM23]; exact mu_ne _ _ (by first | decide | omega)).trans q99_0_M21
          have q99_1_M23 : (M23 99 1 = M 99 1) := (show M23 99 1 = M21 99 1 by rw [hM23]; exact mu_ne _ _ (by first | decide | omega)).trans q99_1_M21
          have q99_2_M23 : (M23 99 2 = M 99 2) := (show M23 99 2 = M21 99 2 by rw [hM23]; exact mu_ne _ _ (by first | decide | omega)).trans q99_2_M21
          have q100_0_M23 : id (M23 100 0 = M 100 0) := (show M23 100 0 = M21 100 0 by rw [hM23]; exact mu_ne _ _ (by first | decide | omega)).trans q100_0_M21
          have q100_1_M23 : id (M23 100 1 = M 100 1) := (show M23 100 1 = M21 100 1 by rw [hM23]; exact mu_ne _ _ (by first | decide | omega)).trans q100_1_M21
          have q100_2_M23 : id (M23 100 2 = M 100 2) := (show M23 100 2 = M21 100 2 by rw [hM23]; exact mu_ne _ _ (by first | decide | omega)).trans q100_2_M21
          have q100_3_M23 : id (M23 100 3 = M 100 3) := (show M23 100 3 = M21 100 3 by rw [hM23]; exact mu_ne _ _ (by first | decide | omega)).trans q100_3_M21
          have q100_49_M23 : id (M23 100 49 = M 100 49) := (show M23 100 49 = M21 100 49 by rw [hM23]; exact mu_ne _ _ (by first | decide | omega)).trans q100_49_M21
          have q100_50_M23 : id (M23 100 50 = M 100 50) := (show M23 100 50 = M21 100 50 by rw [hM23]; exact mu_ne _ _ (by first | decide | omega)).trans q100_50_M21
          have q100_51_M23 : id (M23 100 51 = M 100 51) := (show M23 100 51 = M21 100 51 by rw [hM23]; exact mu_ne _ _ (by first | decide | omega)).trans q100_51_M21
          have q100_52_M23 : id (M23 100 52 = M 100 52) := (show M23 100 52 = M21 100 52 by rw [hM23]; exact mu_ne _ _ (by first | decide | omega)).trans q100_52_M21
          have q103_0_M23 : id (M23 103 0 = M 103 0) := (show M23 103 0 = M21 103 0 by rw [hM23]; exact mu_ne _ _ (by first | decide | omega)).trans q103_0_M21
          have q103_1_M23 : id (M23 103 1 = M 103 1) := (show M23 103 1 = M21 103 1 by rw [hM23]; exact mu_ne _ _ (by first | decide | omega)).trans q103_1_M21
          have q97_12_M23 : (M23 97 12 = M 97 12) := (show M23 97 12 = M21 97 12 by rw [hM23]; exact mu_ne _ _ (by first | decide | omega)).trans q97_12_M21
          have q97_17_M23 : (M23 97 17 = M 97 17) := (show M23 97 17 = M21 97 17 by rw [hM23]; exact mu_ne _ _ (by first | decide | omega)).trans q97_17_M21
          have q97_33_M23 : (M23 97 33 = M 97 33) := (show M23 97 33 = M21 97 33 by rw [hM23]; exact mu_ne _ _ (by first | decide | omega)).trans q97_33_M21
          have q97_10_M23 : (M23 97 10 = M 97 10) := (show M23 97 10 = M21 97 10 by rw [hM23]; exact mu_ne _ _ (by first | decide | omega)).trans q97_10_M21
          have q97_44_M23 : (M23 97 44 = M 97 44) := (show M23 97 44 = M21 97 44 by rw [hM23]; exact mu_ne _ _ (by first | decide | omega)).trans q97_44_M21
          have q97_1_M23 : (M23 97 1 = M 97 1) := (show M23 97 1 = M21 97 1 by rw [hM23]; exact mu_ne _ _ (by first | decide | omega)).trans q97_1_M21
          have wM23_97_1 : M23 97 1 = M21 97 1 := by rw [hM23]; exact mu_ne _ _ (by first | decide | omega)
          have wM23_97_1 : M23 97 1 = M21 97 1 := by rw [hM23]; exact mu_ne _ _ (by first | decide | omega)
          have xM23_97_0 : M23 97 0 = 0 := (show M23 97 0 = M21 97 0 by rw [hM23]; exact mu_ne _ _ (by first | decide | omega)).trans xM21_97_0
          have xM23_99_3 : M23 99 3 = v17 + 1 := by rw [hM23]; exact mu_at _ _ _ _
          have rkM23 : ∀ k : Nat, 4 ≤ k → k < 13 → M23 99 k = M 99 k := fun k hk1 hk2 => by rw [hM23, mu_ne _ _ (fun _ => by omega)]; exact rkM21 k hk1 hk2
          have k98M23 : M23 98 = M 98 := (show M23 98 = M21 98 by rw [hM23]; exact mu_cell _ _ (by decide)).trans k98M21
          refine g_aload_n (pc' := 123) 1 dX10_wine_122 rfl rfl ?_
          refine g_iload (pc' := 125) 0 dX10_wine_123 rfl rfl ?_
          refine g_callVi (pc' := 128) (As := [vi v17]) (b := 97) (S := []) dX10_wine_125 rfl m_X10_87 w_X10_tell (c_X10_tell_x X M23 iM23 v17 rv17 (by omega)) rfl ⟨_, _, _, rfl, rfl, rfl⟩ (by decide) (by decide) rfl (Nat.le_of_ble_eq_true rfl) (fun z25 M26 q24 => ?_)
          obtain ⟨iM26, fM260, eM26_99_0, eM26_99_1, eM26_99_2, eM26_99_3, eM26_100_0, eM26_100_1, eM26_100_2, eM26_100_3, eM26_100_49, eM26_100_50, eM26_100_51, eM26_100_52, eM26_103_0, eM26_103_1, eM26_97_12, eM26_97_17, eM26_97_33, eM26_97_10, eM26_97_44, pM26⟩ := q24
          have fM26 : Fr (fun c => c = 97 ∨ c = 98 ∨ c = 99) M M26 := Fr.tr fM23 fM260 fi_30
          have q99_0_M26 : (M26 99 0 = M 99 0) := eM26_99_0.trans q99_0_M23
          have q99_1_M26 : (M26 99 1 = M 99 1) := eM26_99_1.trans q99_1_M23
          have q99_2_M26 : (M26 99 2 = M 99 2) := eM26_99_2.trans q99_2_M23
          have q100_0_M26 : id (M26 100 0 = M 100 0) := eM26_100_0.trans q100_0_M23
          have q100_1_M26 : id (M26 100 1 = M 100 1) := eM26_100_1.trans q100_1_M23
          have q100_2_M26 : id (M26 100 2 = M 100 2) := eM26_100_2.trans q100_2_M23
          have q100_3_M26 : id (M26 100 3 = M 100 3) := eM26_100_3.trans q100_3_M23
          have q100_49_M26 : id (M26 100 49 = M 100 49) := eM26_100_49.trans q100_49_M23
          have q100_50_M26 : id (M26 100 50 = M 100 50) := eM26_100_50.trans q100_50_M23
          have q100_51_M26 : id (M26 100 51 = M 100 51) := eM26_100_51.trans q100_51_M23
          have q100_52_M26 : id (M26 100 52 = M 100 52) := eM26_100_52.trans q100_52_M23
          have q103_0_M26 : id (M26 103 0 = M 103 0) := eM26_103_0.trans q103_0_M23
          have q103_1_M26 : id (M26 103 1 = M 103 1) := eM26_103_1.trans q103_1_M23
          have q97_12_M26 : (M26 97 12 = M 97 12) := eM26_97_12.trans q97_12_M23
          have q97_17_M26 : (M26 97 17 = M 97 17) := eM26_97_17.trans q97_17_M23
          have q97_33_M26 : (M26 97 33 = M 97 33) := eM26_97_33.trans q97_33_M23
          have q97_10_M26 : (M26 97 10 = M 97 10) := eM26_97_10.trans q97_10_M23
          have q97_44_M26 : (M26 97 44 = M 97 44) := eM26_97_44.trans q97_44_M23
          have wM26_99_3 : M26 99 3 = M23 99 3 := eM26_99_3
          have xM26_99_3 : M26 99 3 = v17 + 1 := eM26_99_3.trans xM23_99_3
          clear eM26_100_0 eM26_100_1 eM26_100_2 eM26_100_3 eM26_100_49 eM26_100_50 eM26_100_51 eM26_100_52 eM26_103_0 eM26_103_1
          obtain ⟨anM26, asM26, a98M26⟩ := pM26
          rw [k98M23] at a98M26
          subst anM26
          have t99 := fM260 99 (by decide)
          refine g_ireturn dX10_wine_128 ?_
          exact ⟨iM26, fM26, q99_0_M26, q99_1_M26, q99_2_M26, q100_0_M26, q100_1_M26, q100_2_M26, q100_3_M26, q100_49_M26, q100_50_M26, q100_51_M26, q100_52_M26, q103_0_M26, q103_1_M26, q97_12_M26, q97_17_M26, q97_33_M26, q97_10_M26, q97_44_M26, by omega, fun k hk1 hk2 => by rw [t99]; exact rkM23 k hk1 hk2, asM26, a98M26⟩
        · refine g_aload_n (pc' := 63) 1 dX10_wine_62 rfl rfl ?_
          refine g_bipush (pc' := 65) (v := (-5)) dX10_wine_63 rfl (by decide) ?_
          refine g_callVi (pc' := 68) (As := [vi (-5)]) (b := 97) (S := []) dX10_wine_65 rfl m_X10_87 w_X10_tell (c_X10_tell_x X M1 iM1 (-5) (by decide) (by omega)) rfl ⟨_, _, _, rfl, rfl, rfl⟩ (by decide) (by decide) rfl (Nat.le_of_ble_eq_true rfl) (fun z28 M29 q27 => ?_)
          obtain ⟨iM29, fM290, eM29_99_0, eM29_99_1, eM29_99_2, eM29_99_3, eM29_100_0, eM29_100_1, eM29_100_2, eM29_100_3, eM29_100_49, eM29_100_50, eM29_100_51, eM29_100_52, eM29_103_0, eM29_103_1, eM29_97_12, eM29_97_17, eM29_97_33, eM29_97_10, eM29_97_44, pM29⟩ := q27
          have fM29 : Fr (fun c => c = 97 ∨ c = 98 ∨ c = 99) M M29 := Fr.tr fM1 fM290 fi_30
          have q99_0_M29 : (M29 99 0 = M 99 0) := eM29_99_0.trans q99_0_M1
          have q99_1_M29 : (M29 99 1 = M 99 1) := eM29_99_1.trans q99_1_M1
          have q99_2_M29 : (M29 99 2 = M 99 2) := eM29_99_2.trans q99_2_M1
          have q100_0_M29 : id (M29 100 0 = M 100 0) := eM29_100_0.trans q100_0_M1
          have q100_1_M29 : id (M29 100 1 = M 100 1) := eM29_100_1.trans q100_1_M1
          have q100_2_M29 : id (M29 100 2 = M 100 2) := eM29_100_2.trans q100_2_M1
          have q100_3_M29 : id (M29 100 3 = M 100 3) := eM29_100_3.trans q100_3_M1
          have q100_49_M29 : id (M29 100 49 = M 100 49) := eM29_100_49.trans q100_49_M1
          have q100_50_M29 : id (M29 100 50 = M 100 50) := eM29_100_50.trans q100_50_M1
          have q100_51_M29 : id (M29 100 51 = M 100 51) := eM29_100_51.trans q100_51_M1
          have q100_52_M29 : id (M29 100 52 = M 100 52) := eM29_100_52.trans q100_52_M1
          have q103_0_M29 : id (M29 103 0 = M 103 0) := eM29_103_0.trans q103_0_M1
          have q103_1_M29 : id (M29 103 1 = M 103 1) := eM29_103_1.trans q103_1_M1
          have q97_12_M29 : (M29 97 12 = M 97 12) := eM29_97_12.trans q97_12_M1
          have q97_17_M29 : (M29 97 17 = M 97 17) := eM29_97_17.trans q97_17_M1
          have q97_33_M29 : (M29 97 33 = M 97 33) := eM29_97_33.trans q97_33_M1
          have q97_10_M29 : (M29 97 10 = M 97 10) := eM29_97_10.trans q97_10_M1
          have q97_44_M29 : (M29 97 44 = M 97 44) := eM29_97_44.trans q97_44_M1
          have q99_3_M29 : (M29 99 3 = M 99 3) := eM29_99_3.trans q99_3_M1
          have wM29_99_3 : M29 99 3 = M1 99 3 := eM29_99_3
          clear eM29_100_0 eM29_100_1 eM29_100_2 eM29_100_3 eM29_100_49 eM29_100_50 eM29_100_51 eM29_100_52 eM29_103_0 eM29_103_1
          obtain ⟨anM29, asM29, a98M29⟩ := pM29
          rw [k98M1] at a98M29
          subst anM29
          have t99 := fM290 99 (by decide)
          refine g_ireturn dX10_wine_68 ?_
          exact ⟨iM29, fM29, q99_0_M29, q99_1_M29, q99_2_M29, q100_0_M29, q100_1_M29, q100_2_M29, q100_3_M29, q100_49_M29, q100_50_M29, q100_51_M29, q100_52_M29, q103_0_M29, q103_1_M29, q97_12_M29, q97_17_M29, q97_33_M29, q97_10_M29, q97_44_M29, by omega, fun k hk1 hk2 => by rw [t99]; exact rkM1 k hk1 hk2, asM29, a98M29⟩
      · replace q14 := q14.resolve_left (fun h => absurd (c16.symm.trans h.1) (by decide))
        refine g_aload_n (pc' := 42) 0 dX10_wine_41 rfl rfl ?_
        refine g_iconst (pc' := 43) dX10_wine_42 rfl ?_
        refine g_callVi (pc' := 46) (As := [vi (-1)]) (b := 97) (S := []) dX10_wine_43 rfl m_X10_87 w_X10_tell (c_X10_tell_x X M1 iM1 (-1) (by decide) (by omega)) rfl ⟨_, _, _, rfl, rfl, rfl⟩ (by decide) (by decide) rfl (Nat.le_of_ble_eq_true rfl) (fun z31 M32 q30 => ?_)
        obtain ⟨iM32, fM320, eM32_99_0, eM32_99_1, eM32_99_2, eM32_99_3, eM32_100_0, eM32_100_1, eM32_100_2, eM32_100_3, eM32_100_49, eM32_100_50, eM32_100_51, eM32_100_52, eM32_103_0, eM32_103_1, eM32_97_12, eM32_97_17, eM32_97_33, eM32_97_10, eM32_97_44, pM32⟩ := q30
        have fM32 : Fr (fun c => c = 97 ∨ c = 98 ∨ c = 99) M M32 := Fr.tr fM1 fM320 fi_30
        have q99_0_M32 : (M32 99 0 = M 99 0) := eM32_99_0.trans q99_0_M1
        have q99_1_M32 : (M32 99 1 = M 99 1) := eM32_99_1.trans q99_1_M1
        have q99_2_M32 : (M32 99 2 = M 99 2) := eM32_99_2.trans q99_2_M1
        have q100_0_M32 : id (M32 100 0 = M 100 0) := eM32_100_0.trans q100_0_M1
        have q100_1_M32 : id (M32 100 1 = M 100 1) := eM32_100_1.trans q100_1_M1
        have q100_2_M32 : id (M32 100 2 = M 100 2) := eM32_100_2.trans q100_2_M1
        have q100_3_M32 : id (M32 100 3 = M 100 3) := eM32_100_3.trans q100_3_M1
        have q100_49_M32 : id (M32 100 49 = M 100 49) := eM32_100_49.trans q100_49_M1
        have q100_50_M32 : id (M32 100 50 = M 100 50) := eM32_100_50.trans q100_50_M1
        have q100_51_M32 : id (M32 100 51 = M 100 51) := eM32_100_51.trans q100_51_M1
        have q100_52_M32 : id (M32 100 52 = M 100 52) := eM32_100_52.trans q100_52_M1
        have q103_0_M32 : id (M32 103 0 = M 103 0) := eM32_103_0.trans q103_0_M1
        have q103_1_M32 : id (M32 103 1 = M 103 1) := eM32_103_1.trans q103_1_M1
        have q97_12_M32 : (M32 97 12 = M 97 12) := eM32_97_12.trans q97_12_M1
        have q97_17_M32 : (M32 97 17 = M 97 17) := eM32_97_17.trans q97_17_M1
        have q97_33_M32 : (M32 97 33 = M 97 33) := eM32_97_33.trans q97_33_M1
        have q97_10_M32 : (M32 97 10 = M 97 10) := eM32_97_10.trans q97_10_M1
        have q97_44_M32 : (M32 97 44 = M 97 44) := eM32_97_44.trans q97_44_M1
        have q99_3_M32 : (M32 99 3 = M 99 3) := eM32_99_3.trans q99_3_M1
        have wM32_99_3 : M32 99 3 = M1 99 3 := eM32_99_3
        clear eM32_100_0 eM32_100_1 eM32_100_2 eM32_100_3 eM32_100_49 eM32_100_50 eM32_100_51 eM32_100_52 eM32_103_0 eM32_103_1
        obtain ⟨anM32, asM32, a98M32⟩ := pM32
        rw [k98M1] at a98M32
        subst anM32
        have t99 := fM320 99 (by decide)
        refine g_ireturn dX10_wine_46 ?_
        exact ⟨iM32, fM32, q99_0_M32, q99_1_M32, q99_2_M32, q100_0_M32, q100_1_M32, q100_2_M32, q100_3_M32, q100_49_M32, q100_50_M32, q100_51_M32, q100_52_M32, q103_0_M32, q103_1_M32, q97_12_M32, q97_17_M32, q97_33_M32, q97_10_M32, q97_44_M32, by omega, fun k hk1 hk2 => by rw [t99]; exact rkM1 k hk1 hk2, asM32, a98M32⟩
set_option maxHeartbeats 4000000 in
set_option maxRecDepth 100000 in
theorem l_X10_drink_x_37 (X : Cx) (M : Mm) (hi : IM M) (a : Int) (ha : inI a) : ∀ (kk : Nat) (k : Int) (M1 : Mm) (ic1 : IM M1) (fr1 : Fr (fun c => c = 97 ∨ c = 98 ∨ c = 99) M M1) (q99_0 : (M1 99 0 = M 99 0)) (q99_1 : (M1 99 1 = M 99 1)) (q99_2 : (M1 99 2 = M 99 2)) (q100_0 : id (M1 100 0 = M 100 0)) (q100_1 : id (M1 100 1 = M 100 1)) (q100_2 : id (M1 100 2 = M 100 2)) (q100_3 : id (M1 100 3 = M 100 3)) (q100_49 : id (M1 100 49 = M 100 49)) (q100_50 : id (M1 100 50 = M 100 50)) (q100_51 : id (M1 100 51 = M 100 51)) (q100_52 : id (M1 100 52 = M 100 52)) (q103_0 : id (M1 103 0 = M 103 0)) (q103_1 : id (M1 103 1 = M 103 1)) (q97_12 : (M1 97 12 = M 97 12)) (q97_17 : (M1 97 17 = M 97 17)) (q97_33 : (M1 97 33 = M 97 33)) (q97_10 : (M1 97 10 = M 97 10)) (q97_44 : (M1 97 44 = M 97 44)) (q99_3 : (M1 99 3 = M 99 3)) (q97_1 : (M1 97 1 = M 97 1)) (a0 : 0 ≤ a ∧ a < M 99 3) (h0 : 31 ≤ k) (h1 : k ≤ 46) (k98 : M1 98 = M 98) (rk1 : ∀ k : Nat, 4 ≤ k → k < 13 → M1 99 k = M 99 k), (46 - k).toNat = kk → G X 12 RX10 cX10_drink 3 (some .int) (Qi (fun r M1 => IM M1 ∧ Fr (fun c => c = 97 ∨ c = 98 ∨ c = 99) M M1 ∧ M1 99 0 = M 99 0 ∧ M1 99 1 = M 99 1 ∧ M1 99 2 = M 99 2 ∧ M1 100 0 = M 100 0 ∧ M1 100 1 = M 100 1 ∧ M1 100 2 = M 100 2 ∧ M1 100 3 = M 100 3 ∧ M1 100 49 = M 100 49 ∧ M1 100 50 = M 100 50 ∧ M1 100 51 = M 100 51 ∧ M1 100 52 = M 100 52 ∧ M1 103 0 = M 103 0 ∧ M1 103 1 = M 103 1 ∧ M1 97 12 = M 97 12 ∧ M1 97 17 = M 97 17 ∧ M1 97 33 = M 97 33 ∧ M1 97 10 = M 97 10 ∧ M1 97 44 = M 97 44 ∧ ((((a < 0 ∨ M 99 3 ≤ a) → r = -2 ∧ M1 99 3 = M 99 3) ∧ (0 ≤ a → a < M 99 3 → r = M 99 3 - 1 ∧ M1 99 3 = M 99 3 - 1)) ∧ (∀ k : Nat, 4 ≤ k → k < 13 → M1 99 k = M 99 k) ∧ M1 97 1 = ngv r ∧ M1 98 = telF (M 98) r))) 37 [(2, vi k), (0, vr X 97), (1, vi a)] [] M1 := by
  intro kk
  induction kk using Nat.strongRecOn with
  | ind kk ih =>
    intro k M1 ic1 fr1 q99_0 q99_1 q99_2 q100_0 q100_1 q100_2 q100_3 q100_49 q100_50 q100_51 q100_52 q103_0 q103_1 q97_12 q97_17 q97_33 q97_10 q97_44 q99_3 q97_1 a0 h0 h1 k98 rk1 hmes
    have p0 := hi.1.1
    have p1 := hi.1.2.1
    have p2 := hi.1.2.2.1
    have p3 := hi.1.2.2.2.1
    have p12 := hi.2.2.2.1
    refine g_iload_n (pc' := 38) 0 dX10_drink_37 rfl rfl ?_
    refine g_bipush (pc' := 40) (v := 46) dX10_drink_38 rfl (by decide) ?_
    refine g_ic_ge (pc' := 43) (tgt := 63) ⟨by omega, by omega⟩ (by decide) dX10_drink_40 rfl rfl (fun c1 => ?_) (fun c1 => ?_)
    · refine g_aload_n (pc' := 64) 1 dX10_drink_63 rfl rfl ?_
      refine g_getR (pc' := 67) dX10_drink_64 rfl f_X10_13 rfl rfl ?_
      refine g_iconst (pc' := 68) dX10_drink_67 rfl ?_
      refine g_dup2_11 (pc' := 69) dX10_drink_68 rfl rfl rfl ?_
      refine g_iald (pc' := 70) dX10_drink_69 rfl rfl (by decide) (by decide) (fun v2 ev2 rv2 => ?_)
      have ev2 : v2 = M1 99 3 := ev2
      have bv2 : 0 ≤ v2 ∧ v2 ≤ 6 := by rw [ev2]; exact ic1.1.2.2.2.1
      have av2 : v2 = M 99 3 := ev2.trans q99_3
      refine g_iconst (pc' := 71) dX10_drink_70 rfl ?_
      refine g_isub (pc' := 72) dX10_drink_71 rfl ?_
      refine g_iast (pc' := 73) dX10_drink_72 rfl rfl (by decide) (by decide) ⟨by omega, by omega⟩ (fun M3 hM3 => ?_)
      have hM3 : M3 = mu M1 99 3 (v2 - 1) := hM3
      have iM3 : IM M3 := IM.wrow ic1 hM3 (by unfold okrow; omega)
      have fM3 : Fr (fun c => c = 97 ∨ c = 98 ∨ c = 99) M M3 := Fr.wr fr1 hM3 (by first | decide | omega | (dsimp only; omega))
      have q99_0_M3 : (M3 99 0 = M 99 0) := (show M3 99 0 = M1 99 0 by rw [hM3]; exact mu_ne _ _ (by first | decide | omega)).trans q99_0
      have q99_1_M3 : (M3 99 1 = M 99 1) := (show M3 99 1 = M1 99 1 by rw [hM3]; exact mu_ne _ _ (by first | decide | omega)).trans q99_1
      have q99_2_M3 : (M3 99 2 = M 99 2) := (show M3 99 2 = M1 99 2 by rw [hM3]; exact mu_ne _ _ (by first | decide | omega)).trans q99_2
      have q100_0_M3 : id (M3 100 0 = M 100 0) := (show M3 100 0 = M1 100 0 by rw [hM3]; exact mu_ne _ _ (by first | decide | omega)).trans q100_0
      have q100_1_M3 : id (M3 100 1 = M 100 1) := (show M3 100 1 = M1 100 1 by rw [hM3]; exact mu_ne _ _ (by first | decide | omega)).trans q100_1
      have q100_2_M3 : id (M3 100 2 = M 100 2) := (show M3 100 2 = M1 100 2 by rw [hM3]; exact mu_ne _ _ (by first | decide | omega)).trans q100_2
      have q100_3_M3 : id (M3 100 3 = M 100 3) := (show M3 100 3 = M1 100 3 by rw [hM3]; exact mu_ne _ _ (by first | decide | omega)).trans q100_3
      have q100_49_M3 : id (M3 100 49 = M 100 49) := (show M3 100 49 = M1 100 49 by rw [hM3]; exact mu_ne _ _ (by first | decide | omega)).trans q100_49
      have q100_50_M3 : id (M3 100 50 = M 100 50) := (show M3 100 50 = M1 100 50 by rw [hM3]; exact mu_ne _ _ (by first | decide | omega)).trans q100_50
      have q100_51_M3 : id (M3 100 51 = M 100 51) := (show M3 100 51 = M1 100 51 by rw [hM3]; exact mu_ne _ _ (by first | decide | omega)).trans q100_51
      have q100_52_M3 : id (M3 100 52 = M 100 52) := (show M3 100 52 = M1 100 52 by rw [hM3]; exact mu_ne _ _ (by first | decide | omega)).trans q100_52
      have q103_0_M3 : id (M3 103 0 = M 103 0) := (show M3 103 0 = M1 103 0 by rw [hM3]; exact mu_ne _ _ (by first | decide | omega)).trans q103_0
      have q103_1_M3 : id (M3 103 1 = M 103 1) := (show M3 103 1 = M1 103 1 by rw [hM3]; exact mu_ne _ _ (by first | decide | omega)).trans q103_1
      have q97_12_M3 : (M3 97 12 = M 97 12) := (show M3 97 12 = M1 97 12 by rw [hM3]; exact mu_ne _ _ (by first | decide | omega)).trans q97_12
      have q97_17_M3 : (M3 97 17 = M 97 17) := (show M3 97 17 = M1 97 17 by rw [hM3]; exact mu_ne _ _ (by first | decide | omega)).trans q97_17
      have q97_33_M3 : (M3 97 33 = M 97 33) := (show M3 97 33 = M1 97 33 by rw [hM3]; exact mu_ne _ _ (by first | decide | omega)).trans q97_33
      have q97_10_M3 : (M3 97 10 = M 97 10) := (show M3 97 10 = M1 97 10 by rw [hM3]; exact mu_ne _ _ (by first | decide | omega)).trans q97_10
      have q97_44_M3 : (M3 97 44 = M 97 44) := (show M3 97 44 = M1 97 44 by rw [hM3]; exact mu_ne _ _ (by first | decide | omega)).trans q97_44
      have q97_1_M3 : (M3 97 1 = M 97 1) := (show M3 97 1 = M1 97 1 by rw [hM3]; exact mu_ne _ _ (by first | decide | omega)).trans q97_1
      have wM3_97_1 : M3 97 1 = M1 97 1 := by rw [hM3]; exact mu_ne _ _ (by first | decide | omega)
      have wM3_97_1 : M3 97 1 = M1 97 1 := by rw [hM3]; exact mu_ne _ _ (by first | decide | omega)
      have xM3_99_3 : M3 99 3 = v2 - 1 := by rw [hM3]; exact mu_at _ _ _ _
      have rkM3 : ∀ k : Nat, 4 ≤ k → k < 13 → M3 99 k = M 99 k := fun k hk1 hk2 => by rw [hM3, mu_ne _ _ (fun _ => by omega)]; exact rk1 k hk1 hk2
      have k98M3 : M3 98 = M 98 := (show M3 98 = M1 98 by rw [hM3]; exact mu_cell _ _ (by decide)).trans k98
      refine g_aload_n (pc' := 74) 1 dX10_drink_73 rfl rfl ?_
      refine g_aload_n (pc' := 75) 1 dX10_drink_74 rfl rfl ?_
      refine g_getR (pc' := 78) dX10_drink_75 rfl f_X10_13 rfl rfl ?_
      refine g_iconst (pc' := 79) dX10_drink_78 rfl ?_
      refine g_iald (pc' := 80) dX10_drink_79 rfl rfl (by decide) (by decide) (fun v4 ev4 rv4 => ?_)
      have ev4 : v4 = M3 99 3 := ev4
      have bv4 : 0 ≤ v4 ∧ v4 ≤ 6 := by rw [ev4]; exact iM3.1.2.2.2.1
      have yv4 : v4 = v2 - 1 := ev4.trans xM3_99_3
      refine g_callVi (pc' := 83) (As := [vi v4]) (b := 97) (S := []) dX10_drink_80 rfl m_X10_87 w_X10_tell (c_X10_tell_x X M3 iM3 v4 rv4 (by omega)) rfl ⟨_, _, _, rfl, rfl, rfl⟩ (by decide) (by decide) rfl (Nat.le_of_ble_eq_true rfl) (fun z6 M7 q5 => ?_)
      obtain ⟨iM7, fM70, eM7_99_0, eM7_99_1, eM7_99_2, eM7_99_3, eM7_100_0, eM7_100_1, eM7_100_2, eM7_100_3, eM7_100_49, eM7_100_50, eM7_100_51, eM7_100_52, eM7_103_0, eM7_103_1, eM7_97_12, eM7_97_17, eM7_97_33, eM7_97_10, eM7_97_44, pM7⟩ := q5
      have fM7 : Fr (fun c => c = 97 ∨ c = 98 ∨ c = 99) M M7 := Fr.tr fM3 fM70 fi_30
      have q99_0_M7 : (M7 99 0 = M 99 0) := eM7_99_0.trans q99_0_M3
      have q99_1_M7 : (M7 99 1 = M 99 1) := eM7_99_1.trans q99_1_M3
      have q99_2_M7 : (M7 99 2 = M 99 2) := eM7_99_2.trans q99_2_M3
      have q100_0_M7 : id (M7 100 0 = M 100 0) := eM7_100_0.trans q100_0_M3
      have q100_1_M7 : id (M7 100 1 = M 100 1) := eM7_100_1.trans q100_1_M3
      have q100_2_M7 : id (M7 100 2 = M 100 2) := eM7_100_2.trans q100_2_M3
      have q100_3_M7 : id (M7 100 3 = M 100 3) := eM7_100_3.trans q100_3_M3
      have q100_49_M7 : id (M7 100 49 = M 100 49) := eM7_100_49.trans q100_49_M3
      have q100_50_M7 : id (M7 100 50 = M 100 50) := eM7_100_50.trans q100_50_M3
      have q100_51_M7 : id (M7 100 51 = M 100 51) := eM7_100_51.trans q100_51_M3
      have q100_52_M7 : id (M7 100 52 = M 100 52) := eM7_100_52.trans q100_52_M3
      have q103_0_M7 : id (M7 103 0 = M 103 0) := eM7_103_0.trans q103_0_M3
      have q103_1_M7 : id (M7 103 1 = M 103 1) := eM7_103_1.trans q103_1_M3
      have q97_12_M7 : (M7 97 12 = M 97 12) := eM7_97_12.trans q97_12_M3
      have q97_17_M7 : (M7 97 17 = M 97 17) := eM7_97_17.trans q97_17_M3
      have q97_33_M7 : (M7 97 33 = M 97 33) := eM7_97_33.trans q97_33_M3
      have q97_10_M7 : (M7 97 10 = M 97 10) := eM7_97_10.trans q97_10_M3
      have q97_44_M7 : (M7 97 44 = M 97 44) := eM7_97_44.trans q97_44_M3
      have wM7_99_3 : M7 99 3 = M3 99 3 := eM7_99_3
      have xM7_99_3 : M7 99 3 = v2 - 1 := eM7_99_3.trans xM3_99_3
      clear eM7_100_0 eM7_100_1 eM7_100_2 eM7_100_3 eM7_100_49 eM7_100_50 eM7_100_51 eM7_100_52 eM7_103_0 eM7_103_1
      obtain ⟨anM7, asM7, a98M7⟩ := pM7
      rw [k98M3] at a98M7
      subst anM7
      have t99 := fM70 99 (by decide)
      refine g_ireturn dX10_drink_83 ?_
      exact ⟨iM7, fM7, q99_0_M7, q99_1_M7, q99_2_M7, q100_0_M7, q100_1_M7, q100_2_M7, q100_3_M7, q100_49_M7, q100_50_M7, q100_51_M7, q100_52_M7, q103_0_M7, q103_1_M7, q97_12_M7, q97_17_M7, q97_33_M7, q97_10_M7, q97_44_M7, by omega, fun k hk1 hk2 => by rw [t99]; exact rkM3 k hk1 hk2, asM7, a98M7⟩
    · refine g_aload_n (pc' := 44) 1 dX10_drink_43 rfl rfl ?_
      refine g_getR (pc' := 47) dX10_drink_44 rfl f_X10_13 rfl rfl ?_
      refine g_iload_n (pc' := 48) 0 dX10_drink_47 rfl rfl ?_
      refine g_aload_n (pc' := 49) 1 dX10_drink_48 rfl rfl ?_
      refine g_getR (pc' := 52) dX10_drink_49 rfl f_X10_13 rfl rfl ?_
      refine g_iload_n (pc' := 53) 0 dX10_drink_52 rfl rfl ?_
      refine g_iconst (pc' := 54) dX10_drink_53 rfl ?_
      refine g_iadd (pc' := 55) dX10_drink_54 rfl ?_
      refine g_iald (pc' := 56) dX10_drink_55 rfl rfl (by omega) (by omega) (fun v8 ev8 rv8 => ?_)
      have dv8 := ic1.1.wi (i := (k + 3)) (by omega) (by omega)
      rw [← ev8] at dv8
      refine g_iast (pc' := 57) dX10_drink_56 rfl rfl (by omega) (by omega) rv8 (fun M9 hM9 => ?_)
      have iM9 : IM M9 := IM.wrow ic1 hM9 (by unfold okrow; omega)
      have fM9 : Fr (fun c => c = 97 ∨ c = 98 ∨ c = 99) M M9 := Fr.wr fr1 hM9 (by first | decide | omega | (dsimp only; omega))
      have q99_0_M9 : (M9 99 0 = M 99 0) := (show M9 99 0 = M1 99 0 by rw [hM9]; exact mu_ne _ _ (by first | decide | omega)).trans q99_0
      have q99_1_M9 : (M9 99 1 = M 99 1) := (show M9 99 1 = M1 99 1 by rw [hM9]; exact mu_ne _ _ (by first | decide | omega)).trans q99_1
      have q99_2_M9 : (M9 99 2 = M 99 2) := (show M9 99 2 = M1 99 2 by rw [hM9]; exact mu_ne _ _ (by first | decide | omega)).trans q99_2
      have q100_0_M9 : id (M9 100 0 = M 100 0) := (show M9 100 0 = M1 100 0 by rw [hM9]; exact mu_ne _ _ (by first | decide | omega)).trans q100_0
      have q100_1_M9 : id (M9 100 1 = M 100 1) := (show M9 100 1 = M1 100 1 by rw [hM9]; exact mu_ne _ _ (by first | decide | omega)).trans q100_1
      have q100_2_M9 : id (M9 100 2 = M 100 2) := (show M9 100 2 = M1 100 2 by rw [hM9]; exact mu_ne _ _ (by first | decide | omega)).trans q100_2
      have q100_3_M9 : id (M9 100 3 = M 100 3) := (show M9 100 3 = M1 100 3 by rw [hM9]; exact mu_ne _ _ (by first | decide | omega)).trans q100_3
      have q100_49_M9 : id (M9 100 49 = M 100 49) := (show M9 100 49 = M1 100 49 by rw [hM9]; exact mu_ne _ _ (by first | decide | omega)).trans q100_49
      have q100_50_M9 : id (M9 100 50 = M 100 50) := (show M9 100 50 = M1 100 50 by rw [hM9]; exact mu_ne _ _ (by first | decide | omega)).trans q100_50
      have q100_51_M9 : id (M9 100 51 = M 100 51) := (show M9 100 51 = M1 100 51 by rw [hM9]; exact mu_ne _ _ (by first | decide | omega)).trans q100_51
      have q100_52_M9 : id (M9 100 52 = M 100 52) := (show M9 100 52 = M1 100 52 by rw [hM9]; exact mu_ne _ _ (by first | decide | omega)).trans q100_52
      have q103_0_M9 : id (M9 103 0 = M 103 0) := (show M9 103 0 = M1 103 0 by rw [hM9]; exact mu_ne _ _ (by first | decide | omega)).trans q103_0
      have q103_1_M9 : id (M9 103 1 = M 103 1) := (show M9 103 1 = M1 103 1 by rw [hM9]; exact mu_ne _ _ (by first | decide | omega)).trans q103_1
      have q97_12_M9 : (M9 97 12 = M 97 12) := (show M9 97 12 = M1 97 12 by rw [hM9]; exact mu_ne _ _ (by first | decide | omega)).trans q97_12
      have q97_17_M9 : (M9 97 17 = M 97 17) := (show M9 97 17 = M1 97 17 by rw [hM9]; exact mu_ne _ _ (by first | decide | omega)).trans q97_17
      have q97_33_M9 : (M9 97 33 = M 97 33) := (show M9 97 33 = M1 97 33 by rw [hM9]; exact mu_ne _ _ (by first | decide | omega)).trans q97_33
      have q97_10_M9 : (M9 97 10 = M 97 10) := (show M9 97 10 = M1 97 10 by rw [hM9]; exact mu_ne _ _ (by first | decide | omega)).trans q97_10
      have q97_44_M9 : (M9 97 44 = M 97 44) := (show M9 97 44 = M1 97 44 by rw [hM9]; exact mu_ne _ _ (by first | decide | omega)).trans q97_44
      have q99_3_M9 : (M9 99 3 = M 99 3) := (show M9 99 3 = M1 99 3 by rw [hM9]; exact mu_ne _ _ (by first | decide | omega)).trans q99_3
      have q97_1_M9 : (M9 97 1 = M 97 1) := (show M9 97 1 = M1 97 1 by rw [hM9]; exact mu_ne _ _ (by first | decide | omega)).trans q97_1
      have wM9_99_3 : M9 99 3 = M1 99 3 := by rw [hM9]; exact mu_ne _ _ (by first | decide | omega)
      have wM9_97_1 : M9 97 1 = M1 97 1 := by rw [hM9]; exact mu_ne _ _ (by first | decide | omega)
      have wM9_97_1 : M9 97 1 = M1 97 1 := by rw [hM9]; exact mu_ne _ _ (by first | decide | omega)
      have rkM9 : ∀ k : Nat, 4 ≤ k → k < 13 → M9 99 k = M 99 k := fun k hk1 hk2 => by rw [hM9, mu_ne _ _ (fun _ => by omega)]; exact rk1 k hk1 hk2
      have k98M9 : M9 98 = M 98 := (show M9 98 = M1 98 by rw [hM9]; exact mu_cell _ _ (by decide)).trans k98
      refine g_iinc (pc' := 60) (L' := [(2, vi (k + 1)), (0, vr X 97), (1, vi a)]) 0 dX10_drink_57 rfl rfl (by decide) rfl ?_
      refine g_goto (tgt := 37) dX10_drink_60 rfl ?_
      refine g_sub [0, 1, 2] rfl ?_
      exact ih _ (by omega) (k + 1) M9 iM9 fM9 q99_0_M9 q99_1_M9 q99_2_M9 q100_0_M9 q100_1_M9 q100_2_M9 q100_3_M9 q100_49_M9 q100_50_M9 q100_51_M9 q100_52_M9 q103_0_M9 q103_1_M9 q97_12_M9 q97_17_M9 q97_33_M9 q97_10_M9 q97_44_M9 q99_3_M9 q97_1_M9 (by omega) (by omega) (by omega) k98M9 rkM9 rfl
set_option maxHeartbeats 4000000 in
set_option maxRecDepth 100000 in
theorem c_X10_drink_x (X : Cx) (M : Mm) (hi : IM M) (a : Int) (ha : inI a) : Con X 12 yX10_drink cX10_drink 3 (some .int) [vr X 97, vi a] M (Qi (fun r M1 => IM M1 ∧ Fr (fun c => c = 97 ∨ c = 98 ∨ c = 99) M M1 ∧ M1 99 0 = M 99 0 ∧ M1 99 1 = M 99 1 ∧ M1 99 2 = M 99 2 ∧ M1 100 0 = M 100 0 ∧ M1 100 1 = M 100 1 ∧ M1 100 2 = M 100 2 ∧ M1 100 3 = M 100 3 ∧ M1 100 49 = M 100 49 ∧ M1 100 50 = M 100 50 ∧ M1 100 51 = M 100 51 ∧ M1 100 52 = M 100 52 ∧ M1 103 0 = M 103 0 ∧ M1 103 1 = M 103 1 ∧ M1 97 12 = M 97 12 ∧ M1 97 17 = M 97 17 ∧ M1 97 33 = M 97 33 ∧ M1 97 10 = M 97 10 ∧ M1 97 44 = M 97 44 ∧ ((((a < 0 ∨ M 99 3 ≤ a) → r = -2 ∧ M1 99 3 = M 99 3) ∧ (0 ≤ a → a < M 99 3 → r = M 99 3 - 1 ∧ M1 99 3 = M 99 3 - 1)) ∧ (∀ k : Nat, 4 ≤ k → k < 13 → M1 99 k = M 99 k) ∧ M1 97 1 = ngv r ∧ M1 98 = telF (M 98) r))) := by
  refine Con.ofG rfl (Nat.le_of_ble_eq_true rfl) ?_
  show G X 12 RX10 cX10_drink 3 (some .int) (Qi (fun r M1 => IM M1 ∧ Fr (fun c => c = 97 ∨ c = 98 ∨ c = 99) M M1 ∧ M1 99 0 = M 99 0 ∧ M1 99 1 = M 99 1 ∧ M1 99 2 = M 99 2 ∧ M1 100 0 = M 100 0 ∧ M1 100 1 = M 100 1 ∧ M1 100 2 = M 100 2 ∧ M1 100 3 = M 100 3 ∧ M1 100 49 = M 100 49 ∧ M1 100 50 = M 100 50 ∧ M1 100 51 = M 100 51 ∧ M1 100 52 = M 100 52 ∧ M1 103 0 = M 103 0 ∧ M1 103 1 = M 103 1 ∧ M1 97 12 = M 97 12 ∧ M1 97 17 = M 97 17 ∧ M1 97 33 = M 97 33 ∧ M1 97 10 = M 97 10 ∧ M1 97 44 = M 97 44 ∧ ((((a < 0 ∨ M 99 3 ≤ a) → r = -2 ∧ M1 99 3 = M 99 3) ∧ (0 ≤ a → a < M 99 3 → r = M 99 3 - 1 ∧ M1 99 3 = M 99 3 - 1)) ∧ (∀ k : Nat, 4 ≤ k → k < 13 → M1 99 k = M 99 k) ∧ M1 97 1 = ngv r ∧ M1 98 = telF (M 98) r))) 0 [(0, vr X 97), (1, vi a)] [] M
  have p0 := hi.1.1
  have p1 := hi.1.2.1
  have p2 := hi.1.2.2.1
  have p3 := hi.1.2.2.2.1
  have p12 := hi.2.2.2.1
  refine g_aload_n (pc' := 1) 0 dX10_drink_0 rfl rfl ?_
  refine g_iconst (pc' := 2) dX10_drink_1 rfl ?_
  refine g_putI (pc' := 5) dX10_drink_2 rfl p_X10_77 rfl rfl (by decide) (fun M1 hM1 => ?_)
  have iM1 : IM M1 := IM.wr hi hM1 (by unfold okv; first | decide | omega)
  have fM1 : Fr (fun c => c = 97 ∨ c = 98 ∨ c = 99) M M1 := Fr.wr Fr.rf hM1 (by first | decide | omega | (dsimp only; omega))
  have q99_0_M1 : (M1 99 0 = M 99 0) := (show M1 99 0 = M 99 0 by rw [hM1]; exact mu_ne _ _ (by first | decide | omega))
  have q99_1_M1 : (M1 99 1 = M 99 1) := (show M1 99 1 = M 99 1 by rw [hM1]; exact mu_ne _ _ (by first | decide | omega))
  have q99_2_M1 : (M1 99 2 = M 99 2) := (show M1 99 2 = M 99 2 by rw [hM1]; exact mu_ne _ _ (by first | decide | omega))
  have q100_0_M1 : id (M1 100 0 = M 100 0) := (show M1 100 0 = M 100 0 by rw [hM1]; exact mu_ne _ _ (by first | decide | omega))
  have q100_1_M1 : id (M1 100 1 = M 100 1) := (show M1 100 1 = M 100 1 by rw [hM1]; exact mu_ne _ _ (by first | decide | omega))
  have q100_2_M1 : id (M1 100 2 = M 100 2) := (show M1 100 2 = M 100 2 by rw [hM1]; exact mu_ne _ _ (by first | decide | omega))
  have q100_3_M1 : id (M1 100 3 = M 100 3) := (show M1 100 3 = M 100 3 by rw [hM1]; exact mu_ne _ _ (by first | decide | omega))
  have q100_49_M1 : id (M1 100 49 = M 100 49) := (show M1 100 49 = M 100 49 by rw [hM1]; exact mu_ne _ _ (by first | decide | omega))
  have q100_50_M1 : id (M1 100 50 = M 100 50) := (show M1 100 50 = M 100 50 by rw [hM1]; exact mu_ne _ _ (by first | decide | omega))
  have q100_51_M1 : id (M1 100 51 = M 100 51) := (show M1 100 51 = M 100 51 by rw [hM1]; exact mu_ne _ _ (by first | decide | omega))
  have q100_52_M1 : id (M1 100 52 = M 100 52) := (show M1 100 52 = M 100 52 by rw [hM1]; exact mu_ne _ _ (by first | decide | omega))
  have q103_0_M1 : id (M1 103 0 = M 103 0) := (show M1 103 0 = M 103 0 by rw [hM1]; exact mu_ne _ _ (by first | decide | omega))
  have q103_1_M1 : id (M1 103 1 = M 103 1) := (show M1 103 1 = M 103 1 by rw [hM1]; exact mu_ne _ _ (by first | decide | omega))
  have q97_12_M1 : (M1 97 12 = M 97 12) := (show M1 97 12 = M 97 12 by rw [hM1]; exact mu_ne _ _ (by first | decide | omega))
  have q97_17_M1 : (M1 97 17 = M 97 17) := (show M1 97 17 = M 97 17 by rw [hM1]; exact mu_ne _ _ (by first | decide | omega))
  have q97_33_M1 : (M1 97 33 = M 97 33) := (show M1 97 33 = M 97 33 by rw [hM1]; exact mu_ne _ _ (by first | decide | omega))
  have q97_10_M1 : (M1 97 10 = M 97 10) := (show M1 97 10 = M 97 10 by rw [hM1]; exact mu_ne _ _ (by first | decide | omega))
  have q97_44_M1 : (M1 97 44 = M 97 44) := (show M1 97 44 = M 97 44 by rw [hM1]; exact mu_ne _ _ (by first | decide | omega))
  have q99_3_M1 : (M1 99 3 = M 99 3) := (show M1 99 3 = M 99 3 by rw [hM1]; exact mu_ne _ _ (by first | decide | omega))
  have q97_1_M1 : (M1 97 1 = M 97 1) := (show M1 97 1 = M 97 1 by rw [hM1]; exact mu_ne _ _ (by first | decide | omega))
  have wM1_99_3 : M1 99 3 = M 99 3 := by rw [hM1]; exact mu_ne _ _ (by first | decide | omega)
  have wM1_97_1 : M1 97 1 = M 97 1 := by rw [hM1]; exact mu_ne _ _ (by first | decide | omega)
  have wM1_97_1 : M1 97 1 = M 97 1 := by rw [hM1]; exact mu_ne _ _ (by first | decide | omega)
  have xM1_97_0 : M1 97 0 = 0 := by rw [hM1]; exact mu_at _ _ _ _
  have rkM1 : ∀ k : Nat, 4 ≤ k → k < 13 → M1 99 k = M 99 k := fun k hk1 hk2 => by rw [hM1, mu_cell _ _ (by decide)]
  have k98M1 : M1 98 = M 98 := (show M1 98 = M 98 by rw [hM1]; exact mu_cell _ _ (by decide))
  refine g_iload_n (pc' := 6) 1 dX10_drink_5 rfl rfl ?_
  refine g_i2l (pc' := 7) ha dX10_drink_6 rfl ?_
  refine g_lconst (pc' := 8) (v := 0) dX10_drink_7 rfl (by decide) ?_
  refine g_aload_n (pc' := 9) 0 dX10_drink_8 rfl rfl ?_
  refine g_getR (pc' := 12) dX10_drink_9 rfl f_X10_13 rfl rfl ?_
  refine g_iconst (pc' := 13) dX10_drink_12 rfl ?_
  refine g_iald (pc' := 14) dX10_drink_13 rfl rfl (by decide) (by decide) (fun v2 ev2 rv2 => ?_)
  have ev2 : v2 = M1 99 3 := ev2
  have bv2 : 0 ≤ v2 ∧ v2 ≤ 6 := by rw [ev2]; exact iM1.1.2.2.2.1
  have av2 : v2 = M 99 3 := ev2.trans q99_3_M1
  refine g_i2l (pc' := 15) rv2 dX10_drink_14 rfl ?_
  refine g_lconst (pc' := 16) (v := 1) dX10_drink_15 rfl (by decide) ?_
  refine g_lsub (pc' := 17) dX10_drink_16 rfl ?_
  refine g_callSip (pc' := 20) (As := [vl a, vl 0, vl (v2 - 1)]) (S := []) dX10_drink_17 rfl m_X10_83 w_X10_in (c_X10_in X M1 a ⟨by omega, by omega⟩ 0 (by decide) (v2 - 1) ⟨by omega, by omega⟩) rfl (by decide) (by decide) rfl (Nat.le_of_ble_eq_true rfl) (fun z4 q3 => ?_)
  refine g_if_ne (pc' := 23) (tgt := 30) ⟨by omega, by omega⟩ dX10_drink_20 rfl rfl (fun c5 => ?_) (fun c5 => ?_)
  · replace q3 := q3.resolve_right (fun h => c5 h.1)
    refine g_bipush (pc' := 32) (v := 31) dX10_drink_30 rfl (by decide) ?_
    refine g_iconst (pc' := 33) dX10_drink_32 rfl ?_
    refine g_iload_n (pc' := 34) 1 dX10_drink_33 rfl rfl ?_
    refine g_imul (pc' := 35) dX10_drink_34 rfl ?_
    refine g_iadd (pc' := 36) dX10_drink_35 rfl ?_
    obtain ⟨x6, ex6⟩ : ∃ z : Int, z = 31 + (3 * a) := ⟨_, rfl⟩
    rw [← ex6]
    refine g_istore_n (pc' := 37) (i := 2) (L' := [(2, vi x6), (0, vr X 97), (1, vi a)]) dX10_drink_36 rfl rfl (by decide) rfl ?_
    refine g_sub [0, 1, 2] rfl ?_
    exact l_X10_drink_x_37 X M hi a ha _ x6 M1 iM1 fM1 q99_0_M1 q99_1_M1 q99_2_M1 q100_0_M1 q100_1_M1 q100_2_M1 q100_3_M1 q100_49_M1 q100_50_M1 q100_51_M1 q100_52_M1 q103_0_M1 q103_1_M1 q97_12_M1 q97_17_M1 q97_33_M1 q97_10_M1 q97_44_M1 q99_3_M1 q97_1_M1 (by omega) (by omega) (by omega) k98M1 rkM1 rfl
  · replace q3 := q3.resolve_left (fun h => absurd (c5.symm.trans h.1) (by decide))
    refine g_aload_n (pc' := 24) 0 dX10_drink_23 rfl rfl ?_
    refine g_bipush (pc' := 26) (v := (-2)) dX10_drink_24 rfl (by decide) ?_
    refine g_callVi (pc' := 29) (As := [vi (-2)]) (b := 97) (S := []) dX10_drink_26 rfl m_X10_87 w_X10_tell (c_X10_tell_x X M1 iM1 (-2) (by decide) (by omega)) rfl ⟨_, _, _, rfl, rfl, rfl⟩ (by decide) (by decide) rfl (Nat.le_of_ble_eq_true rfl) (fun z8 M9 q7 => ?_)
    obtain ⟨iM9, fM90, eM9_99_0, eM9_99_1, eM9_99_2, eM9_99_3, eM9_100_0, eM9_100_1, eM9_100_2, eM9_100_3, eM9_100_49, eM9_100_50, eM9_100_51, eM9_100_52, eM9_103_0, eM9_103_1, eM9_97_12, eM9_97_17, eM9_97_33, eM9_97_10, eM9_97_44, pM9⟩ := q7
    have fM9 : Fr (fun c => c = 97 ∨ c = 98 ∨ c = 99) M M9 := Fr.tr fM1 fM90 fi_30
    have q99_0_M9 : (M9 99 0 = M 99 0) := eM9_99_0.trans q99_0_M1
    have q99_1_M9 : (M9 99 1 = M 99 1) := eM9_99_1.trans q99_1_M1
    have q99_2_M9 : (M9 99 2 = M 99 2) := eM9_99_2.trans q99_2_M1
    have q100_0_M9 : id (M9 100 0 = M 100 0) := eM9_100_0.trans q100_0_M1
    have q100_1_M9 : id (M9 100 1 = M 100 1) := eM9_100_1.trans q100_1_M1
    have q100_2_M9 : id (M9 100 2 = M 100 2) := eM9_100_2.trans q100_2_M1
    have q100_3_M9 : id (M9 100 3 = M 100 3) := eM9_100_3.trans q100_3_M1
    have q100_49_M9 : id (M9 100 49 = M 100 49) := eM9_100_49.trans q100_49_M1
    have q100_50_M9 : id (M9 100 50 = M 100 50) := eM9_100_50.trans q100_50_M1
    have q100_51_M9 : id (M9 100 51 = M 100 51) := eM9_100_51.trans q100_51_M1
    have q100_52_M9 : id (M9 100 52 = M 100 52) := eM9_100_52.trans q100_52_M1
    have q103_0_M9 : id (M9 103 0 = M 103 0) := eM9_103_0.trans q103_0_M1
    have q103_1_M9 : id (M9 103 1 = M 103 1) := eM9_103_1.trans q103_1_M1
    have q97_12_M9 : (M9 97 12 = M 97 12) := eM9_97_12.trans q97_12_M1
    have q97_17_M9 : (M9 97 17 = M 97 17) := eM9_97_17.trans q97_17_M1
    have q97_33_M9 : (M9 97 33 = M 97 33) := eM9_97_33.trans q97_33_M1
    have q97_10_M9 : (M9 97 10 = M 97 10) := eM9_97_10.trans q97_10_M1
    have q97_44_M9 : (M9 97 44 = M 97 44) := eM9_97_44.trans q97_44_M1
    have q99_3_M9 : (M9 99 3 = M 99 3) := eM9_99_3.trans q99_3_M1
    have wM9_99_3 : M9 99 3 = M1 99 3 := eM9_99_3
    clear eM9_100_0 eM9_100_1 eM9_100_2 eM9_100_3 eM9_100_49 eM9_100_50 eM9_100_51 eM9_100_52 eM9_103_0 eM9_103_1
    obtain ⟨anM9, asM9, a98M9⟩ := pM9
    rw [k98M1] at a98M9
    subst anM9
    have t99 := fM90 99 (by decide)
    refine g_ireturn dX10_drink_29 ?_
    exact ⟨iM9, fM9, q99_0_M9, q99_1_M9, q99_2_M9, q100_0_M9, q100_1_M9, q100_2_M9, q100_3_M9, q100_49_M9, q100_50_M9, q100_51_M9, q100_52_M9, q103_0_M9, q103_1_M9, q97_12_M9, q97_17_M9, q97_33_M9, q97_10_M9, q97_44_M9, by omega, fun k hk1 hk2 => by rw [t99]; exact rkM1 k hk1 hk2, asM9, a98M9⟩
