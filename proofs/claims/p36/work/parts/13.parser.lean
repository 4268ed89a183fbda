set_option maxHeartbeats 4000000 in
set_option maxRecDepth 100000 in
theorem l_X8_takeWord_45 (X : Cx) (M : Mm) (hi : IC M) (j : Nat) (hj : j < 14) : ∀ (kk : Nat) (b : Int) (k : Int) (M1 : Mm) (ic1 : IC M1) (fr1 : Fr (fun c => c = 31) M M1) (q31_1 : id (M1 31 1 = M 31 1)) (b0 : 0 ≤ b) (b1 : b + ((sLen.getD j 0 : Nat) : Int) ≤ 400) (k0 : 0 ≤ k) (k1 : k ≤ ((sLen.getD j 0 : Nat) : Int)) (at1 : M1 31 7 ≤ 399), (6 - k).toNat = kk → G X 6 RX8 cX8_takeWord 4 (some .boolean) (Qi (fun r M1 => IC M1 ∧ Fr (fun c => c = 31) M M1 ∧ M1 31 1 = M 31 1 ∧ (r = 0 ∨ r = 1))) 45 [(2, vi b), (3, vi k), (0, vr X 31), (1, vs X j)] [] M1 := by
  intro kk
  induction kk using Nat.strongRecOn with
  | ind kk ih =>
    intro b k M1 ic1 fr1 q31_1 b0 b1 k0 k1 at1 hmes
    have hs5 := sl_b j hj
    refine g_iload_n (pc' := 46) 1 dX8_takeWord_45 rfl rfl ?_
    refine g_sload_n (pc' := 47) 3 dX8_takeWord_46 rfl rfl ?_
    refine g_callW (pc' := 50) (As := []) (S := [vi k]) hj rfl dX8_takeWord_47 rfl m_X8_58 w_J0_length_8abf5 (c_J0_length_8abf5 X M1 j hj) rfl (by decide) (by decide) rfl (Nat.le_of_ble_eq_true rfl) (fun z1 q2 => ?_)
    refine g_ic_ge (pc' := 53) (tgt := 77) ⟨by omega, by omega⟩ ⟨by omega, by omega⟩ dX8_takeWord_50 rfl rfl (fun c3 => ?_) (fun c3 => ?_)
    · refine g_aload_n (pc' := 78) 2 dX8_takeWord_77 rfl rfl ?_
      refine g_dup (pc' := 79) dX8_takeWord_78 rfl rfl ?_
      refine g_getI (pc' := 82) dX8_takeWord_79 rfl f_X8_34 rfl rfl (fun v4 ev4 rv4 => ?_)
      have bv4 : 0 ≤ v4 ∧ v4 ≤ 400 := by rw [ev4]; exact ic1.2.2.1.2.1
      refine g_iconst (pc' := 83) dX8_takeWord_82 rfl ?_
      refine g_iadd (pc' := 84) dX8_takeWord_83 rfl ?_
      refine g_putI (pc' := 87) dX8_takeWord_84 rfl p_X8_34 rfl rfl ⟨by omega, by omega⟩ (fun M5 hM5 => ?_)
      have iM5 : IC M5 := IC.wr ic1 hM5 (by unfold okw isT; first | decide | omega)
      have fM5 : Fr (fun c => c = 31) M M5 := Fr.wr fr1 hM5 (by first | decide | omega | (dsimp only; omega))
      have q31_1_M5 : id (M5 31 1 = M 31 1) := (show M5 31 1 = M1 31 1 by rw [hM5]; exact mu_ne _ _ (by first | decide | omega)).trans q31_1
      have xM5_31_7 : M5 31 7 = v4 + 1 := by rw [hM5]; exact mu_at _ _ _ _
      refine g_iconst (pc' := 88) dX8_takeWord_87 rfl ?_
      refine g_zreturn dX8_takeWord_88 (by omega) ?_
      exact ⟨iM5, fM5, q31_1_M5, by omega⟩
    · refine g_aload_n (pc' := 54) 2 dX8_takeWord_53 rfl rfl ?_
      refine g_getR (pc' := 57) dX8_takeWord_54 rfl f_X8_9 rfl rfl ?_
      refine g_iload_n (pc' := 58) 0 dX8_takeWord_57 rfl rfl ?_
      refine g_iload_n (pc' := 59) 1 dX8_takeWord_58 rfl rfl ?_
      refine g_iadd (pc' := 60) dX8_takeWord_59 rfl ?_
      refine g_iald (pc' := 61) dX8_takeWord_60 rfl rfl (by omega) (by omega) (fun v6 ev6 rv6 => ?_)
      refine g_sload_n (pc' := 62) 3 dX8_takeWord_61 rfl rfl ?_
      refine g_iload_n (pc' := 63) 1 dX8_takeWord_62 rfl rfl ?_
      refine g_callW (pc' := 66) (As := [vi k]) (S := [vi v6]) hj rfl dX8_takeWord_63 rfl m_X8_63 w_J0_charAt_5068e (c_J0_charAt_5068e X M1 j hj k ⟨by omega, by omega⟩ (by omega) (by omega)) rfl (by decide) (by decide) rfl (Nat.le_of_ble_eq_true rfl) (fun z7 q8 => ?_)
      have bz7 : inI z7 := by rw [q8]; exact inI_toInt _
      refine g_ic_eq (pc' := 69) (tgt := 71) rv6 bz7 dX8_takeWord_66 rfl rfl (fun c9 => ?_) (fun c9 => ?_)
      · refine g_iinc (pc' := 74) (L' := [(3, vi (k + 1)), (2, vi b), (0, vr X 31), (1, vs X j)]) 1 dX8_takeWord_71 rfl rfl (by decide) rfl ?_
        refine g_goto (tgt := 45) dX8_takeWord_74 rfl ?_
        refine g_sub [1, 0, 2, 3] rfl ?_
        exact ih _ (by omega) b (k + 1) M1 ic1 fr1 q31_1 (by omega) (by omega) (by omega) (by omega) (by omega) rfl
      · refine g_iconst (pc' := 70) dX8_takeWord_69 rfl ?_
        refine g_zreturn dX8_takeWord_70 (by omega) ?_
        exact ⟨ic1, fr1, q31_1, by omega⟩
set_option maxHeartbeats 4000000 in
set_option maxRecDepth 100000 in
theorem c_X8_takeWord (X : Cx) (M : Mm) (hi : IC M) (j : Nat) (hj : j < 14) : Con X 6 yX8_takeWord cX8_takeWord 4 (some .boolean) [vr X 31, vs X j] M (Qi (fun r M1 => IC M1 ∧ Fr (fun c => c = 31) M M1 ∧ M1 31 1 = M 31 1 ∧ (r = 0 ∨ r = 1))) := by
  refine Con.ofG rfl (Nat.le_of_ble_eq_true rfl) ?_
  show G X 6 RX8 cX8_takeWord 4 (some .boolean) (Qi (fun r M1 => IC M1 ∧ Fr (fun c => c = 31) M M1 ∧ M1 31 1 = M 31 1 ∧ (r = 0 ∨ r = 1))) 0 [(0, vr X 31), (1, vs X j)] [] M
  have hs5 := sl_b j hj
  refine g_aload_n (pc' := 1) 0 dX8_takeWord_0 rfl rfl ?_
  refine g_getR (pc' := 4) dX8_takeWord_1 rfl f_X8_18 rfl rfl ?_
  refine g_aload_n (pc' := 5) 0 dX8_takeWord_4 rfl rfl ?_
  refine g_getI (pc' := 8) dX8_takeWord_5 rfl f_X8_34 rfl rfl (fun v1 ev1 rv1 => ?_)
  have bv1 : 0 ≤ v1 ∧ v1 ≤ 400 := by rw [ev1]; exact hi.2.2.1.2.1
  refine g_iald (pc' := 9) dX8_takeWord_8 rfl rfl (by omega) (by omega) (fun v2 ev2 rv2 => ?_)
  have bv2 : 0 ≤ v2 ∧ v2 ≤ 400 := by rw [ev2]; exact ⟨(hi.2.2.1.2.2.2 _ (by omega)).1, (hi.2.2.1.2.2.2 _ (by omega)).2.1⟩
  refine g_istore_n (pc' := 10) (i := 2) (L' := [(2, vi v2), (0, vr X 31), (1, vs X j)]) dX8_takeWord_9 rfl rfl (by decide) rfl ?_
  refine g_aload_n (pc' := 11) 1 dX8_takeWord_10 rfl rfl ?_
  refine g_getR (pc' := 14) dX8_takeWord_11 rfl f_X8_15 rfl rfl ?_
  refine g_aload_n (pc' := 15) 1 dX8_takeWord_14 rfl rfl ?_
  refine g_getI (pc' := 18) dX8_takeWord_15 rfl f_X8_34 rfl rfl (fun v3 ev3 rv3 => ?_)
  obtain rfl : v1 = v3 := ev1.trans ev3.symm
  refine g_iald (pc' := 19) dX8_takeWord_18 rfl rfl (by omega) (by omega) (fun v4 ev4 rv4 => ?_)
  have zv4 : v4 ≠ 0 → M 34 v1.toNat ≤ 399 := by rw [ev4]; exact (hi.2.2.1.2.2.2 _ (by omega)).2.2.2.2
  have uv4 : v4 ≠ 0 → v1 ≠ 400 := by intro h1 h2; apply h1; rw [ev4, h2]; exact hi.2.2.1.2.2.1
  refine g_iconst (pc' := 20) dX8_takeWord_19 rfl ?_
  refine g_ic_ne (pc' := 23) (tgt := 41) rv4 (by decide) dX8_takeWord_20 rfl rfl (fun c5 => ?_) (fun c5 => ?_)
  · refine g_iconst (pc' := 42) dX8_takeWord_41 rfl ?_
    refine g_zreturn dX8_takeWord_42 (by omega) ?_
    exact ⟨hi, Fr.rf, rfl, by omega⟩
  · refine g_aload_n (pc' := 24) 1 dX8_takeWord_23 rfl rfl ?_
    refine g_getR (pc' := 27) dX8_takeWord_24 rfl f_X8_21 rfl rfl ?_
    refine g_aload_n (pc' := 28) 1 dX8_takeWord_27 rfl rfl ?_
    refine g_getI (pc' := 31) dX8_takeWord_28 rfl f_X8_34 rfl rfl (fun v6 ev6 rv6 => ?_)
    obtain rfl : v1 = v6 := ev1.trans ev6.symm
    refine g_iald (pc' := 32) dX8_takeWord_31 rfl rfl (by omega) (by omega) (fun v7 ev7 rv7 => ?_)
    have bv7 : 0 ≤ v7 ∧ v7 ≤ 400 := by rw [ev7]; exact ⟨(hi.2.2.1.2.2.2 _ (by omega)).2.2.1, (hi.2.2.1.2.2.2 _ (by omega)).2.2.2.1⟩
    refine g_iload_n (pc' := 33) 0 dX8_takeWord_32 rfl rfl ?_
    refine g_isub (pc' := 34) dX8_takeWord_33 rfl ?_
    refine g_sload_n (pc' := 35) 2 dX8_takeWord_34 rfl rfl ?_
    refine g_callW (pc' := 38) (As := []) (S := [vi (v7 - v2)]) hj rfl dX8_takeWord_35 rfl m_X8_58 w_J0_length_8abf5 (c_J0_length_8abf5 X M j hj) rfl (by decide) (by decide) rfl (Nat.le_of_ble_eq_true rfl) (fun z8 q9 => ?_)
    refine g_ic_eq (pc' := 41) (tgt := 43) ⟨by omega, by omega⟩ ⟨by omega, by omega⟩ dX8_takeWord_38 rfl rfl (fun c10 => ?_) (fun c10 => ?_)
    · refine g_iconst (pc' := 44) dX8_takeWord_43 rfl ?_
      refine g_istore_n (pc' := 45) (i := 3) (L' := [(3, vi 0), (2, vi v2), (0, vr X 31), (1, vs X j)]) dX8_takeWord_44 rfl rfl (by decide) rfl ?_
      refine g_sub [1, 0, 2, 3] rfl ?_
      exact l_X8_takeWord_45 X M hi j hj _ v2 0 M hi Fr.rf rfl (by omega) (by omega) (by omega) (by omega) (by omega) rfl
    · refine g_iconst (pc' := 42) dX8_takeWord_41 rfl ?_
      refine g_zreturn dX8_takeWord_42 (by omega) ?_
      exact ⟨hi, Fr.rf, rfl, by omega⟩
set_option maxHeartbeats 4000000 in
set_option maxRecDepth 100000 in
theorem c_X2_takeComparison (X : Cx) (M : Mm) (hi : IC M) : Con X 1 yX2_takeComparison cX2_takeComparison 1 (some .int) [vr X 30] M (Qi (fun r M1 => IC M1 ∧ Fr (fun c => 30 ≤ c ∧ c ≤ 52) M M1 ∧ M1 31 1 = M 31 1 ∧ (r = 10 ∨ r = 11 ∨ r = 12 ∨ r = 0))) := by
  refine Con.ofG rfl (Nat.le_of_ble_eq_true rfl) ?_
  show G X 1 RX2 cX2_takeComparison 1 (some .int) (Qi (fun r M1 => IC M1 ∧ Fr (fun c => 30 ≤ c ∧ c ≤ 52) M M1 ∧ M1 31 1 = M 31 1 ∧ (r = 10 ∨ r = 11 ∨ r = 12 ∨ r = 0))) 0 [(0, vr X 30)] [] M
  refine g_aload_n (pc' := 1) 0 dX2_takeComparison_0 rfl rfl ?_
  refine g_getR (pc' := 4) dX2_takeComparison_1 rfl f_X2_12 rfl rfl ?_
  refine g_bipush (pc' := 6) (v := 60) dX2_takeComparison_4 rfl (by decide) ?_
  refine g_callVi (pc' := 9) (As := [vi 60]) (b := 31) (S := []) dX2_takeComparison_6 rfl m_X2_50 w_X8_takeSign (c_X8_takeSign X M hi 60 (by decide)) rfl ⟨_, _, _, rfl, rfl, rfl⟩ (by decide) (by decide) rfl (Nat.le_of_ble_eq_true rfl) (fun z2 M3 q1 => ?_)
  obtain ⟨iM3, fM30, eM3_31_1, pM3⟩ := q1
  have fM3 : Fr (fun c => 30 ≤ c ∧ c ≤ 52) M M3 := Fr.tr Fr.rf fM30 fi_1
  have q31_1_M3 : id (M3 31 1 = M 31 1) := eM3_31_1
  clear eM3_31_1
  refine g_if_eq (pc' := 12) (tgt := 15) ⟨by omega, by omega⟩ dX2_takeComparison_9 rfl rfl (fun c4 => ?_) (fun c4 => ?_)
  · refine g_aload_n (pc' := 16) 0 dX2_takeComparison_15 rfl rfl ?_
    refine g_getR (pc' := 19) dX2_takeComparison_16 rfl f_X2_12 rfl rfl ?_
    refine g_bipush (pc' := 21) (v := 62) dX2_takeComparison_19 rfl (by decide) ?_
    refine g_callVi (pc' := 24) (As := [vi 62]) (b := 31) (S := []) dX2_takeComparison_21 rfl m_X2_50 w_X8_takeSign (c_X8_takeSign X M3 iM3 62 (by decide)) rfl ⟨_, _, _, rfl, rfl, rfl⟩ (by decide) (by decide) rfl (Nat.le_of_ble_eq_true rfl) (fun z6 M7 q5 => ?_)
    obtain ⟨iM7, fM70, eM7_31_1, pM7⟩ := q5
    have fM7 : Fr (fun c => 30 ≤ c ∧ c ≤ 52) M M7 := Fr.tr fM3 fM70 fi_1
    have q31_1_M7 : id (M7 31 1 = M 31 1) := eM7_31_1.trans q31_1_M3
    clear eM7_31_1
    refine g_if_eq (pc' := 27) (tgt := 30) ⟨by omega, by omega⟩ dX2_takeComparison_24 rfl rfl (fun c8 => ?_) (fun c8 => ?_)
    · refine g_aload_n (pc' := 31) 0 dX2_takeComparison_30 rfl rfl ?_
      refine g_getR (pc' := 34) dX2_takeComparison_31 rfl f_X2_12 rfl rfl ?_
      refine g_bipush (pc' := 36) (v := 61) dX2_takeComparison_34 rfl (by decide) ?_
      refine g_callVi (pc' := 39) (As := [vi 61]) (b := 31) (S := []) dX2_takeComparison_36 rfl m_X2_50 w_X8_takeSign (c_X8_takeSign X M7 iM7 61 (by decide)) rfl ⟨_, _, _, rfl, rfl, rfl⟩ (by decide) (by decide) rfl (Nat.le_of_ble_eq_true rfl) (fun z10 M11 q9 => ?_)
      obtain ⟨iM11, fM110, eM11_31_1, pM11⟩ := q9
      have fM11 : Fr (fun c => 30 ≤ c ∧ c ≤ 52) M M11 := Fr.tr fM7 fM110 fi_1
      have q31_1_M11 : id (M11 31 1 = M 31 1) := eM11_31_1.trans q31_1_M7
      clear eM11_31_1
      refine g_if_eq (pc' := 42) (tgt := 47) ⟨by omega, by omega⟩ dX2_takeComparison_39 rfl rfl (fun c12 => ?_) (fun c12 => ?_)
      · refine g_iconst (pc' := 48) dX2_takeComparison_47 rfl ?_
        refine g_ireturn dX2_takeComparison_48 ?_
        exact ⟨iM11, fM11, q31_1_M11, by omega⟩
      · refine g_bipush (pc' := 44) (v := 12) dX2_takeComparison_42 rfl (by decide) ?_
        refine g_goto (tgt := 48) dX2_takeComparison_44 rfl ?_
        refine g_ireturn dX2_takeComparison_48 ?_
        exact ⟨iM11, fM11, q31_1_M11, by omega⟩
    · refine g_bipush (pc' := 29) (v := 11) dX2_takeComparison_27 rfl (by decide) ?_
      refine g_ireturn dX2_takeComparison_29 ?_
      exact ⟨iM7, fM7, q31_1_M7, by omega⟩
  · refine g_bipush (pc' := 14) (v := 10) dX2_takeComparison_12 rfl (by decide) ?_
    refine g_ireturn dX2_takeComparison_14 ?_
    exact ⟨iM3, fM3, q31_1_M3, by omega⟩
set_option maxHeartbeats 4000000 in
set_option maxRecDepth 100000 in
theorem c_X2_takeSumSign (X : Cx) (M : Mm) (hi : IC M) : Con X 1 yX2_takeSumSign cX2_takeSumSign 1 (some .int) [vr X 30] M (Qi (fun r M1 => IC M1 ∧ Fr (fun c => 30 ≤ c ∧ c ≤ 52) M M1 ∧ M1 31 1 = M 31 1 ∧ (r = 6 ∨ r = 7 ∨ r = 0))) := by
  refine Con.ofG rfl (Nat.le_of_ble_eq_true rfl) ?_
  show G X 1 RX2 cX2_takeSumSign 1 (some .int) (Qi (fun r M1 => IC M1 ∧ Fr (fun c => 30 ≤ c ∧ c ≤ 52) M M1 ∧ M1 31 1 = M 31 1 ∧ (r = 6 ∨ r = 7 ∨ r = 0))) 0 [(0, vr X 30)] [] M
  refine g_aload_n (pc' := 1) 0 dX2_takeSumSign_0 rfl rfl ?_
  refine g_getR (pc' := 4) dX2_takeSumSign_1 rfl f_X2_12 rfl rfl ?_
  refine g_bipush (pc' := 6) (v := 43) dX2_takeSumSign_4 rfl (by decide) ?_
  refine g_callVi (pc' := 9) (As := [vi 43]) (b := 31) (S := []) dX2_takeSumSign_6 rfl m_X2_50 w_X8_takeSign (c_X8_takeSign X M hi 43 (by decide)) rfl ⟨_, _, _, rfl, rfl, rfl⟩ (by decide) (by decide) rfl (Nat.le_of_ble_eq_true rfl) (fun z2 M3 q1 => ?_)
  obtain ⟨iM3, fM30, eM3_31_1, pM3⟩ := q1
  have fM3 : Fr (fun c => 30 ≤ c ∧ c ≤ 52) M M3 := Fr.tr Fr.rf fM30 fi_1
  have q31_1_M3 : id (M3 31 1 = M 31 1) := eM3_31_1
  clear eM3_31_1
  refine g_if_eq (pc' := 12) (tgt := 15) ⟨by omega, by omega⟩ dX2_takeSumSign_9 rfl rfl (fun c4 => ?_) (fun c4 => ?_)
  · refine g_aload_n (pc' := 16) 0 dX2_takeSumSign_15 rfl rfl ?_
    refine g_getR (pc' := 19) dX2_takeSumSign_16 rfl f_X2_12 rfl rfl ?_
    refine g_bipush (pc' := 21) (v := 45) dX2_takeSumSign_19 rfl (by decide) ?_
    refine g_callVi (pc' := 24) (As := [vi 45]) (b := 31) (S := []) dX2_takeSumSign_21 rfl m_X2_50 w_X8_takeSign (c_X8_takeSign X M3 iM3 45 (by decide)) rfl ⟨_, _, _, rfl, rfl, rfl⟩ (by decide) (by decide) rfl (Nat.le_of_ble_eq_true rfl) (fun z6 M7 q5 => ?_)
    obtain ⟨iM7, fM70, eM7_31_1, pM7⟩ := q5
    have fM7 : Fr (fun c => 30 ≤ c ∧ c ≤ 52) M M7 := Fr.tr fM3 fM70 fi_1
    have q31_1_M7 : id (M7 31 1 = M 31 1) := eM7_31_1.trans q31_1_M3
    clear eM7_31_1
    refine g_if_eq (pc' := 27) (tgt := 32) ⟨by omega, by omega⟩ dX2_takeSumSign_24 rfl rfl (fun c8 => ?_) (fun c8 => ?_)
    · refine g_iconst (pc' := 33) dX2_takeSumSign_32 rfl ?_
      refine g_ireturn dX2_takeSumSign_33 ?_
      exact ⟨iM7, fM7, q31_1_M7, by omega⟩
    · refine g_bipush (pc' := 29) (v := 7) dX2_takeSumSign_27 rfl (by decide) ?_
      refine g_goto (tgt := 33) dX2_takeSumSign_29 rfl ?_
      refine g_ireturn dX2_takeSumSign_33 ?_
      exact ⟨iM7, fM7, q31_1_M7, by omega⟩
  · refine g_bipush (pc' := 14) (v := 6) dX2_takeSumSign_12 rfl (by decide) ?_
    refine g_ireturn dX2_takeSumSign_14 ?_
    exact ⟨iM3, fM3, q31_1_M3, by omega⟩
set_option maxHeartbeats 4000000 in
set_option maxRecDepth 100000 in
theorem c_X2_takeTermSign (X : Cx) (M : Mm) (hi : IC M) : Con X 1 yX2_takeTermSign cX2_takeTermSign 1 (some .int) [vr X 30] M (Qi (fun r M1 => IC M1 ∧ Fr (fun c => 30 ≤ c ∧ c ≤ 52) M M1 ∧ M1 31 1 = M 31 1 ∧ (r = 8 ∨ r = 9 ∨ r = 0))) := by
  refine Con.ofG rfl (Nat.le_of_ble_eq_true rfl) ?_
  show G X 1 RX2 cX2_takeTermSign 1 (some .int) (Qi (fun r M1 => IC M1 ∧ Fr (fun c => 30 ≤ c ∧ c ≤ 52) M M1 ∧ M1 31 1 = M 31 1 ∧ (r = 8 ∨ r = 9 ∨ r = 0))) 0 [(0, vr X 30)] [] M
  refine g_aload_n (pc' := 1) 0 dX2_takeTermSign_0 rfl rfl ?_
  refine g_getR (pc' := 4) dX2_takeTermSign_1 rfl f_X2_12 rfl rfl ?_
  refine g_bipush (pc' := 6) (v := 42) dX2_takeTermSign_4 rfl (by decide) ?_
  refine g_callVi (pc' := 9) (As := [vi 42]) (b := 31) (S := []) dX2_takeTermSign_6 rfl m_X2_50 w_X8_takeSign (c_X8_takeSign X M hi 42 (by decide)) rfl ⟨_, _, _, rfl, rfl, rfl⟩ (by decide) (by decide) rfl (Nat.le_of_ble_eq_true rfl) (fun z2 M3 q1 => ?_)
  obtain ⟨iM3, fM30, eM3_31_1, pM3⟩ := q1
  have fM3 : Fr (fun c => 30 ≤ c ∧ c ≤ 52) M M3 := Fr.tr Fr.rf fM30 fi_1
  have q31_1_M3 : id (M3 31 1 = M 31 1) := eM3_31_1
  clear eM3_31_1
  refine g_if_eq (pc' := 12) (tgt := 15) ⟨by omega, by omega⟩ dX2_takeTermSign_9 rfl rfl (fun c4 => ?_) (fun c4 => ?_)
  · refine g_aload_n (pc' := 16) 0 dX2_takeTermSign_15 rfl rfl ?_
    refine g_getR (pc' := 19) dX2_takeTermSign_16 rfl f_X2_12 rfl rfl ?_
    refine g_bipush (pc' := 21) (v := 47) dX2_takeTermSign_19 rfl (by decide) ?_
    refine g_callVi (pc' := 24) (As := [vi 47]) (b := 31) (S := []) dX2_takeTermSign_21 rfl m_X2_50 w_X8_takeSign (c_X8_takeSign X M3 iM3 47 (by decide)) rfl ⟨_, _, _, rfl, rfl, rfl⟩ (by decide) (by decide) rfl (Nat.le_of_ble_eq_true rfl) (fun z6 M7 q5 => ?_)
    obtain ⟨iM7, fM70, eM7_31_1, pM7⟩ := q5
    have fM7 : Fr (fun c => 30 ≤ c ∧ c ≤ 52) M M7 := Fr.tr fM3 fM70 fi_1
    have q31_1_M7 : id (M7 31 1 = M 31 1) := eM7_31_1.trans q31_1_M3
    clear eM7_31_1
    refine g_if_eq (pc' := 27) (tgt := 32) ⟨by omega, by omega⟩ dX2_takeTermSign_24 rfl rfl (fun c8 => ?_) (fun c8 => ?_)
    · refine g_iconst (pc' := 33) dX2_takeTermSign_32 rfl ?_
      refine g_ireturn dX2_takeTermSign_33 ?_
      exact ⟨iM7, fM7, q31_1_M7, by omega⟩
    · refine g_bipush (pc' := 29) (v := 9) dX2_takeTermSign_27 rfl (by decide) ?_
      refine g_goto (tgt := 33) dX2_takeTermSign_29 rfl ?_
      refine g_ireturn dX2_takeTermSign_33 ?_
      exact ⟨iM7, fM7, q31_1_M7, by omega⟩
  · refine g_bipush (pc' := 14) (v := 8) dX2_takeTermSign_12 rfl (by decide) ?_
    refine g_ireturn dX2_takeTermSign_14 ?_
    exact ⟨iM3, fM3, q31_1_M3, by omega⟩
set_option maxHeartbeats 4000000 in
set_option maxRecDepth 100000 in
theorem c_X2_readGlass (X : Cx) (M : Mm) (hi : IC M) (a : Int) (ha : inI a) (b : Int) (hb : inI b) : Con X 7 yX2_readGlass cX2_readGlass 4 (some .boolean) [vr X 30, vi a, vi b] M (Qi (fun r M1 => IC M1 ∧ Fr (fun c => 30 ≤ c ∧ c ≤ 52) M M1 ∧ M1 31 1 = M 31 1 ∧ (r = 0 ∨ r = 1))) := by
  refine Con.ofG rfl (Nat.le_of_ble_eq_true rfl) ?_
  show G X 7 RX2 cX2_readGlass 4 (some .boolean) (Qi (fun r M1 => IC M1 ∧ Fr (fun c => 30 ≤ c ∧ c ≤ 52) M M1 ∧ M1 31 1 = M 31 1 ∧ (r = 0 ∨ r = 1))) 0 [(0, vr X 30), (1, vi a), (2, vi b)] [] M
  refine g_aload_n (pc' := 1) 0 dX2_readGlass_0 rfl rfl ?_
  refine g_getR (pc' := 4) dX2_readGlass_1 rfl f_X2_12 rfl rfl ?_
  refine g_iconst (pc' := 5) dX2_readGlass_4 rfl ?_
  refine g_iconst (pc' := 6) dX2_readGlass_5 rfl ?_
  refine g_callVi (pc' := 9) (As := [vi 0, vi 5]) (b := 31) (S := []) dX2_readGlass_6 rfl m_X2_87 w_X8_takeNumber (c_X8_takeNumber X M hi 0 (by decide) 5 (by decide)) rfl ⟨_, _, _, rfl, rfl, rfl⟩ (by decide) (by decide) rfl (Nat.le_of_ble_eq_true rfl) (fun z2 M3 q1 => ?_)
  obtain ⟨iM3, fM30, eM3_31_1, pM3⟩ := q1
  have fM3 : Fr (fun c => 30 ≤ c ∧ c ≤ 52) M M3 := Fr.tr Fr.rf fM30 fi_1
  have q31_1_M3 : id (M3 31 1 = M 31 1) := eM3_31_1
  clear eM3_31_1
  refine g_istore_n (pc' := 10) (i := 3) (L' := [(3, vi z2), (0, vr X 30), (1, vi a), (2, vi b)]) dX2_readGlass_9 rfl rfl (by decide) rfl ?_
  refine g_iload_n (pc' := 11) 0 dX2_readGlass_10 rfl rfl ?_
  refine g_iconst (pc' := 12) dX2_readGlass_11 rfl ?_
  refine g_ic_ne (pc' := 15) (tgt := 17) ⟨by omega, by omega⟩ (by decide) dX2_readGlass_12 rfl rfl (fun c4 => ?_) (fun c4 => ?_)
  · refine g_aload_n (pc' := 18) 1 dX2_readGlass_17 rfl rfl ?_
    refine g_getR (pc' := 21) dX2_readGlass_18 rfl f_X2_21 rfl rfl ?_
    refine g_iload_n (pc' := 22) 2 dX2_readGlass_21 rfl rfl ?_
    refine g_iload_n (pc' := 23) 0 dX2_readGlass_22 rfl rfl ?_
    refine g_iconst (pc' := 24) dX2_readGlass_23 rfl ?_
    refine g_imul (pc' := 25) dX2_readGlass_24 rfl ?_
    refine g_iload_n (pc' := 26) 3 dX2_readGlass_25 rfl rfl ?_
    refine g_iadd (pc' := 27) dX2_readGlass_26 rfl ?_
    refine g_nrmI (fun n5 rn5 en5 => ?_)
    have bn5 : (-2147483648 ≤ (z2 * 4) + b ∧ (z2 * 4) + b ≤ 2147483647) → n5 = (z2 * 4) + b := fun h => en5.trans (bm32 h)
    refine g_callVi (pc' := 30) (As := [vi a, vi n5]) (b := 37) (S := []) dX2_readGlass_27 rfl m_X2_129 w_X4_write (c_X4_write X M3 iM3 a ha n5 rn5) rfl ⟨_, _, _, rfl, rfl, rfl⟩ (by decide) (by decide) rfl (Nat.le_of_ble_eq_true rfl) (fun z7 M8 q6 => ?_)
    obtain ⟨iM8, fM80, pM8⟩ := q6
    have fM8 : Fr (fun c => 30 ≤ c ∧ c ≤ 52) M M8 := Fr.tr fM3 fM80 fi_2
    have q31_1_M8 : id (M8 31 1 = M 31 1) := (congrFun (fM80 31 (by first | decide | omega | (dsimp only; omega))) 1).trans q31_1_M3
    refine g_pop (pc' := 31) dX2_readGlass_30 rfl rfl ?_
    refine g_iconst (pc' := 32) dX2_readGlass_31 rfl ?_
    refine g_zreturn dX2_readGlass_32 (by omega) ?_
    exact ⟨iM8, fM8, q31_1_M8, by omega⟩
  · refine g_iconst (pc' := 16) dX2_readGlass_15 rfl ?_
    refine g_zreturn dX2_readGlass_16 (by omega) ?_
    exact ⟨iM3, fM3, q31_1_M3, by omega⟩
set_option maxHeartbeats 4000000 in
set_option maxRecDepth 100000 in
theorem c_X2_readPart (X : Cx) (M : Mm) (hi : IC M) (b : Int) (hb : inI b) (hb8 : 0 ≤ b ∧ b ≤ 8) (hrec : ∀ (M : Mm) (_ : IC M), b < 8 → Con X (12 + 3 * (8 - (b + 1)).toNat) yX2_readSum cX2_readSum 5 (some .boolean) [vr X 30, vi (b + 1)] M (Qi (fun r M1 => IC M1 ∧ Fr (fun c => 30 ≤ c ∧ c ≤ 52) M M1 ∧ M1 31 1 = M 31 1 ∧ (r = 0 ∨ r = 1)))) : Con X (10 + 3 * (8 - b).toNat) yX2_readPart cX2_readPart 4 (some .boolean) [vr X 30, vi b] M (Qi (fun r M1 => IC M1 ∧ Fr (fun c => 30 ≤ c ∧ c ≤ 52) M M1 ∧ M1 31 1 = M 31 1 ∧ (r = 0 ∨ r = 1))) := by
  refine Con.ofG rfl (Nat.le_of_ble_eq_true rfl) ?_
  show G X (10 + 3 * (8 - b).toNat) RX2 cX2_readPart 4 (some .boolean) (Qi (fun r M1 => IC M1 ∧ Fr (fun c => 30 ≤ c ∧ c ≤ 52) M M1 ∧ M1 31 1 = M 31 1 ∧ (r = 0 ∨ r = 1))) 0 [(0, vr X 30), (1, vi b)] [] M
  refine g_aload_n (pc' := 1) 0 dX2_readPart_0 rfl rfl ?_
  refine g_getR (pc' := 4) dX2_readPart_1 rfl f_X2_12 rfl rfl ?_
  refine g_bipush (pc' := 6) (v := 91) dX2_readPart_4 rfl (by decide) ?_
  refine g_callVip (pc' := 9) (As := [vi 91]) (b := 31) (S := []) dX2_readPart_6 rfl m_X2_143 w_X8_isSign (c_X8_isSign X M hi 91 (by decide)) rfl ⟨_, _, _, rfl, rfl, rfl⟩ (by omega) (by decide) rfl (Nat.le_of_ble_eq_true rfl) (fun z2 q1 => ?_)
  refine g_if_eq (pc' := 12) (tgt := 58) ⟨by omega, by omega⟩ dX2_readPart_9 rfl rfl (fun c3 => ?_) (fun c3 => ?_)
  · refine g_aload_n (pc' := 59) 0 dX2_readPart_58 rfl rfl ?_
    refine g_getI (pc' := 62) dX2_readPart_59 rfl f_X2_25 rfl rfl (fun v4 ev4 rv4 => ?_)
    refine g_bipush (pc' := 64) (v := 50) dX2_readPart_62 rfl (by decide) ?_
    refine g_ic_lt (pc' := 67) (tgt := 69) rv4 (by decide) dX2_readPart_64 rfl rfl (fun c5 => ?_) (fun c5 => ?_)
    · refine g_aload_n (pc' := 70) 0 dX2_readPart_69 rfl rfl ?_
      refine g_dup (pc' := 71) dX2_readPart_70 rfl rfl ?_
      refine g_getI (pc' := 74) dX2_readPart_71 rfl f_X2_25 rfl rfl (fun v6 ev6 rv6 => ?_)
      obtain rfl : v4 = v6 := ev4.trans ev6.symm
      refine g_iconst (pc' := 75) dX2_readPart_74 rfl ?_
      refine g_iadd (pc' := 76) dX2_readPart_75 rfl ?_
      refine g_putI (pc' := 79) dX2_readPart_76 rfl p_X2_25 rfl rfl ⟨by omega, by omega⟩ (fun M7 hM7 => ?_)
      have iM7 : IC M7 := IC.wr hi hM7 (by unfold okw isT; first | decide | omega)
      have fM7 : Fr (fun c => 30 ≤ c ∧ c ≤ 52) M M7 := Fr.wr Fr.rf hM7 (by first | decide | omega | (dsimp only; omega))
      have q31_1_M7 : id (M7 31 1 = M 31 1) := (show M7 31 1 = M 31 1 by rw [hM7]; exact mu_ne _ _ (by first | decide | omega))
      have xM7_30_2 : M7 30 2 = v4 + 1 := by rw [hM7]; exact mu_at _ _ _ _
      refine g_aload_n (pc' := 80) 0 dX2_readPart_79 rfl rfl ?_
      refine g_getR (pc' := 83) dX2_readPart_80 rfl f_X2_12 rfl rfl ?_
      refine g_iconst (pc' := 84) dX2_readPart_83 rfl ?_
      refine g_sipush (pc' := 87) (v := 1000) dX2_readPart_84 rfl (by decide) ?_
      refine g_callVi (pc' := 90) (As := [vi 0, vi 1000]) (b := 31) (S := []) dX2_readPart_87 rfl m_X2_87 w_X8_takeNumber (c_X8_takeNumber X M7 iM7 0 (by decide) 1000 (by decide)) rfl ⟨_, _, _, rfl, rfl, rfl⟩ (by omega) (by decide) rfl (Nat.le_of_ble_eq_true rfl) (fun z9 M10 q8 => ?_)
      obtain ⟨iM10, fM100, eM10_31_1, pM10⟩ := q8
      have fM10 : Fr (fun c => 30 ≤ c ∧ c ≤ 52) M M10 := Fr.tr fM7 fM100 fi_1
      have q31_1_M10 : id (M10 31 1 = M 31 1) := eM10_31_1.trans q31_1_M7
      have xM10_30_2 : M10 30 2 = v4 + 1 := (congrFun (fM100 30 (by first | decide | omega | (dsimp only; omega))) 2).trans xM7_30_2
      clear eM10_31_1
      refine g_istore_n (pc' := 91) (i := 2) (L' := [(2, vi z9), (0, vr X 30), (1, vi b)]) dX2_readPart_90 rfl rfl (by decide) rfl ?_
      refine g_iload_n (pc' := 92) 0 dX2_readPart_91 rfl rfl ?_
      refine g_iconst (pc' := 93) dX2_readPart_92 rfl ?_
      refine g_ic_eq (pc' := 96) (tgt := 108) ⟨by omega, by omega⟩ (by decide) dX2_readPart_93 rfl rfl (fun c11 => ?_) (fun c11 => ?_)
      · refine g_aload_n (pc' := 109) 1 dX2_readPart_108 rfl rfl ?_
        refine g_getR (pc' := 112) dX2_readPart_109 rfl f_X2_12 rfl rfl ?_
        refine g_ldcS (pc' := 114) (j := 1) dX2_readPart_112 rfl rfl ?_
        refine g_callVi (pc' := 117) (As := [vs X 1]) (b := 31) (S := []) dX2_readPart_114 rfl m_X2_65 w_X8_takeWord (c_X8_takeWord X M10 iM10 1 (by decide)) rfl ⟨_, _, _, rfl, rfl, rfl⟩ (by omega) (by decide) rfl (Nat.le_of_ble_eq_true rfl) (fun z13 M14 q12 => ?_)
        obtain ⟨iM14, fM140, eM14_31_1, pM14⟩ := q12
        have fM14 : Fr (fun c => 30 ≤ c ∧ c ≤ 52) M M14 := Fr.tr fM10 fM140 fi_1
        have q31_1_M14 : id (M14 31 1 = M 31 1) := eM14_31_1.trans q31_1_M10
        have xM14_30_2 : M14 30 2 = v4 + 1 := (congrFun (fM140 30 (by first | decide | omega | (dsimp only; omega))) 2).trans xM10_30_2
        clear eM14_31_1
        refine g_if_eq (pc' := 120) (tgt := 132) ⟨by omega, by omega⟩ dX2_readPart_117 rfl rfl (fun c15 => ?_) (fun c15 => ?_)
        · refine g_aload_n (pc' := 133) 1 dX2_readPart_132 rfl rfl ?_
          refine g_getR (pc' := 136) dX2_readPart_133 rfl f_X2_12 rfl rfl ?_
          refine g_ldcS (pc' := 138) (j := 2) dX2_readPart_136 rfl rfl ?_
          refine g_callVi (pc' := 141) (As := [vs X 2]) (b := 31) (S := []) dX2_readPart_138 rfl m_X2_65 w_X8_takeWord (c_X8_takeWord X M14 iM14 2 (by decide)) rfl ⟨_, _, _, rfl, rfl, rfl⟩ (by omega) (by decide) rfl (Nat.le_of_ble_eq_true rfl) (fun z17 M18 q16 => ?_)
          obtain ⟨iM18, fM180, eM18_31_1, pM18⟩ := q16
          have fM18 : Fr (fun c => 30 ≤ c ∧ c ≤ 52) M M18 := Fr.tr fM14 fM180 fi_1
          have q31_1_M18 : id (M18 31 1 = M 31 1) := eM18_31_1.trans q31_1_M14
          have xM18_30_2 : M18 30 2 = v4 + 1 := (congrFun (fM180 30 (by first | decide | omega | (dsimp only; omega))) 2).trans xM14_30_2
          clear eM18_31_1
          refine g_if_eq (pc' := 144) (tgt := 151) ⟨by omega, by omega⟩ dX2_readPart_141 rfl rfl (fun c19 => ?_) (fun c19 => ?_)
          · refine g_aload_n (pc' := 152) 1 dX2_readPart_151 rfl rfl ?_
            refine g_getR (pc' := 155) dX2_readPart_152 rfl f_X2_12 rfl rfl ?_
            refine g_ldcS (pc' := 157) (j := 3) dX2_readPart_155 rfl rfl ?_
            refine g_callVi (pc' := 160) (As := [vs X 3]) (b := 31) (S := []) dX2_readPart_157 rfl m_X2_65 w_X8_takeWord (c_X8_takeWord X M18 iM18 3 (by decide)) rfl ⟨_, _, _, rfl, rfl, rfl⟩ (by omega) (by decide) rfl (Nat.le_of_ble_eq_true rfl) (fun z21 M22 q20 => ?_)
            obtain ⟨iM22, fM220, eM22_31_1, pM22⟩ := q20
            have fM22 : Fr (fun c => 30 ≤ c ∧ c ≤ 52) M M22 := Fr.tr fM18 fM220 fi_1
            have q31_1_M22 : id (M22 31 1 = M 31 1) := eM22_31_1.trans q31_1_M18
            have xM22_30_2 : M22 30 2 = v4 + 1 := (congrFun (fM220 30 (by first | decide | omega | (dsimp only; omega))) 2).trans xM18_30_2
            clear eM22_31_1
            refine g_if_eq (pc' := 163) (tgt := 170) ⟨by omega, by omega⟩ dX2_readPart_160 rfl rfl (fun c23 => ?_) (fun c23 => ?_)
            · refine g_aload_n (pc' := 171) 1 dX2_readPart_170 rfl rfl ?_
              refine g_getR (pc' := 174) dX2_readPart_171 rfl f_X2_12 rfl rfl ?_
              refine g_ldcS (pc' := 176) (j := 4) dX2_readPart_174 rfl rfl ?_
              refine g_callVi (pc' := 179) (As := [vs X 4]) (b := 31) (S := []) dX2_readPart_176 rfl m_X2_65 w_X8_takeWord (c_X8_takeWord X M22 iM22 4 (by decide)) rfl ⟨_, _, _, rfl, rfl, rfl⟩ (by omega) (by decide) rfl (Nat.le_of_ble_eq_true rfl) (fun z25 M26 q24 => ?_)
              obtain ⟨iM26, fM260, eM26_31_1, pM26⟩ := q24
              have fM26 : Fr (fun c => 30 ≤ c ∧ c ≤ 52) M M26 := Fr.tr fM22 fM260 fi_1
              have q31_1_M26 : id (M26 31 1 = M 31 1) := eM26_31_1.trans q31_1_M22
              have xM26_30_2 : M26 30 2 = v4 + 1 := (congrFun (fM260 30 (by first | decide | omega | (dsimp only; omega))) 2).trans xM22_30_2
              clear eM26_31_1
              refine g_if_ne (pc' := 182) (tgt := 184) ⟨by omega, by omega⟩ dX2_readPart_179 rfl rfl (fun c27 => ?_) (fun c27 => ?_)
              · refine g_aload_n (pc' := 185) 1 dX2_readPart_184 rfl rfl ?_
                refine g_getR (pc' := 188) dX2_readPart_185 rfl f_X2_12 rfl rfl ?_
                refine g_iconst (pc' := 189) dX2_readPart_188 rfl ?_
                refine g_iconst (pc' := 190) dX2_readPart_189 rfl ?_
                refine g_callVi (pc' := 193) (As := [vi 0, vi 3]) (b := 31) (S := []) dX2_readPart_190 rfl m_X2_87 w_X8_takeNumber (c_X8_takeNumber X M26 iM26 0 (by decide) 3 (by decide)) rfl ⟨_, _, _, rfl, rfl, rfl⟩ (by omega) (by decide) rfl (Nat.le_of_ble_eq_true rfl) (fun z29 M30 q28 => ?_)
                obtain ⟨iM30, fM300, eM30_31_1, pM30⟩ := q28
                have fM30 : Fr (fun c => 30 ≤ c ∧ c ≤ 52) M M30 := Fr.tr fM26 fM300 fi_1
                have q31_1_M30 : id (M30 31 1 = M 31 1) := eM30_31_1.trans q31_1_M26
                have xM30_30_2 : M30 30 2 = v4 + 1 := (congrFun (fM300 30 (by first | decide | omega | (dsimp only; omega))) 2).trans xM26_30_2
                clear eM30_31_1
                refine g_istore_n (pc' := 194) (i := 3) (L' := [(3, vi z29), (2, vi z9), (0, vr X 30), (1, vi b)]) dX2_readPart_193 rfl rfl (by decide) rfl ?_
                refine g_iload_n (pc' := 195) 0 dX2_readPart_194 rfl rfl ?_
                refine g_iconst (pc' := 196) dX2_readPart_195 rfl ?_
                refine g_ic_eq (pc' := 199) (tgt := 212) ⟨by omega, by omega⟩ (by decide) dX2_readPart_196 rfl rfl (fun c31 => ?_) (fun c31 => ?_)
                · refine g_iconst (pc' := 213) dX2_readPart_212 rfl ?_
                  refine g_zreturn dX2_readPart_213 (by omega) ?_
                  exact ⟨iM30, fM30, q31_1_M30, by omega⟩
                · refine g_aload_n (pc' := 200) 2 dX2_readPart_199 rfl rfl ?_
                  refine g_iconst (pc' := 201) dX2_readPart_200 rfl ?_
                  refine g_iload_n (pc' := 202) 0 dX2_readPart_201 rfl rfl ?_
                  refine g_callVi (pc' := 205) (As := [vi 4, vi z29]) (b := 30) (S := []) dX2_readPart_202 rfl m_X2_166 w_X2_readGlass (c_X2_readGlass X M30 iM30 4 (by decide) z29 ⟨by omega, by omega⟩) rfl ⟨_, _, _, rfl, rfl, rfl⟩ (by omega) (by decide) rfl (Nat.le_of_ble_eq_true rfl) (fun z33 M34 q32 => ?_)
                  obtain ⟨iM34, fM340, eM34_31_1, pM34⟩ := q32
                  have fM34 : Fr (fun c => 30 ≤ c ∧ c ≤ 52) M M34 := Fr.tr fM30 fM340 (fun _ z => z)
                  have q31_1_M34 : id (M34 31 1 = M 31 1) := eM34_31_1.trans q31_1_M30
                  clear eM34_31_1
                  refine g_if_eq (pc' := 208) (tgt := 212) ⟨by omega, by omega⟩ dX2_readPart_205 rfl rfl (fun c35 => ?_) (fun c35 => ?_)
                  · refine g_iconst (pc' := 213) dX2_readPart_212 rfl ?_
                    refine g_zreturn dX2_readPart_213 (by omega) ?_
                    exact ⟨iM34, fM34, q31_1_M34, by omega⟩
                  · refine g_iconst (pc' := 209) dX2_readPart_208 rfl ?_
                    refine g_goto (tgt := 213) dX2_readPart_209 rfl ?_
                    refine g_zreturn dX2_readPart_213 (by omega) ?_
                    exact ⟨iM34, fM34, q31_1_M34, by omega⟩
              · refine g_iconst (pc' := 183) dX2_readPart_182 rfl ?_
                refine g_zreturn dX2_readPart_183 (by omega) ?_
                exact ⟨iM26, fM26, q31_1_M26, by omega⟩
            · refine g_aload_n (pc' := 164) 1 dX2_readPart_163 rfl rfl ?_
              refine g_iconst (pc' := 165) dX2_readPart_164 rfl ?_
              refine g_iconst (pc' := 166) dX2_readPart_165 rfl ?_
              refine g_callVi (pc' := 169) (As := [vi 3, vi 0]) (b := 30) (S := []) dX2_readPart_166 rfl m_X2_166 w_X2_readGlass (c_X2_readGlass X M22 iM22 3 (by decide) 0 (by decide)) rfl ⟨_, _, _, rfl, rfl, rfl⟩ (by omega) (by decide) rfl (Nat.le_of_ble_eq_true rfl) (fun z37 M38 q36 => ?_)
              obtain ⟨iM38, fM380, eM38_31_1, pM38⟩ := q36
              have fM38 : Fr (fun c => 30 ≤ c ∧ c ≤ 52) M M38 := Fr.tr fM22 fM380 (fun _ z => z)
              have q31_1_M38 : id (M38 31 1 = M 31 1) := eM38_31_1.trans q31_1_M22
              clear eM38_31_1
              refine g_zreturn dX2_readPart_169 (by omega) ?_
              exact ⟨iM38, fM38, q31_1_M38, by omega⟩
          · refine g_aload_n (pc' := 145) 1 dX2_readPart_144 rfl rfl ?_
            refine g_iconst (pc' := 146) dX2_readPart_145 rfl ?_
            refine g_iconst (pc' := 147) dX2_readPart_146 rfl ?_
            refine g_callVi (pc' := 150) (As := [vi 2, vi 0]) (b := 30) (S := []) dX2_readPart_147 rfl m_X2_166 w_X2_readGlass (c_X2_readGlass X M18 iM18 2 (by decide) 0 (by decide)) rfl ⟨_, _, _, rfl, rfl, rfl⟩ (by omega) (by decide) rfl (Nat.le_of_ble_eq_true rfl) (fun z40 M41 q39 => ?_)
            obtain ⟨iM41, fM410, eM41_31_1, pM41⟩ := q39
            have fM41 : Fr (fun c => 30 ≤ c ∧ c ≤ 52) M M41 := Fr.tr fM18 fM410 (fun _ z => z)
            have q31_1_M41 : id (M41 31 1 = M 31 1) := eM41_31_1.trans q31_1_M18
            clear eM41_31_1
            refine g_zreturn dX2_readPart_150 (by omega) ?_
            exact ⟨iM41, fM41, q31_1_M41, by omega⟩
        · refine g_aload_n (pc' := 121) 1 dX2_readPart_120 rfl rfl ?_
          refine g_getR (pc' := 124) dX2_readPart_121 rfl f_X2_21 rfl rfl ?_
          refine g_iconst (pc' := 125) dX2_readPart_124 rfl ?_
          refine g_iconst (pc' := 126) dX2_readPart_125 rfl ?_
          refine g_callVi (pc' := 129) (As := [vi 5, vi 0]) (b := 37) (S := []) dX2_readPart_126 rfl m_X2_129 w_X4_write (c_X4_write X M14 iM14 5 (by decide) 0 (by decide)) rfl ⟨_, _, _, rfl, rfl, rfl⟩ (by omega) (by decide) rfl (Nat.le_of_ble_eq_true rfl) (fun z43 M44 q42 => ?_)
          obtain ⟨iM44, fM440, pM44⟩ := q42
          have fM44 : Fr (fun c => 30 ≤ c ∧ c ≤ 52) M M44 := Fr.tr fM14 fM440 fi_2
          have q31_1_M44 : id (M44 31 1 = M 31 1) := (congrFun (fM440 31 (by first | decide | omega | (dsimp only; omega))) 1).trans q31_1_M14
          have xM44_30_2 : M44 30 2 = v4 + 1 := (congrFun (fM440 30 (by first | decide | omega | (dsimp only; omega))) 2).trans xM14_30_2
          refine g_pop (pc' := 130) dX2_readPart_129 rfl rfl ?_
          refine g_iconst (pc' := 131) dX2_readPart_130 rfl ?_
          refine g_zreturn dX2_readPart_131 (by omega) ?_
          exact ⟨iM44, fM44, q31_1_M44, by omega⟩
      · refine g_aload_n (pc' := 97) 1 dX2_readPart_96 rfl rfl ?_
        refine g_getR (pc' := 100) dX2_readPart_97 rfl f_X2_21 rfl rfl ?_
        refine g_iconst (pc' := 101) dX2_readPart_100 rfl ?_
        refine g_iload_n (pc' := 102) 0 dX2_readPart_101 rfl rfl ?_
        refine g_callVi (pc' := 105) (As := [vi 1, vi z9]) (b := 37) (S := []) dX2_readPart_102 rfl m_X2_129 w_X4_write (c_X4_write X M10 iM10 1 (by decide) z9 ⟨by omega, by omega⟩) rfl ⟨_, _, _, rfl, rfl, rfl⟩ (by omega) (by decide) rfl (Nat.le_of_ble_eq_true rfl) (fun z46 M47 q45 => ?_)
        obtain ⟨iM47, fM470, pM47⟩ := q45
        have fM47 : Fr (fun c => 30 ≤ c ∧ c ≤ 52) M M47 := Fr.tr fM10 fM470 fi_2
        have q31_1_M47 : id (M47 31 1 = M 31 1) := (congrFun (fM470 31 (by first | decide | omega | (dsimp only; omega))) 1).trans q31_1_M10
        have xM47_30_2 : M47 30 2 = v4 + 1 := (congrFun (fM470 30 (by first | decide | omega | (dsimp only; omega))) 2).trans xM10_30_2
        refine g_pop (pc' := 106) dX2_readPart_105 rfl rfl ?_
        refine g_iconst (pc' := 107) dX2_readPart_106 rfl ?_
        refine g_zreturn dX2_readPart_107 (by omega) ?_
        exact ⟨iM47, fM47, q31_1_M47, by omega⟩
    · refine g_iconst (pc' := 68) dX2_readPart_67 rfl ?_
      refine g_zreturn dX2_readPart_68 (by omega) ?_
      exact ⟨hi, Fr.rf, rfl, by omega⟩
  · refine g_iload_n (pc' := 13) 1 dX2_readPart_12 rfl rfl ?_
    refine g_bipush (pc' := 15) (v := 8) dX2_readPart_13 rfl (by decide) ?_
    refine g_ic_ge (pc' := 18) (tgt := 56) hb (by decide) dX2_readPart_15 rfl rfl (fun c48 => ?_) (fun c48 => ?_)
    · refine g_iconst (pc' := 57) dX2_readPart_56 rfl ?_
      refine g_zreturn dX2_readPart_57 (by omega) ?_
      exact ⟨hi, Fr.rf, rfl, by omega⟩
    · refine g_aload_n (pc' := 19) 0 dX2_readPart_18 rfl rfl ?_
      refine g_getR (pc' := 22) dX2_readPart_19 rfl f_X2_12 rfl rfl ?_
      refine g_bipush (pc' := 24) (v := 91) dX2_readPart_22 rfl (by decide) ?_
      refine g_callVi (pc' := 27) (As := [vi 91]) (b := 31) (S := []) dX2_readPart_24 rfl m_X2_50 w_X8_takeSign (c_X8_takeSign X M hi 91 (by decide)) rfl ⟨_, _, _, rfl, rfl, rfl⟩ (by omega) (by decide) rfl (Nat.le_of_ble_eq_true rfl) (fun z50 M51 q49 => ?_)
      obtain ⟨iM51, fM510, eM51_31_1, pM51⟩ := q49
      have fM51 : Fr (fun c => 30 ≤ c ∧ c ≤ 52) M M51 := Fr.tr Fr.rf fM510 fi_1
      have q31_1_M51 : id (M51 31 1 = M 31 1) := eM51_31_1
      clear eM51_31_1
      refine g_if_eq (pc' := 30) (tgt := 56) ⟨by omega, by omega⟩ dX2_readPart_27 rfl rfl (fun c52 => ?_) (fun c52 => ?_)
      · refine g_iconst (pc' := 57) dX2_readPart_56 rfl ?_
        refine g_zreturn dX2_readPart_57 (by omega) ?_
        exact ⟨iM51, fM51, q31_1_M51, by omega⟩
      · refine g_aload_n (pc' := 31) 0 dX2_readPart_30 rfl rfl ?_
        refine g_iload_n (pc' := 32) 1 dX2_readPart_31 rfl rfl ?_
        refine g_iconst (pc' := 33) dX2_readPart_32 rfl ?_
        refine g_iadd (pc' := 34) dX2_readPart_33 rfl ?_
        refine g_callVi (pc' := 37) (As := [vi (b + 1)]) (b := 30) (S := []) dX2_readPart_34 rfl m_X2_97 w_X2_readSum (hrec M51 iM51 (by omega)) rfl ⟨_, _, _, rfl, rfl, rfl⟩ (by omega) (by decide) rfl (Nat.le_of_ble_eq_true rfl) (fun z54 M55 q53 => ?_)
        obtain ⟨iM55, fM550, eM55_31_1, pM55⟩ := q53
        have fM55 : Fr (fun c => 30 ≤ c ∧ c ≤ 52) M M55 := Fr.tr fM51 fM550 (fun _ z => z)
        have q31_1_M55 : id (M55 31 1 = M 31 1) := eM55_31_1.trans q31_1_M51
        clear eM55_31_1
        refine g_if_eq (pc' := 40) (tgt := 56) ⟨by omega, by omega⟩ dX2_readPart_37 rfl rfl (fun c56 => ?_) (fun c56 => ?_)
        · refine g_iconst (pc' := 57) dX2_readPart_56 rfl ?_
          refine g_zreturn dX2_readPart_57 (by omega) ?_
          exact ⟨iM55, fM55, q31_1_M55, by omega⟩
        · refine g_aload_n (pc' := 41) 0 dX2_readPart_40 rfl rfl ?_
          refine g_getR (pc' := 44) dX2_readPart_41 rfl f_X2_12 rfl rfl ?_
          refine g_bipush (pc' := 46) (v := 93) dX2_readPart_44 rfl (by decide) ?_
          refine g_callVi (pc' := 49) (As := [vi 93]) (b := 31) (S := []) dX2_readPart_46 rfl m_X2_50 w_X8_takeSign (c_X8_takeSign X M55 iM55 93 (by decide)) rfl ⟨_, _, _, rfl, rfl, rfl⟩ (by omega) (by decide) rfl (Nat.le_of_ble_eq_true rfl) (fun z58 M59 q57 => ?_)
          obtain ⟨iM59, fM590, eM59_31_1, pM59⟩ := q57
          have fM59 : Fr (fun c => 30 ≤ c ∧ c ≤ 52) M M59 := Fr.tr fM55 fM590 fi_1
          have q31_1_M59 : id (M59 31 1 = M 31 1) := eM59_31_1.trans q31_1_M55
          clear eM59_31_1
          refine g_if_eq (pc' := 52) (tgt := 56) ⟨by omega, by omega⟩ dX2_readPart_49 rfl rfl (fun c60 => ?_) (fun c60 => ?_)
          · refine g_iconst (pc' := 57) dX2_readPart_56 rfl ?_
            refine g_zreturn dX2_readPart_57 (by omega) ?_
            exact ⟨iM59, fM59, q31_1_M59, by omega⟩
          · refine g_iconst (pc' := 53) dX2_readPart_52 rfl ?_
            refine g_goto (tgt := 57) dX2_readPart_53 rfl ?_
            refine g_zreturn dX2_readPart_57 (by omega) ?_
            exact ⟨iM59, fM59, q31_1_M59, by omega⟩
set_option maxHeartbeats 4000000 in
set_option maxRecDepth 100000 in
theorem l_X2_readTerm_22 (X : Cx) (M : Mm) (hi : IC M) (b : Int) (hb : inI b) (hb8 : 0 ≤ b ∧ b ≤ 8) (hpart : ∀ (M : Mm) (_ : IC M), Con X (10 + 3 * (8 - b).toNat) yX2_readPart cX2_readPart 4 (some .boolean) [vr X 30, vi b] M (Qi (fun r M1 => IC M1 ∧ Fr (fun c => 30 ≤ c ∧ c ≤ 52) M M1 ∧ M1 31 1 = M 31 1 ∧ (r = 0 ∨ r = 1)))) : ∀ (kk : Nat) (re : Int) (co : Int) (i : Int) (M1 : Mm) (ic1 : IC M1) (fr1 : Fr (fun c => 30 ≤ c ∧ c ≤ 52) M M1) (q31_1 : id (M1 31 1 = M 31 1)) (h2 : re = 0 ∨ re = 1) (h3 : 0 ≤ co ∧ co ≤ 12) (h0 : 0 ≤ i) (h1 : i ≤ 400), (400 - i).toNat = kk → G X (11 + 3 * (8 - b).toNat) RX2 cX2_readTerm 5 (some .boolean) (Qi (fun r M1 => IC M1 ∧ Fr (fun c => 30 ≤ c ∧ c ≤ 52) M M1 ∧ M1 31 1 = M 31 1 ∧ (r = 0 ∨ r = 1))) 22 [(2, vi re), (3, vi co), (4, vi i), (0, vr X 30), (1, vi b)] [] M1 := by
  intro kk
  induction kk using Nat.strongRecOn with
  | ind kk ih =>
    intro re co i M1 ic1 fr1 q31_1 h2 h3 h0 h1 hmes
    refine g_iload (pc' := 24) 2 dX2_readTerm_22 rfl rfl ?_
    refine g_sipush (pc' := 27) (v := 400) dX2_readTerm_24 rfl (by decide) ?_
    refine g_ic_ge (pc' := 30) (tgt := 69) ⟨by omega, by omega⟩ (by decide) dX2_readTerm_27 rfl rfl (fun c1 => ?_) (fun c1 => ?_)
    · refine g_iload_n (pc' := 70) 0 dX2_readTerm_69 rfl rfl ?_
      refine g_zreturn dX2_readTerm_70 (by omega) ?_
      exact ⟨ic1, fr1, q31_1, by omega⟩
    · refine g_iload_n (pc' := 31) 1 dX2_readTerm_30 rfl rfl ?_
      refine g_if_eq (pc' := 34) (tgt := 69) ⟨by omega, by omega⟩ dX2_readTerm_31 rfl rfl (fun c2 => ?_) (fun c2 => ?_)
      · refine g_iload_n (pc' := 70) 0 dX2_readTerm_69 rfl rfl ?_
        refine g_zreturn dX2_readTerm_70 (by omega) ?_
        exact ⟨ic1, fr1, q31_1, by omega⟩
      · refine g_aload_n (pc' := 35) 3 dX2_readTerm_34 rfl rfl ?_
        refine g_iload_n (pc' := 36) 4 dX2_readTerm_35 rfl rfl ?_
        refine g_callVi (pc' := 39) (As := [vi b]) (b := 30) (S := []) dX2_readTerm_36 rfl m_X2_156 w_X2_readPart (hpart M1 ic1) rfl ⟨_, _, _, rfl, rfl, rfl⟩ (by omega) (by decide) rfl (Nat.le_of_ble_eq_true rfl) (fun z4 M5 q3 => ?_)
        obtain ⟨iM5, fM50, eM5_31_1, pM5⟩ := q3
        have fM5 : Fr (fun c => 30 ≤ c ∧ c ≤ 52) M M5 := Fr.tr fr1 fM50 (fun _ z => z)
        have q31_1_M5 : id (M5 31 1 = M 31 1) := eM5_31_1.trans q31_1
        clear eM5_31_1
        refine g_istore_n (pc' := 40) (i := 2) (L' := [(2, vi z4), (3, vi co), (4, vi i), (0, vr X 30), (1, vi b)]) dX2_readTerm_39 rfl rfl (by decide) rfl ?_
        refine g_aload_n (pc' := 41) 3 dX2_readTerm_40 rfl rfl ?_
        refine g_getR (pc' := 44) dX2_readTerm_41 rfl f_X2_21 rfl rfl ?_
        refine g_iload_n (pc' := 45) 1 dX2_readTerm_44 rfl rfl ?_
        refine g_iconst (pc' := 46) dX2_readTerm_45 rfl ?_
        refine g_callVi (pc' := 49) (As := [vi co, vi 0]) (b := 37) (S := []) dX2_readTerm_46 rfl m_X2_129 w_X4_write (c_X4_write X M5 iM5 co ⟨by omega, by omega⟩ 0 (by decide)) rfl ⟨_, _, _, rfl, rfl, rfl⟩ (by omega) (by decide) rfl (Nat.le_of_ble_eq_true rfl) (fun z7 M8 q6 => ?_)
        obtain ⟨iM8, fM80, pM8⟩ := q6
        have fM8 : Fr (fun c => 30 ≤ c ∧ c ≤ 52) M M8 := Fr.tr fM5 fM80 fi_2
        have q31_1_M8 : id (M8 31 1 = M 31 1) := (congrFun (fM80 31 (by first | decide | omega | (dsimp only; omega))) 1).trans q31_1_M5
        refine g_pop (pc' := 50) dX2_readTerm_49 rfl rfl ?_
        refine g_iload_n (pc' := 51) 0 dX2_readTerm_50 rfl rfl ?_
        refine g_if_eq (pc' := 54) (tgt := 61) ⟨by omega, by omega⟩ dX2_readTerm_51 rfl rfl (fun c9 => ?_) (fun c9 => ?_)
        · refine g_iconst (pc' := 62) dX2_readTerm_61 rfl ?_
          refine g_istore_n (pc' := 63) (i := 3) (L' := [(3, vi 0), (2, vi z4), (4, vi i), (0, vr X 30), (1, vi b)]) dX2_readTerm_62 rfl rfl (by decide) rfl ?_
          refine g_iinc (pc' := 66) (L' := [(4, vi (i + 1)), (3, vi 0), (2, vi z4), (0, vr X 30), (1, vi b)]) 2 dX2_readTerm_63 rfl rfl (by decide) rfl ?_
          refine g_goto (tgt := 22) dX2_readTerm_66 rfl ?_
          refine g_sub [2, 1, 0, 3, 4] rfl ?_
          exact ih _ (by omega) z4 0 (i + 1) M8 iM8 fM8 q31_1_M8 (by omega) (by omega) (by omega) (by omega) rfl
        · refine g_aload_n (pc' := 55) 3 dX2_readTerm_54 rfl rfl ?_
          refine g_callVi (pc' := 58) (As := []) (b := 30) (S := []) dX2_readTerm_55 rfl m_X2_159 w_X2_takeTermSign (c_X2_takeTermSign X M8 iM8) rfl ⟨_, _, _, rfl, rfl, rfl⟩ (by omega) (by decide) rfl (Nat.le_of_ble_eq_true rfl) (fun z11 M12 q10 => ?_)
          obtain ⟨iM12, fM120, eM12_31_1, pM12⟩ := q10
          have fM12 : Fr (fun c => 30 ≤ c ∧ c ≤ 52) M M12 := Fr.tr fM8 fM120 (fun _ z => z)
          have q31_1_M12 : id (M12 31 1 = M 31 1) := eM12_31_1.trans q31_1_M8
          clear eM12_31_1
          refine g_goto (tgt := 62) dX2_readTerm_58 rfl ?_
          refine g_istore_n (pc' := 63) (i := 3) (L' := [(3, vi z11), (2, vi z4), (4, vi i), (0, vr X 30), (1, vi b)]) dX2_readTerm_62 rfl rfl (by decide) rfl ?_
          refine g_iinc (pc' := 66) (L' := [(4, vi (i + 1)), (3, vi z11), (2, vi z4), (0, vr X 30), (1, vi b)]) 2 dX2_readTerm_63 rfl rfl (by decide) rfl ?_
          refine g_goto (tgt := 22) dX2_readTerm_66 rfl ?_
          refine g_sub [2, 1, 0, 3, 4] rfl ?_
          exact ih _ (by omega) z4 z11 (i + 1) M12 iM12 fM12 q31_1_M12 (by omega) (by omega) (by omega) (by omega) rfl
set_option maxHeartbeats 4000000 in
set_option maxRecDepth 100000 in
theorem c_X2_readTerm (X : Cx) (M : Mm) (hi : IC M) (b : Int) (hb : inI b) (hb8 : 0 ≤ b ∧ b ≤ 8) (hpart : ∀ (M : Mm) (_ : IC M), Con X (10 + 3 * (8 - b).toNat) yX2_readPart cX2_readPart 4 (some .boolean) [vr X 30, vi b] M (Qi (fun r M1 => IC M1 ∧ Fr (fun c => 30 ≤ c ∧ c ≤ 52) M M1 ∧ M1 31 1 = M 31 1 ∧ (r = 0 ∨ r = 1)))) : Con X (11 + 3 * (8 - b).toNat) yX2_readTerm cX2_readTerm 5 (some .boolean) [vr X 30, vi b] M (Qi (fun r M1 => IC M1 ∧ Fr (fun c => 30 ≤ c ∧ c ≤ 52) M M1 ∧ M1 31 1 = M 31 1 ∧ (r = 0 ∨ r = 1))) := by
  refine Con.ofG rfl (Nat.le_of_ble_eq_true rfl) ?_
  show G X (11 + 3 * (8 - b).toNat) RX2 cX2_readTerm 5 (some .boolean) (Qi (fun r M1 => IC M1 ∧ Fr (fun c => 30 ≤ c ∧ c ≤ 52) M M1 ∧ M1 31 1 = M 31 1 ∧ (r = 0 ∨ r = 1))) 0 [(0, vr X 30), (1, vi b)] [] M
  refine g_aload_n (pc' := 1) 0 dX2_readTerm_0 rfl rfl ?_
  refine g_iload_n (pc' := 2) 1 dX2_readTerm_1 rfl rfl ?_
  refine g_callVi (pc' := 5) (As := [vi b]) (b := 30) (S := []) dX2_readTerm_2 rfl m_X2_156 w_X2_readPart (hpart M hi) rfl ⟨_, _, _, rfl, rfl, rfl⟩ (by omega) (by decide) rfl (Nat.le_of_ble_eq_true rfl) (fun z2 M3 q1 => ?_)
  obtain ⟨iM3, fM30, eM3_31_1, pM3⟩ := q1
  have fM3 : Fr (fun c => 30 ≤ c ∧ c ≤ 52) M M3 := Fr.tr Fr.rf fM30 (fun _ z => z)
  have q31_1_M3 : id (M3 31 1 = M 31 1) := eM3_31_1
  clear eM3_31_1
  refine g_istore_n (pc' := 6) (i := 2) (L' := [(2, vi z2), (0, vr X 30), (1, vi b)]) dX2_readTerm_5 rfl rfl (by decide) rfl ?_
  refine g_iload_n (pc' := 7) 0 dX2_readTerm_6 rfl rfl ?_
  refine g_if_eq (pc' := 10) (tgt := 17) ⟨by omega, by omega⟩ dX2_readTerm_7 rfl rfl (fun c4 => ?_) (fun c4 => ?_)
  · refine g_iconst (pc' := 18) dX2_readTerm_17 rfl ?_
    refine g_istore_n (pc' := 19) (i := 3) (L' := [(3, vi 0), (2, vi z2), (0, vr X 30), (1, vi b)]) dX2_readTerm_18 rfl rfl (by decide) rfl ?_
    refine g_iconst (pc' := 20) dX2_readTerm_19 rfl ?_
    refine g_istore (pc' := 22) (L' := [(4, vi 0), (3, vi 0), (2, vi z2), (0, vr X 30), (1, vi b)]) dX2_readTerm_20 rfl (by decide) rfl ?_
    refine g_sub [2, 1, 0, 3, 4] rfl ?_
    exact l_X2_readTerm_22 X M hi b hb hb8 hpart _ z2 0 0 M3 iM3 fM3 q31_1_M3 (by omega) (by omega) (by omega) (by omega) rfl
  · refine g_aload_n (pc' := 11) 1 dX2_readTerm_10 rfl rfl ?_
    refine g_callVi (pc' := 14) (As := []) (b := 30) (S := []) dX2_readTerm_11 rfl m_X2_159 w_X2_takeTermSign (c_X2_takeTermSign X M3 iM3) rfl ⟨_, _, _, rfl, rfl, rfl⟩ (by omega) (by decide) rfl (Nat.le_of_ble_eq_true rfl) (fun z6 M7 q5 => ?_)
    obtain ⟨iM7, fM70, eM7_31_1, pM7⟩ := q5
    have fM7 : Fr (fun c => 30 ≤ c ∧ c ≤ 52) M M7 := Fr.tr fM3 fM70 (fun _ z => z)
    have q31_1_M7 : id (M7 31 1 = M 31 1) := eM7_31_1.trans q31_1_M3
    clear eM7_31_1
    refine g_goto (tgt := 18) dX2_readTerm_14 rfl ?_
    refine g_istore_n (pc' := 19) (i := 3) (L' := [(3, vi z6), (2, vi z2), (0, vr X 30), (1, vi b)]) dX2_readTerm_18 rfl rfl (by decide) rfl ?_
    refine g_iconst (pc' := 20) dX2_readTerm_19 rfl ?_
    refine g_istore (pc' := 22) (L' := [(4, vi 0), (3, vi z6), (2, vi z2), (0, vr X 30), (1, vi b)]) dX2_readTerm_20 rfl (by decide) rfl ?_
    refine g_sub [2, 1, 0, 3, 4] rfl ?_
    exact l_X2_readTerm_22 X M hi b hb hb8 hpart _ z2 z6 0 M7 iM7 fM7 q31_1_M7 (by omega) (by omega) (by omega) (by omega) rfl
set_option maxHeartbeats 4000000 in
set_option maxRecDepth 100000 in
theorem l_X2_readSum_22 (X : Cx) (M : Mm) (hi : IC M) (b : Int) (hb : inI b) (hb8 : 0 ≤ b ∧ b ≤ 8) (hterm : ∀ (M : Mm) (_ : IC M), Con X (11 + 3 * (8 - b).toNat) yX2_readTerm cX2_readTerm 5 (some .boolean) [vr X 30, vi b] M (Qi (fun r M1 => IC M1 ∧ Fr (fun c => 30 ≤ c ∧ c ≤ 52) M M1 ∧ M1 31 1 = M 31 1 ∧ (r = 0 ∨ r = 1)))) : ∀ (kk : Nat) (re : Int) (co : Int) (i : Int) (M1 : Mm) (ic1 : IC M1) (fr1 : Fr (fun c => 30 ≤ c ∧ c ≤ 52) M M1) (q31_1 : id (M1 31 1 = M 31 1)) (h2 : re = 0 ∨ re = 1) (h3 : 0 ≤ co ∧ co ≤ 12) (h0 : 0 ≤ i) (h1 : i ≤ 400), (400 - i).toNat = kk → G X (12 + 3 * (8 - b).toNat) RX2 cX2_readSum 5 (some .boolean) (Qi (fun r M1 => IC M1 ∧ Fr (fun c => 30 ≤ c ∧ c ≤ 52) M M1 ∧ M1 31 1 = M 31 1 ∧ (r = 0 ∨ r = 1))) 22 [(2, vi re), (3, vi co), (4, vi i), (0, vr X 30), (1, vi b)] [] M1 := by
  intro kk
  induction kk using Nat.strongRecOn with
  | ind kk ih =>
    intro re co i M1 ic1 fr1 q31_1 h2 h3 h0 h1 hmes
    refine g_iload (pc' := 24) 2 dX2_readSum_22 rfl rfl ?_
    refine g_sipush (pc' := 27) (v := 400) dX2_readSum_24 rfl (by decide) ?_
    refine g_ic_ge (pc' := 30) (tgt := 69) ⟨by omega, by omega⟩ (by decide) dX2_readSum_27 rfl rfl (fun c1 => ?_) (fun c1 => ?_)
    · refine g_iload_n (pc' := 70) 0 dX2_readSum_69 rfl rfl ?_
      refine g_zreturn dX2_readSum_70 (by omega) ?_
      exact ⟨ic1, fr1, q31_1, by omega⟩
    · refine g_iload_n (pc' := 31) 1 dX2_readSum_30 rfl rfl ?_
      refine g_if_eq (pc' := 34) (tgt := 69) ⟨by omega, by omega⟩ dX2_readSum_31 rfl rfl (fun c2 => ?_) (fun c2 => ?_)
      · refine g_iload_n (pc' := 70) 0 dX2_readSum_69 rfl rfl ?_
        refine g_zreturn dX2_readSum_70 (by omega) ?_
        exact ⟨ic1, fr1, q31_1, by omega⟩
      · refine g_aload_n (pc' := 35) 3 dX2_readSum_34 rfl rfl ?_
        refine g_iload_n (pc' := 36) 4 dX2_readSum_35 rfl rfl ?_
        refine g_callVi (pc' := 39) (As := [vi b]) (b := 30) (S := []) dX2_readSum_36 rfl m_X2_150 w_X2_readTerm (hterm M1 ic1) rfl ⟨_, _, _, rfl, rfl, rfl⟩ (by omega) (by decide) rfl (Nat.le_of_ble_eq_true rfl) (fun z4 M5 q3 => ?_)
        obtain ⟨iM5, fM50, eM5_31_1, pM5⟩ := q3
        have fM5 : Fr (fun c => 30 ≤ c ∧ c ≤ 52) M M5 := Fr.tr fr1 fM50 (fun _ z => z)
        have q31_1_M5 : id (M5 31 1 = M 31 1) := eM5_31_1.trans q31_1
        clear eM5_31_1
        refine g_istore_n (pc' := 40) (i := 2) (L' := [(2, vi z4), (3, vi co), (4, vi i), (0, vr X 30), (1, vi b)]) dX2_readSum_39 rfl rfl (by decide) rfl ?_
        refine g_aload_n (pc' := 41) 3 dX2_readSum_40 rfl rfl ?_
        refine g_getR (pc' := 44) dX2_readSum_41 rfl f_X2_21 rfl rfl ?_
        refine g_iload_n (pc' := 45) 1 dX2_readSum_44 rfl rfl ?_
        refine g_iconst (pc' := 46) dX2_readSum_45 rfl ?_
        refine g_callVi (pc' := 49) (As := [vi co, vi 0]) (b := 37) (S := []) dX2_readSum_46 rfl m_X2_129 w_X4_write (c_X4_write X M5 iM5 co ⟨by omega, by omega⟩ 0 (by decide)) rfl ⟨_, _, _, rfl, rfl, rfl⟩ (by omega) (by decide) rfl (Nat.le_of_ble_eq_true rfl) (fun z7 M8 q6 => ?_)
        obtain ⟨iM8, fM80, pM8⟩ := q6
        have fM8 : Fr (fun c => 30 ≤ c ∧ c ≤ 52) M M8 := Fr.tr fM5 fM80 fi_2
        have q31_1_M8 : id (M8 31 1 = M 31 1) := (congrFun (fM80 31 (by first | decide | omega | (dsimp only; omega))) 1).trans q31_1_M5
        refine g_pop (pc' := 50) dX2_readSum_49 rfl rfl ?_
        refine g_iload_n (pc' := 51) 0 dX2_readSum_50 rfl rfl ?_
        refine g_if_eq (pc' := 54) (tgt := 61) ⟨by omega, by omega⟩ dX2_readSum_51 rfl rfl (fun c9 => ?_) (fun c9 => ?_)
        · refine g_iconst (pc' := 62) dX2_readSum_61 rfl ?_
          refine g_istore_n (pc' := 63) (i := 3) (L' := [(3, vi 0), (2, vi z4), (4, vi i), (0, vr X 30), (1, vi b)]) dX2_readSum_62 rfl rfl (by decide) rfl ?_
          refine g_iinc (pc' := 66) (L' := [(4, vi (i + 1)), (3, vi 0), (2, vi z4), (0, vr X 30), (1, vi b)]) 2 dX2_readSum_63 rfl rfl (by decide) rfl ?_
          refine g_goto (tgt := 22) dX2_readSum_66 rfl ?_
          refine g_sub [2, 1, 0, 3, 4] rfl ?_
          exact ih _ (by omega) z4 0 (i + 1) M8 iM8 fM8 q31_1_M8 (by omega) (by omega) (by omega) (by omega) rfl
        · refine g_aload_n (pc' := 55) 3 dX2_readSum_54 rfl rfl ?_
          refine g_callVi (pc' := 58) (As := []) (b := 30) (S := []) dX2_readSum_55 rfl m_X2_153 w_X2_takeSumSign (c_X2_takeSumSign X M8 iM8) rfl ⟨_, _, _, rfl, rfl, rfl⟩ (by omega) (by decide) rfl (Nat.le_of_ble_eq_true rfl) (fun z11 M12 q10 => ?_)
          obtain ⟨iM12, fM120, eM12_31_1, pM12⟩ := q10
          have fM12 : Fr (fun c => 30 ≤ c ∧ c ≤ 52) M M12 := Fr.tr fM8 fM120 (fun _ z => z)
          have q31_1_M12 : id (M12 31 1 = M 31 1) := eM12_31_1.trans q31_1_M8
          clear eM12_31_1
          refine g_goto (tgt := 62) dX2_readSum_58 rfl ?_
          refine g_istore_n (pc' := 63) (i := 3) (L' := [(3, vi z11), (2, vi z4), (4, vi i), (0, vr X 30), (1, vi b)]) dX2_readSum_62 rfl rfl (by decide) rfl ?_
          refine g_iinc (pc' := 66) (L' := [(4, vi (i + 1)), (3, vi z11), (2, vi z4), (0, vr X 30), (1, vi b)]) 2 dX2_readSum_63 rfl rfl (by decide) rfl ?_
          refine g_goto (tgt := 22) dX2_readSum_66 rfl ?_
          refine g_sub [2, 1, 0, 3, 4] rfl ?_
          exact ih _ (by omega) z4 z11 (i + 1) M12 iM12 fM12 q31_1_M12 (by omega) (by omega) (by omega) (by omega) rfl
set_option maxHeartbeats 4000000 in
set_option maxRecDepth 100000 in
theorem c_X2_readSum (X : Cx) (M : Mm) (hi : IC M) (b : Int) (hb : inI b) (hb8 : 0 ≤ b ∧ b ≤ 8) (hterm : ∀ (M : Mm) (_ : IC M), Con X (11 + 3 * (8 - b).toNat) yX2_readTerm cX2_readTerm 5 (some .boolean) [vr X 30, vi b] M (Qi (fun r M1 => IC M1 ∧ Fr (fun c => 30 ≤ c ∧ c ≤ 52) M M1 ∧ M1 31 1 = M 31 1 ∧ (r = 0 ∨ r = 1)))) : Con X (12 + 3 * (8 - b).toNat) yX2_readSum cX2_readSum 5 (some .boolean) [vr X 30, vi b] M (Qi (fun r M1 => IC M1 ∧ Fr (fun c => 30 ≤ c ∧ c ≤ 52) M M1 ∧ M1 31 1 = M 31 1 ∧ (r = 0 ∨ r = 1))) := by
  refine Con.ofG rfl (Nat.le_of_ble_eq_true rfl) ?_
  show G X (12 + 3 * (8 - b).toNat) RX2 cX2_readSum 5 (some .boolean) (Qi (fun r M1 => IC M1 ∧ Fr (fun c => 30 ≤ c ∧ c ≤ 52) M M1 ∧ M1 31 1 = M 31 1 ∧ (r = 0 ∨ r = 1))) 0 [(0, vr X 30), (1, vi b)] [] M
  refine g_aload_n (pc' := 1) 0 dX2_readSum_0 rfl rfl ?_
  refine g_iload_n (pc' := 2) 1 dX2_readSum_1 rfl rfl ?_
  refine g_callVi (pc' := 5) (As := [vi b]) (b := 30) (S := []) dX2_readSum_2 rfl m_X2_150 w_X2_readTerm (hterm M hi) rfl ⟨_, _, _, rfl, rfl, rfl⟩ (by omega) (by decide) rfl (Nat.le_of_ble_eq_true rfl) (fun z2 M3 q1 => ?_)
  obtain ⟨iM3, fM30, eM3_31_1, pM3⟩ := q1
  have fM3 : Fr (fun c => 30 ≤ c ∧ c ≤ 52) M M3 := Fr.tr Fr.rf fM30 (fun _ z => z)
  have q31_1_M3 : id (M3 31 1 = M 31 1) := eM3_31_1
  clear eM3_31_1
  refine g_istore_n (pc' := 6) (i := 2) (L' := [(2, vi z2), (0, vr X 30), (1, vi b)]) dX2_readSum_5 rfl rfl (by decide) rfl ?_
  refine g_iload_n (pc' := 7) 0 dX2_readSum_6 rfl rfl ?_
  refine g_if_eq (pc' := 10) (tgt := 17) ⟨by omega, by omega⟩ dX2_readSum_7 rfl rfl (fun c4 => ?_) (fun c4 => ?_)
  · refine g_iconst (pc' := 18) dX2_readSum_17 rfl ?_
    refine g_istore_n (pc' := 19) (i := 3) (L' := [(3, vi 0), (2, vi z2), (0, vr X 30), (1, vi b)]) dX2_readSum_18 rfl rfl (by decide) rfl ?_
    refine g_iconst (pc' := 20) dX2_readSum_19 rfl ?_
    refine g_istore (pc' := 22) (L' := [(4, vi 0), (3, vi 0), (2, vi z2), (0, vr X 30), (1, vi b)]) dX2_readSum_20 rfl (by decide) rfl ?_
    refine g_sub [2, 1, 0, 3, 4] rfl ?_
    exact l_X2_readSum_22 X M hi b hb hb8 hterm _ z2 0 0 M3 iM3 fM3 q31_1_M3 (by omega) (by omega) (by omega) (by omega) rfl
  · refine g_aload_n (pc' := 11) 1 dX2_readSum_10 rfl rfl ?_
    refine g_callVi (pc' := 14) (As := []) (b := 30) (S := []) dX2_readSum_11 rfl m_X2_153 w_X2_takeSumSign (c_X2_takeSumSign X M3 iM3) rfl ⟨_, _, _, rfl, rfl, rfl⟩ (by omega) (by decide) rfl (Nat.le_of_ble_eq_true rfl) (fun z6 M7 q5 => ?_)
    obtain ⟨iM7, fM70, eM7_31_1, pM7⟩ := q5
    have fM7 : Fr (fun c => 30 ≤ c ∧ c ≤ 52) M M7 := Fr.tr fM3 fM70 (fun _ z => z)
    have q31_1_M7 : id (M7 31 1 = M 31 1) := eM7_31_1.trans q31_1_M3
    clear eM7_31_1
    refine g_goto (tgt := 18) dX2_readSum_14 rfl ?_
    refine g_istore_n (pc' := 19) (i := 3) (L' := [(3, vi z6), (2, vi z2), (0, vr X 30), (1, vi b)]) dX2_readSum_18 rfl rfl (by decide) rfl ?_
    refine g_iconst (pc' := 20) dX2_readSum_19 rfl ?_
    refine g_istore (pc' := 22) (L' := [(4, vi 0), (3, vi z6), (2, vi z2), (0, vr X 30), (1, vi b)]) dX2_readSum_20 rfl (by decide) rfl ?_
    refine g_sub [2, 1, 0, 3, 4] rfl ?_
    exact l_X2_readSum_22 X M hi b hb hb8 hterm _ z2 z6 0 M7 iM7 fM7 q31_1_M7 (by omega) (by omega) (by omega) (by omega) rfl
theorem r_readSum (X : Cx) : ∀ (k : Nat) (b : Int), 0 ≤ b → b ≤ 8 → (8 - b).toNat = k → ∀ (M : Mm) (_ : IC M), Con X (12 + 3 * (8 - b).toNat) yX2_readSum cX2_readSum 5 (some .boolean) [vr X 30, vi b] M (Qi (fun r M1 => IC M1 ∧ Fr (fun c => 30 ≤ c ∧ c ≤ 52) M M1 ∧ M1 31 1 = M 31 1 ∧ (r = 0 ∨ r = 1))) := by
  intro k
  induction k using Nat.strongRecOn with
  | ind k ih =>
    intro b h0 h8 hk M hi
    have hb : inI b := ⟨by omega, by omega⟩
    exact c_X2_readSum X M hi b hb ⟨h0, h8⟩ (fun M hi => c_X2_readTerm X M hi b hb ⟨h0, h8⟩ (fun M hi => c_X2_readPart X M hi b hb ⟨h0, h8⟩ (fun M hi hlt => ih _ (by omega) (b + 1) (by omega) (by omega) rfl M hi)))
set_option maxHeartbeats 4000000 in
set_option maxRecDepth 100000 in
theorem j_X2_readPlain_150 (X : Cx) (M : Mm) (hi : IC M) (b : Int) (hb : inI b) (hb8 : 0 ≤ b ∧ b ≤ 8) (hrec : ∀ (M : Mm) (_ : IC M), b < 8 → Con X (16 + 3 * (8 - (b + 1)).toNat) yX2_readTest cX2_readTest 5 (some .boolean) [vr X 30, vi (b + 1)] M (Qi (fun r M1 => IC M1 ∧ Fr (fun c => 30 ≤ c ∧ c ≤ 52) M M1 ∧ M1 31 1 = M 31 1 ∧ (r = 0 ∨ r = 1)))) (tn : Int) (re : Int) (M1 : Mm) (ic1 : IC M1) (fr1 : Fr (fun c => 30 ≤ c ∧ c ≤ 52) M M1) (q31_1 : id (M1 31 1 = M 31 1)) (h2 : tn = 0 ∨ tn = 1) (h3 : re = 0 ∨ re = 1) : G X (14 + 3 * (8 - b).toNat) RX2 cX2_readPlain 5 (some .boolean) (Qi (fun r M1 => IC M1 ∧ Fr (fun c => 30 ≤ c ∧ c ≤ 52) M M1 ∧ M1 31 1 = M 31 1 ∧ (r = 0 ∨ r = 1))) 150 [(2, vi tn), (3, vi re), (0, vr X 30), (1, vi b)] [] M1 := by
  refine g_iload_n (pc' := 151) 0 dX2_readPlain_150 rfl rfl ?_
  refine g_if_eq (pc' := 154) (tgt := 165) ⟨by omega, by omega⟩ dX2_readPlain_151 rfl rfl (fun c1 => ?_) (fun c1 => ?_)
  · refine g_iload_n (pc' := 166) 1 dX2_readPlain_165 rfl rfl ?_
    refine g_zreturn dX2_readPlain_166 (by omega) ?_
    exact ⟨ic1, fr1, q31_1, by omega⟩
  · refine g_aload_n (pc' := 155) 2 dX2_readPlain_154 rfl rfl ?_
    refine g_getR (pc' := 158) dX2_readPlain_155 rfl f_X2_21 rfl rfl ?_
    refine g_bipush (pc' := 160) (v := 13) dX2_readPlain_158 rfl (by decide) ?_
    refine g_iconst (pc' := 161) dX2_readPlain_160 rfl ?_
    refine g_callVi (pc' := 164) (As := [vi 13, vi 0]) (b := 37) (S := []) dX2_readPlain_161 rfl m_X2_129 w_X4_write (c_X4_write X M1 ic1 13 (by decide) 0 (by decide)) rfl ⟨_, _, _, rfl, rfl, rfl⟩ (by omega) (by decide) rfl (Nat.le_of_ble_eq_true rfl) (fun z3 M4 q2 => ?_)
    obtain ⟨iM4, fM40, pM4⟩ := q2
    have fM4 : Fr (fun c => 30 ≤ c ∧ c ≤ 52) M M4 := Fr.tr fr1 fM40 fi_2
    have q31_1_M4 : id (M4 31 1 = M 31 1) := (congrFun (fM40 31 (by first | decide | omega | (dsimp only; omega))) 1).trans q31_1
    refine g_pop (pc' := 165) dX2_readPlain_164 rfl rfl ?_
    refine g_iload_n (pc' := 166) 1 dX2_readPlain_165 rfl rfl ?_
    refine g_zreturn dX2_readPlain_166 (by omega) ?_
    exact ⟨iM4, fM4, q31_1_M4, by omega⟩
set_option maxHeartbeats 4000000 in
set_option maxRecDepth 100000 in
theorem j_X2_readPlain_120 (X : Cx) (M : Mm) (hi : IC M) (b : Int) (hb : inI b) (hb8 : 0 ≤ b ∧ b ≤ 8) (hrec : ∀ (M : Mm) (_ : IC M), b < 8 → Con X (16 + 3 * (8 - (b + 1)).toNat) yX2_readTest cX2_readTest 5 (some .boolean) [vr X 30, vi (b + 1)] M (Qi (fun r M1 => IC M1 ∧ Fr (fun c => 30 ≤ c ∧ c ≤ 52) M M1 ∧ M1 31 1 = M 31 1 ∧ (r = 0 ∨ r = 1)))) (tn : Int) (re : Int) (co : Int) (M1 : Mm) (ic1 : IC M1) (fr1 : Fr (fun c => 30 ≤ c ∧ c ≤ 52) M M1) (q31_1 : id (M1 31 1 = M 31 1)) (h2 : tn = 0 ∨ tn = 1) (h3 : re = 0 ∨ re = 1) (h4 : 0 ≤ co ∧ co ≤ 12) : G X (14 + 3 * (8 - b).toNat) RX2 cX2_readPlain 5 (some .boolean) (Qi (fun r M1 => IC M1 ∧ Fr (fun c => 30 ≤ c ∧ c ≤ 52) M M1 ∧ M1 31 1 = M 31 1 ∧ (r = 0 ∨ r = 1))) 120 [(2, vi tn), (3, vi re), (4, vi co), (0, vr X 30), (1, vi b)] [] M1 := by
  refine g_iload (pc' := 122) 2 dX2_readPlain_120 rfl rfl ?_
  refine g_if_eq (pc' := 125) (tgt := 137) ⟨by omega, by omega⟩ dX2_readPlain_122 rfl rfl (fun c1 => ?_) (fun c1 => ?_)
  · refine g_iconst (pc' := 138) dX2_readPlain_137 rfl ?_
    refine g_istore_n (pc' := 139) (i := 3) (L' := [(3, vi 0), (2, vi tn), (4, vi co), (0, vr X 30), (1, vi b)]) dX2_readPlain_138 rfl rfl (by decide) rfl ?_
    refine g_aload_n (pc' := 140) 3 dX2_readPlain_139 rfl rfl ?_
    refine g_getR (pc' := 143) dX2_readPlain_140 rfl f_X2_21 rfl rfl ?_
    refine g_iload (pc' := 145) 2 dX2_readPlain_143 rfl rfl ?_
    refine g_iconst (pc' := 146) dX2_readPlain_145 rfl ?_
    refine g_callVi (pc' := 149) (As := [vi co, vi 0]) (b := 37) (S := []) dX2_readPlain_146 rfl m_X2_129 w_X4_write (c_X4_write X M1 ic1 co ⟨by omega, by omega⟩ 0 (by decide)) rfl ⟨_, _, _, rfl, rfl, rfl⟩ (by omega) (by decide) rfl (Nat.le_of_ble_eq_true rfl) (fun z3 M4 q2 => ?_)
    obtain ⟨iM4, fM40, pM4⟩ := q2
    have fM4 : Fr (fun c => 30 ≤ c ∧ c ≤ 52) M M4 := Fr.tr fr1 fM40 fi_2
    have q31_1_M4 : id (M4 31 1 = M 31 1) := (congrFun (fM40 31 (by first | decide | omega | (dsimp only; omega))) 1).trans q31_1
    refine g_pop (pc' := 150) dX2_readPlain_149 rfl rfl ?_
    refine g_sub [1, 0, 3, 4] rfl ?_
    exact j_X2_readPlain_150 X M hi b hb hb8 hrec tn 0 M4 iM4 fM4 q31_1_M4 (by omega) (by omega)
  · refine g_aload_n (pc' := 126) 3 dX2_readPlain_125 rfl rfl ?_
    refine g_iload_n (pc' := 127) 4 dX2_readPlain_126 rfl rfl ?_
    refine g_callVi (pc' := 130) (As := [vi b]) (b := 30) (S := []) dX2_readPlain_127 rfl m_X2_97 w_X2_readSum (r_readSum X _ b (by omega) (by omega) rfl M1 ic1) rfl ⟨_, _, _, rfl, rfl, rfl⟩ (by omega) (by decide) rfl (Nat.le_of_ble_eq_true rfl) (fun z6 M7 q5 => ?_)
    obtain ⟨iM7, fM70, eM7_31_1, pM7⟩ := q5
    have fM7 : Fr (fun c => 30 ≤ c ∧ c ≤ 52) M M7 := Fr.tr fr1 fM70 (fun _ z => z)
    have q31_1_M7 : id (M7 31 1 = M 31 1) := eM7_31_1.trans q31_1
    clear eM7_31_1
    refine g_if_eq (pc' := 133) (tgt := 137) ⟨by omega, by omega⟩ dX2_readPlain_130 rfl rfl (fun c8 => ?_) (fun c8 => ?_)
    · refine g_iconst (pc' := 138) dX2_readPlain_137 rfl ?_
      refine g_istore_n (pc' := 139) (i := 3) (L' := [(3, vi 0), (2, vi tn), (4, vi co), (0, vr X 30), (1, vi b)]) dX2_readPlain_138 rfl rfl (by decide) rfl ?_
      refine g_aload_n (pc' := 140) 3 dX2_readPlain_139 rfl rfl ?_
      refine g_getR (pc' := 143) dX2_readPlain_140 rfl f_X2_21 rfl rfl ?_
      refine g_iload (pc' := 145) 2 dX2_readPlain_143 rfl rfl ?_
      refine g_iconst (pc' := 146) dX2_readPlain_145 rfl ?_
      refine g_callVi (pc' := 149) (As := [vi co, vi 0]) (b := 37) (S := []) dX2_readPlain_146 rfl m_X2_129 w_X4_write (c_X4_write X M7 iM7 co ⟨by omega, by omega⟩ 0 (by decide)) rfl ⟨_, _, _, rfl, rfl, rfl⟩ (by omega) (by decide) rfl (Nat.le_of_ble_eq_true rfl) (fun z10 M11 q9 => ?_)
      obtain ⟨iM11, fM110, pM11⟩ := q9
      have fM11 : Fr (fun c => 30 ≤ c ∧ c ≤ 52) M M11 := Fr.tr fM7 fM110 fi_2
      have q31_1_M11 : id (M11 31 1 = M 31 1) := (congrFun (fM110 31 (by first | decide | omega | (dsimp only; omega))) 1).trans q31_1_M7
      refine g_pop (pc' := 150) dX2_readPlain_149 rfl rfl ?_
      refine g_sub [1, 0, 3, 4] rfl ?_
      exact j_X2_readPlain_150 X M hi b hb hb8 hrec tn 0 M11 iM11 fM11 q31_1_M11 (by omega) (by omega)
    · refine g_iconst (pc' := 134) dX2_readPlain_133 rfl ?_
      refine g_goto (tgt := 138) dX2_readPlain_134 rfl ?_
      refine g_istore_n (pc' := 139) (i := 3) (L' := [(3, vi 1), (2, vi tn), (4, vi co), (0, vr X 30), (1, vi b)]) dX2_readPlain_138 rfl rfl (by decide) rfl ?_
      refine g_aload_n (pc' := 140) 3 dX2_readPlain_139 rfl rfl ?_
      refine g_getR (pc' := 143) dX2_readPlain_140 rfl f_X2_21 rfl rfl ?_
      refine g_iload (pc' := 145) 2 dX2_readPlain_143 rfl rfl ?_
      refine g_iconst (pc' := 146) dX2_readPlain_145 rfl ?_
      refine g_callVi (pc' := 149) (As := [vi co, vi 0]) (b := 37) (S := []) dX2_readPlain_146 rfl m_X2_129 w_X4_write (c_X4_write X M7 iM7 co ⟨by omega, by omega⟩ 0 (by decide)) rfl ⟨_, _, _, rfl, rfl, rfl⟩ (by omega) (by decide) rfl (Nat.le_of_ble_eq_true rfl) (fun z13 M14 q12 => ?_)
      obtain ⟨iM14, fM140, pM14⟩ := q12
      have fM14 : Fr (fun c => 30 ≤ c ∧ c ≤ 52) M M14 := Fr.tr fM7 fM140 fi_2
      have q31_1_M14 : id (M14 31 1 = M 31 1) := (congrFun (fM140 31 (by first | decide | omega | (dsimp only; omega))) 1).trans q31_1_M7
      refine g_pop (pc' := 150) dX2_readPlain_149 rfl rfl ?_
      refine g_sub [1, 0, 3, 4] rfl ?_
      exact j_X2_readPlain_150 X M hi b hb hb8 hrec tn 1 M14 iM14 fM14 q31_1_M14 (by omega) (by omega)
set_option maxHeartbeats 4000000 in
set_option maxRecDepth 100000 in
theorem j_X2_readPlain_39 (X : Cx) (M : Mm) (hi : IC M) (b : Int) (hb : inI b) (hb8 : 0 ≤ b ∧ b ≤ 8) (hrec : ∀ (M : Mm) (_ : IC M), b < 8 → Con X (16 + 3 * (8 - (b + 1)).toNat) yX2_readTest cX2_readTest 5 (some .boolean) [vr X 30, vi (b + 1)] M (Qi (fun r M1 => IC M1 ∧ Fr (fun c => 30 ≤ c ∧ c ≤ 52) M M1 ∧ M1 31 1 = M 31 1 ∧ (r = 0 ∨ r = 1)))) (tn : Int) (M1 : Mm) (ic1 : IC M1) (fr1 : Fr (fun c => 30 ≤ c ∧ c ≤ 52) M M1) (q31_1 : id (M1 31 1 = M 31 1)) (h2 : tn = 0 ∨ tn = 1) : G X (14 + 3 * (8 - b).toNat) RX2 cX2_readPlain 5 (some .boolean) (Qi (fun r M1 => IC M1 ∧ Fr (fun c => 30 ≤ c ∧ c ≤ 52) M M1 ∧ M1 31 1 = M 31 1 ∧ (r = 0 ∨ r = 1))) 39 [(2, vi tn), (0, vr X 30), (1, vi b)] [] M1 := by
  refine g_aload_n (pc' := 40) 1 dX2_readPlain_39 rfl rfl ?_
  refine g_getR (pc' := 43) dX2_readPlain_40 rfl f_X2_12 rfl rfl ?_
  refine g_bipush (pc' := 45) (v := 40) dX2_readPlain_43 rfl (by decide) ?_
  refine g_callVip (pc' := 48) (As := [vi 40]) (b := 31) (S := []) dX2_readPlain_45 rfl m_X2_143 w_X8_isSign (c_X8_isSign X M1 ic1 40 (by decide)) rfl ⟨_, _, _, rfl, rfl, rfl⟩ (by omega) (by decide) rfl (Nat.le_of_ble_eq_true rfl) (fun z2 q1 => ?_)
  refine g_if_eq (pc' := 51) (tgt := 100) ⟨by omega, by omega⟩ dX2_readPlain_48 rfl rfl (fun c3 => ?_) (fun c3 => ?_)
  · refine g_aload_n (pc' := 101) 1 dX2_readPlain_100 rfl rfl ?_
    refine g_iload_n (pc' := 102) 2 dX2_readPlain_101 rfl rfl ?_
    refine g_callVi (pc' := 105) (As := [vi b]) (b := 30) (S := []) dX2_readPlain_102 rfl m_X2_97 w_X2_readSum (r_readSum X _ b (by omega) (by omega) rfl M1 ic1) rfl ⟨_, _, _, rfl, rfl, rfl⟩ (by omega) (by decide) rfl (Nat.le_of_ble_eq_true rfl) (fun z5 M6 q4 => ?_)
    obtain ⟨iM6, fM60, eM6_31_1, pM6⟩ := q4
    have fM6 : Fr (fun c => 30 ≤ c ∧ c ≤ 52) M M6 := Fr.tr fr1 fM60 (fun _ z => z)
    have q31_1_M6 : id (M6 31 1 = M 31 1) := eM6_31_1.trans q31_1
    clear eM6_31_1
    refine g_istore_n (pc' := 106) (i := 3) (L' := [(3, vi z5), (2, vi tn), (0, vr X 30), (1, vi b)]) dX2_readPlain_105 rfl rfl (by decide) rfl ?_
    refine g_iload_n (pc' := 107) 0 dX2_readPlain_106 rfl rfl ?_
    refine g_if_eq (pc' := 110) (tgt := 117) ⟨by omega, by omega⟩ dX2_readPlain_107 rfl rfl (fun c7 => ?_) (fun c7 => ?_)
    · refine g_iconst (pc' := 118) dX2_readPlain_117 rfl ?_
      refine g_istore (pc' := 120) (L' := [(4, vi 0), (3, vi z5), (2, vi tn), (0, vr X 30), (1, vi b)]) dX2_readPlain_118 rfl (by decide) rfl ?_
      refine g_sub [2, 1, 0, 3, 4] rfl ?_
      exact j_X2_readPlain_120 X M hi b hb hb8 hrec tn z5 0 M6 iM6 fM6 q31_1_M6 (by omega) (by omega) (by omega)
    · refine g_aload_n (pc' := 111) 2 dX2_readPlain_110 rfl rfl ?_
      refine g_callVi (pc' := 114) (As := []) (b := 30) (S := []) dX2_readPlain_111 rfl m_X2_146 w_X2_takeComparison (c_X2_takeComparison X M6 iM6) rfl ⟨_, _, _, rfl, rfl, rfl⟩ (by omega) (by decide) rfl (Nat.le_of_ble_eq_true rfl) (fun z9 M10 q8 => ?_)
      obtain ⟨iM10, fM100, eM10_31_1, pM10⟩ := q8
      have fM10 : Fr (fun c => 30 ≤ c ∧ c ≤ 52) M M10 := Fr.tr fM6 fM100 (fun _ z => z)
      have q31_1_M10 : id (M10 31 1 = M 31 1) := eM10_31_1.trans q31_1_M6
      clear eM10_31_1
      refine g_goto (tgt := 118) dX2_readPlain_114 rfl ?_
      refine g_istore (pc' := 120) (L' := [(4, vi z9), (3, vi z5), (2, vi tn), (0, vr X 30), (1, vi b)]) dX2_readPlain_118 rfl (by decide) rfl ?_
      refine g_sub [2, 1, 0, 3, 4] rfl ?_
      exact j_X2_readPlain_120 X M hi b hb hb8 hrec tn z5 z9 M10 iM10 fM10 q31_1_M10 (by omega) (by omega) (by omega)
  · refine g_iload_n (pc' := 52) 2 dX2_readPlain_51 rfl rfl ?_
    refine g_bipush (pc' := 54) (v := 8) dX2_readPlain_52 rfl (by decide) ?_
    refine g_ic_ge (pc' := 57) (tgt := 95) hb (by decide) dX2_readPlain_54 rfl rfl (fun c11 => ?_) (fun c11 => ?_)
    · refine g_iconst (pc' := 96) dX2_readPlain_95 rfl ?_
      refine g_istore_n (pc' := 97) (i := 3) (L' := [(3, vi 0), (2, vi tn), (0, vr X 30), (1, vi b)]) dX2_readPlain_96 rfl rfl (by decide) rfl ?_
      refine g_goto (tgt := 150) dX2_readPlain_97 rfl ?_
      refine g_sub [1, 0, 2, 3] rfl ?_
      exact j_X2_readPlain_150 X M hi b hb hb8 hrec tn 0 M1 ic1 fr1 q31_1 (by omega) (by omega)
    · refine g_aload_n (pc' := 58) 1 dX2_readPlain_57 rfl rfl ?_
      refine g_getR (pc' := 61) dX2_readPlain_58 rfl f_X2_12 rfl rfl ?_
      refine g_bipush (pc' := 63) (v := 40) dX2_readPlain_61 rfl (by decide) ?_
      refine g_callVi (pc' := 66) (As := [vi 40]) (b := 31) (S := []) dX2_readPlain_63 rfl m_X2_50 w_X8_takeSign (c_X8_takeSign X M1 ic1 40 (by decide)) rfl ⟨_, _, _, rfl, rfl, rfl⟩ (by omega) (by decide) rfl (Nat.le_of_ble_eq_true rfl) (fun z13 M14 q12 => ?_)
      obtain ⟨iM14, fM140, eM14_31_1, pM14⟩ := q12
      have fM14 : Fr (fun c => 30 ≤ c ∧ c ≤ 52) M M14 := Fr.tr fr1 fM140 fi_1
      have q31_1_M14 : id (M14 31 1 = M 31 1) := eM14_31_1.trans q31_1
      clear eM14_31_1
      refine g_if_eq (pc' := 69) (tgt := 95) ⟨by omega, by omega⟩ dX2_readPlain_66 rfl rfl (fun c15 => ?_) (fun c15 => ?_)
      · refine g_iconst (pc' := 96) dX2_readPlain_95 rfl ?_
        refine g_istore_n (pc' := 97) (i := 3) (L' := [(3, vi 0), (2, vi tn), (0, vr X 30), (1, vi b)]) dX2_readPlain_96 rfl rfl (by decide) rfl ?_
        refine g_goto (tgt := 150) dX2_readPlain_97 rfl ?_
        refine g_sub [1, 0, 2, 3] rfl ?_
        exact j_X2_readPlain_150 X M hi b hb hb8 hrec tn 0 M14 iM14 fM14 q31_1_M14 (by omega) (by omega)
      · refine g_aload_n (pc' := 70) 1 dX2_readPlain_69 rfl rfl ?_
        refine g_iload_n (pc' := 71) 2 dX2_readPlain_70 rfl rfl ?_
        refine g_iconst (pc' := 72) dX2_readPlain_71 rfl ?_
        refine g_iadd (pc' := 73) dX2_readPlain_72 rfl ?_
        refine g_callVi (pc' := 76) (As := [vi (b + 1)]) (b := 30) (S := []) dX2_readPlain_73 rfl m_X2_118 w_X2_readTest (hrec M14 iM14 (by omega)) rfl ⟨_, _, _, rfl, rfl, rfl⟩ (by omega) (by decide) rfl (Nat.le_of_ble_eq_true rfl) (fun z17 M18 q16 => ?_)
        obtain ⟨iM18, fM180, eM18_31_1, pM18⟩ := q16
        have fM18 : Fr (fun c => 30 ≤ c ∧ c ≤ 52) M M18 := Fr.tr fM14 fM180 (fun _ z => z)
        have q31_1_M18 : id (M18 31 1 = M 31 1) := eM18_31_1.trans q31_1_M14
        clear eM18_31_1
        refine g_if_eq (pc' := 79) (tgt := 95) ⟨by omega, by omega⟩ dX2_readPlain_76 rfl rfl (fun c19 => ?_) (fun c19 => ?_)
        · refine g_iconst (pc' := 96) dX2_readPlain_95 rfl ?_
          refine g_istore_n (pc' := 97) (i := 3) (L' := [(3, vi 0), (2, vi tn), (0, vr X 30), (1, vi b)]) dX2_readPlain_96 rfl rfl (by decide) rfl ?_
          refine g_goto (tgt := 150) dX2_readPlain_97 rfl ?_
          refine g_sub [1, 0, 2, 3] rfl ?_
          exact j_X2_readPlain_150 X M hi b hb hb8 hrec tn 0 M18 iM18 fM18 q31_1_M18 (by omega) (by omega)
        · refine g_aload_n (pc' := 80) 1 dX2_readPlain_79 rfl rfl ?_
          refine g_getR (pc' := 83) dX2_readPlain_80 rfl f_X2_12 rfl rfl ?_
          refine g_bipush (pc' := 85) (v := 41) dX2_readPlain_83 rfl (by decide) ?_
          refine g_callVi (pc' := 88) (As := [vi 41]) (b := 31) (S := []) dX2_readPlain_85 rfl m_X2_50 w_X8_takeSign (c_X8_takeSign X M18 iM18 41 (by decide)) rfl ⟨_, _, _, rfl, rfl, rfl⟩ (by omega) (by decide) rfl (Nat.le_of_ble_eq_true rfl) (fun z21 M22 q20 => ?_)
          obtain ⟨iM22, fM220, eM22_31_1, pM22⟩ := q20
          have fM22 : Fr (fun c => 30 ≤ c ∧ c ≤ 52) M M22 := Fr.tr fM18 fM220 fi_1
          have q31_1_M22 : id (M22 31 1 = M 31 1) := eM22_31_1.trans q31_1_M18
          clear eM22_31_1
          refine g_if_eq (pc' := 91) (tgt := 95) ⟨by omega, by omega⟩ dX2_readPlain_88 rfl rfl (fun c23 => ?_) (fun c23 => ?_)
          · refine g_iconst (pc' := 96) dX2_readPlain_95 rfl ?_
            refine g_istore_n (pc' := 97) (i := 3) (L' := [(3, vi 0), (2, vi tn), (0, vr X 30), (1, vi b)]) dX2_readPlain_96 rfl rfl (by decide) rfl ?_
            refine g_goto (tgt := 150) dX2_readPlain_97 rfl ?_
            refine g_sub [1, 0, 2, 3] rfl ?_
            exact j_X2_readPlain_150 X M hi b hb hb8 hrec tn 0 M22 iM22 fM22 q31_1_M22 (by omega) (by omega)
          · refine g_iconst (pc' := 92) dX2_readPlain_91 rfl ?_
            refine g_goto (tgt := 96) dX2_readPlain_92 rfl ?_
            refine g_istore_n (pc' := 97) (i := 3) (L' := [(3, vi 1), (2, vi tn), (0, vr X 30), (1, vi b)]) dX2_readPlain_96 rfl rfl (by decide) rfl ?_
            refine g_goto (tgt := 150) dX2_readPlain_97 rfl ?_
            refine g_sub [1, 0, 2, 3] rfl ?_
            exact j_X2_readPlain_150 X M hi b hb hb8 hrec tn 1 M22 iM22 fM22 q31_1_M22 (by omega) (by omega)
set_option maxHeartbeats 4000000 in
set_option maxRecDepth 100000 in
theorem l_X2_readPlain_4 (X : Cx) (M : Mm) (hi : IC M) (b : Int) (hb : inI b) (hb8 : 0 ≤ b ∧ b ≤ 8) (hrec : ∀ (M : Mm) (_ : IC M), b < 8 → Con X (16 + 3 * (8 - (b + 1)).toNat) yX2_readTest cX2_readTest 5 (some .boolean) [vr X 30, vi (b + 1)] M (Qi (fun r M1 => IC M1 ∧ Fr (fun c => 30 ≤ c ∧ c ≤ 52) M M1 ∧ M1 31 1 = M 31 1 ∧ (r = 0 ∨ r = 1)))) : ∀ (kk : Nat) (tn : Int) (i : Int) (M1 : Mm) (ic1 : IC M1) (fr1 : Fr (fun c => 30 ≤ c ∧ c ≤ 52) M M1) (q31_1 : id (M1 31 1 = M 31 1)) (h2 : tn = 0 ∨ tn = 1) (h0 : 0 ≤ i) (h1 : i ≤ 400), (400 - i).toNat = kk → G X (14 + 3 * (8 - b).toNat) RX2 cX2_readPlain 5 (some .boolean) (Qi (fun r M1 => IC M1 ∧ Fr (fun c => 30 ≤ c ∧ c ≤ 52) M M1 ∧ M1 31 1 = M 31 1 ∧ (r = 0 ∨ r = 1))) 4 [(2, vi tn), (3, vi i), (0, vr X 30), (1, vi b)] [] M1 := by
  intro kk
  induction kk using Nat.strongRecOn with
  | ind kk ih =>
    intro tn i M1 ic1 fr1 q31_1 h2 h0 h1 hmes
    refine g_iload_n (pc' := 5) 1 dX2_readPlain_4 rfl rfl ?_
    refine g_sipush (pc' := 8) (v := 400) dX2_readPlain_5 rfl (by decide) ?_
    refine g_ic_ge (pc' := 11) (tgt := 39) ⟨by omega, by omega⟩ (by decide) dX2_readPlain_8 rfl rfl (fun c1 => ?_) (fun c1 => ?_)
    · refine g_sub [0, 2, 3] rfl ?_
      exact j_X2_readPlain_39 X M hi b hb hb8 hrec tn M1 ic1 fr1 q31_1 (by omega)
    · refine g_aload_n (pc' := 12) 2 dX2_readPlain_11 rfl rfl ?_
      refine g_getR (pc' := 15) dX2_readPlain_12 rfl f_X2_12 rfl rfl ?_
      refine g_ldcS (pc' := 17) (j := 11) dX2_readPlain_15 rfl rfl ?_
      refine g_callVi (pc' := 20) (As := [vs X 11]) (b := 31) (S := []) dX2_readPlain_17 rfl m_X2_65 w_X8_takeWord (c_X8_takeWord X M1 ic1 11 (by decide)) rfl ⟨_, _, _, rfl, rfl, rfl⟩ (by omega) (by decide) rfl (Nat.le_of_ble_eq_true rfl) (fun z3 M4 q2 => ?_)
      obtain ⟨iM4, fM40, eM4_31_1, pM4⟩ := q2
      have fM4 : Fr (fun c => 30 ≤ c ∧ c ≤ 52) M M4 := Fr.tr fr1 fM40 fi_1
      have q31_1_M4 : id (M4 31 1 = M 31 1) := eM4_31_1.trans q31_1
      clear eM4_31_1
      refine g_if_eq (pc' := 23) (tgt := 39) ⟨by omega, by omega⟩ dX2_readPlain_20 rfl rfl (fun c5 => ?_) (fun c5 => ?_)
      · refine g_sub [0, 2, 3] rfl ?_
        exact j_X2_readPlain_39 X M hi b hb hb8 hrec tn M4 iM4 fM4 q31_1_M4 (by omega)
      · refine g_iload_n (pc' := 24) 0 dX2_readPlain_23 rfl rfl ?_
        refine g_if_ne (pc' := 27) (tgt := 31) ⟨by omega, by omega⟩ dX2_readPlain_24 rfl rfl (fun c6 => ?_) (fun c6 => ?_)
        · refine g_iconst (pc' := 32) dX2_readPlain_31 rfl ?_
          refine g_istore_n (pc' := 33) (i := 2) (L' := [(2, vi 0), (3, vi i), (0, vr X 30), (1, vi b)]) dX2_readPlain_32 rfl rfl (by decide) rfl ?_
          refine g_iinc (pc' := 36) (L' := [(3, vi (i + 1)), (2, vi 0), (0, vr X 30), (1, vi b)]) 1 dX2_readPlain_33 rfl rfl (by decide) rfl ?_
          refine g_goto (tgt := 4) dX2_readPlain_36 rfl ?_
          refine g_sub [1, 0, 2, 3] rfl ?_
          exact ih _ (by omega) 0 (i + 1) M4 iM4 fM4 q31_1_M4 (by omega) (by omega) (by omega) rfl
        · refine g_iconst (pc' := 28) dX2_readPlain_27 rfl ?_
          refine g_goto (tgt := 32) dX2_readPlain_28 rfl ?_
          refine g_istore_n (pc' := 33) (i := 2) (L' := [(2, vi 1), (3, vi i), (0, vr X 30), (1, vi b)]) dX2_readPlain_32 rfl rfl (by decide) rfl ?_
          refine g_iinc (pc' := 36) (L' := [(3, vi (i + 1)), (2, vi 1), (0, vr X 30), (1, vi b)]) 1 dX2_readPlain_33 rfl rfl (by decide) rfl ?_
          refine g_goto (tgt := 4) dX2_readPlain_36 rfl ?_
          refine g_sub [1, 0, 2, 3] rfl ?_
          exact ih _ (by omega) 1 (i + 1) M4 iM4 fM4 q31_1_M4 (by omega) (by omega) (by omega) rfl
set_option maxHeartbeats 4000000 in
set_option maxRecDepth 100000 in
theorem c_X2_readPlain (X : Cx) (M : Mm) (hi : IC M) (b : Int) (hb : inI b) (hb8 : 0 ≤ b ∧ b ≤ 8) (hrec : ∀ (M : Mm) (_ : IC M), b < 8 → Con X (16 + 3 * (8 - (b + 1)).toNat) yX2_readTest cX2_readTest 5 (some .boolean) [vr X 30, vi (b + 1)] M (Qi (fun r M1 => IC M1 ∧ Fr (fun c => 30 ≤ c ∧ c ≤ 52) M M1 ∧ M1 31 1 = M 31 1 ∧ (r = 0 ∨ r = 1)))) : Con X (14 + 3 * (8 - b).toNat) yX2_readPlain cX2_readPlain 5 (some .boolean) [vr X 30, vi b] M (Qi (fun r M1 => IC M1 ∧ Fr (fun c => 30 ≤ c ∧ c ≤ 52) M M1 ∧ M1 31 1 = M 31 1 ∧ (r = 0 ∨ r = 1))) := by
  refine Con.ofG rfl (Nat.le_of_ble_eq_true rfl) ?_
  show G X (14 + 3 * (8 - b).toNat) RX2 cX2_readPlain 5 (some .boolean) (Qi (fun r M1 => IC M1 ∧ Fr (fun c => 30 ≤ c ∧ c ≤ 52) M M1 ∧ M1 31 1 = M 31 1 ∧ (r = 0 ∨ r = 1))) 0 [(0, vr X 30), (1, vi b)] [] M
  refine g_iconst (pc' := 1) dX2_readPlain_0 rfl ?_
  refine g_istore_n (pc' := 2) (i := 2) (L' := [(2, vi 0), (0, vr X 30), (1, vi b)]) dX2_readPlain_1 rfl rfl (by decide) rfl ?_
  refine g_iconst (pc' := 3) dX2_readPlain_2 rfl ?_
  refine g_istore_n (pc' := 4) (i := 3) (L' := [(3, vi 0), (2, vi 0), (0, vr X 30), (1, vi b)]) dX2_readPlain_3 rfl rfl (by decide) rfl ?_
  refine g_sub [1, 0, 2, 3] rfl ?_
  exact l_X2_readPlain_4 X M hi b hb hb8 hrec _ 0 0 M hi Fr.rf rfl (by omega) (by omega) (by omega) rfl
set_option maxHeartbeats 4000000 in
set_option maxRecDepth 100000 in
theorem l_X2_readBoth_8 (X : Cx) (M : Mm) (hi : IC M) (b : Int) (hb : inI b) (hb8 : 0 ≤ b ∧ b ≤ 8) (hpl : ∀ (M : Mm) (_ : IC M), Con X (14 + 3 * (8 - b).toNat) yX2_readPlain cX2_readPlain 5 (some .boolean) [vr X 30, vi b] M (Qi (fun r M1 => IC M1 ∧ Fr (fun c => 30 ≤ c ∧ c ≤ 52) M M1 ∧ M1 31 1 = M 31 1 ∧ (r = 0 ∨ r = 1)))) : ∀ (kk : Nat) (re : Int) (i : Int) (M1 : Mm) (ic1 : IC M1) (fr1 : Fr (fun c => 30 ≤ c ∧ c ≤ 52) M M1) (q31_1 : id (M1 31 1 = M 31 1)) (h2 : re = 0 ∨ re = 1) (h0 : 0 ≤ i) (h1 : i ≤ 400), (400 - i).toNat = kk → G X (15 + 3 * (8 - b).toNat) RX2 cX2_readBoth 5 (some .boolean) (Qi (fun r M1 => IC M1 ∧ Fr (fun c => 30 ≤ c ∧ c ≤ 52) M M1 ∧ M1 31 1 = M 31 1 ∧ (r = 0 ∨ r = 1))) 8 [(2, vi re), (3, vi i), (0, vr X 30), (1, vi b)] [] M1 := by
  intro kk
  induction kk using Nat.strongRecOn with
  | ind kk ih =>
    intro re i M1 ic1 fr1 q31_1 h2 h0 h1 hmes
    refine g_iload_n (pc' := 9) 1 dX2_readBoth_8 rfl rfl ?_
    refine g_sipush (pc' := 12) (v := 400) dX2_readBoth_9 rfl (by decide) ?_
    refine g_ic_ge (pc' := 15) (tgt := 64) ⟨by omega, by omega⟩ (by decide) dX2_readBoth_12 rfl rfl (fun c1 => ?_) (fun c1 => ?_)
    · refine g_iload_n (pc' := 65) 0 dX2_readBoth_64 rfl rfl ?_
      refine g_zreturn dX2_readBoth_65 (by omega) ?_
      exact ⟨ic1, fr1, q31_1, by omega⟩
    · refine g_iload_n (pc' := 16) 0 dX2_readBoth_15 rfl rfl ?_
      refine g_if_eq (pc' := 19) (tgt := 64) ⟨by omega, by omega⟩ dX2_readBoth_16 rfl rfl (fun c2 => ?_) (fun c2 => ?_)
      · refine g_iload_n (pc' := 65) 0 dX2_readBoth_64 rfl rfl ?_
        refine g_zreturn dX2_readBoth_65 (by omega) ?_
        exact ⟨ic1, fr1, q31_1, by omega⟩
      · refine g_aload_n (pc' := 20) 2 dX2_readBoth_19 rfl rfl ?_
        refine g_getR (pc' := 23) dX2_readBoth_20 rfl f_X2_12 rfl rfl ?_
        refine g_ldcS (pc' := 25) (j := 12) dX2_readBoth_23 rfl rfl ?_
        refine g_callVi (pc' := 28) (As := [vs X 12]) (b := 31) (S := []) dX2_readBoth_25 rfl m_X2_65 w_X8_takeWord (c_X8_takeWord X M1 ic1 12 (by decide)) rfl ⟨_, _, _, rfl, rfl, rfl⟩ (by omega) (by decide) rfl (Nat.le_of_ble_eq_true rfl) (fun z4 M5 q3 => ?_)
        obtain ⟨iM5, fM50, eM5_31_1, pM5⟩ := q3
        have fM5 : Fr (fun c => 30 ≤ c ∧ c ≤ 52) M M5 := Fr.tr fr1 fM50 fi_1
        have q31_1_M5 : id (M5 31 1 = M 31 1) := eM5_31_1.trans q31_1
        clear eM5_31_1
        refine g_if_eq (pc' := 31) (tgt := 64) ⟨by omega, by omega⟩ dX2_readBoth_28 rfl rfl (fun c6 => ?_) (fun c6 => ?_)
        · refine g_iload_n (pc' := 65) 0 dX2_readBoth_64 rfl rfl ?_
          refine g_zreturn dX2_readBoth_65 (by omega) ?_
          exact ⟨iM5, fM5, q31_1_M5, by omega⟩
        · refine g_aload_n (pc' := 32) 2 dX2_readBoth_31 rfl rfl ?_
          refine g_getR (pc' := 35) dX2_readBoth_32 rfl f_X2_21 rfl rfl ?_
          refine g_bipush (pc' := 37) (v := 14) dX2_readBoth_35 rfl (by decide) ?_
          refine g_iconst (pc' := 38) dX2_readBoth_37 rfl ?_
          refine g_callVi (pc' := 41) (As := [vi 14, vi 0]) (b := 37) (S := []) dX2_readBoth_38 rfl m_X2_129 w_X4_write (c_X4_write X M5 iM5 14 (by decide) 0 (by decide)) rfl ⟨_, _, _, rfl, rfl, rfl⟩ (by omega) (by decide) rfl (Nat.le_of_ble_eq_true rfl) (fun z8 M9 q7 => ?_)
          obtain ⟨iM9, fM90, pM9⟩ := q7
          have fM9 : Fr (fun c => 30 ≤ c ∧ c ≤ 52) M M9 := Fr.tr fM5 fM90 fi_2
          have q31_1_M9 : id (M9 31 1 = M 31 1) := (congrFun (fM90 31 (by first | decide | omega | (dsimp only; omega))) 1).trans q31_1_M5
          refine g_istore (pc' := 43) (L' := [(4, vi z8), (2, vi re), (3, vi i), (0, vr X 30), (1, vi b)]) dX2_readBoth_41 rfl (by decide) rfl ?_
          refine g_aload_n (pc' := 44) 3 dX2_readBoth_43 rfl rfl ?_
          refine g_iload_n (pc' := 45) 4 dX2_readBoth_44 rfl rfl ?_
          refine g_callVi (pc' := 48) (As := [vi b]) (b := 30) (S := []) dX2_readBoth_45 rfl m_X2_136 w_X2_readPlain (hpl M9 iM9) rfl ⟨_, _, _, rfl, rfl, rfl⟩ (by omega) (by decide) rfl (Nat.le_of_ble_eq_true rfl) (fun z11 M12 q10 => ?_)
          obtain ⟨iM12, fM120, eM12_31_1, pM12⟩ := q10
          have fM12 : Fr (fun c => 30 ≤ c ∧ c ≤ 52) M M12 := Fr.tr fM9 fM120 (fun _ z => z)
          have q31_1_M12 : id (M12 31 1 = M 31 1) := eM12_31_1.trans q31_1_M9
          clear eM12_31_1
          refine g_istore_n (pc' := 49) (i := 2) (L' := [(2, vi z11), (4, vi z8), (3, vi i), (0, vr X 30), (1, vi b)]) dX2_readBoth_48 rfl rfl (by decide) rfl ?_
          refine g_aload_n (pc' := 50) 3 dX2_readBoth_49 rfl rfl ?_
          refine g_getR (pc' := 53) dX2_readBoth_50 rfl f_X2_21 rfl rfl ?_
          refine g_iload (pc' := 55) 1 dX2_readBoth_53 rfl rfl ?_
          refine g_callVv (pc' := 58) (As := [vi z8]) (b := 37) (S := []) dX2_readBoth_55 rfl m_X2_132 w_X4_leadHere (c_X4_leadHere X M12 iM12 z8 ⟨by omega, by omega⟩) rfl ⟨_, _, _, rfl, rfl, rfl⟩ (by omega) (by decide) rfl (Nat.le_of_ble_eq_true rfl) (fun M14 q13 => ?_)
          obtain ⟨iM14, fM140⟩ := q13
          have fM14 : Fr (fun c => 30 ≤ c ∧ c ≤ 52) M M14 := Fr.tr fM12 fM140 fi_2
          have q31_1_M14 : id (M14 31 1 = M 31 1) := (congrFun (fM140 31 (by first | decide | omega | (dsimp only; omega))) 1).trans q31_1_M12
          refine g_iinc (pc' := 61) (L' := [(3, vi (i + 1)), (2, vi z11), (4, vi z8), (0, vr X 30), (1, vi b)]) 2 dX2_readBoth_58 rfl rfl (by decide) rfl ?_
          refine g_goto (tgt := 8) dX2_readBoth_61 rfl ?_
          refine g_sub [1, 0, 3, 4] rfl ?_
          exact ih _ (by omega) z11 (i + 1) M14 iM14 fM14 q31_1_M14 (by omega) (by omega) (by omega) rfl
set_option maxHeartbeats 4000000 in
set_option maxRecDepth 100000 in
theorem c_X2_readBoth (X : Cx) (M : Mm) (hi : IC M) (b : Int) (hb : inI b) (hb8 : 0 ≤ b ∧ b ≤ 8) (hpl : ∀ (M : Mm) (_ : IC M), Con X (14 + 3 * (8 - b).toNat) yX2_readPlain cX2_readPlain 5 (some .boolean) [vr X 30, vi b] M (Qi (fun r M1 => IC M1 ∧ Fr (fun c => 30 ≤ c ∧ c ≤ 52) M M1 ∧ M1 31 1 = M 31 1 ∧ (r = 0 ∨ r = 1)))) : Con X (15 + 3 * (8 - b).toNat) yX2_readBoth cX2_readBoth 5 (some .boolean) [vr X 30, vi b] M (Qi (fun r M1 => IC M1 ∧ Fr (fun c => 30 ≤ c ∧ c ≤ 52) M M1 ∧ M1 31 1 = M 31 1 ∧ (r = 0 ∨ r = 1))) := by
  refine Con.ofG rfl (Nat.le_of_ble_eq_true rfl) ?_
  show G X (15 + 3 * (8 - b).toNat) RX2 cX2_readBoth 5 (some .boolean) (Qi (fun r M1 => IC M1 ∧ Fr (fun c => 30 ≤ c ∧ c ≤ 52) M M1 ∧ M1 31 1 = M 31 1 ∧ (r = 0 ∨ r = 1))) 0 [(0, vr X 30), (1, vi b)] [] M
  refine g_aload_n (pc' := 1) 0 dX2_readBoth_0 rfl rfl ?_
  refine g_iload_n (pc' := 2) 1 dX2_readBoth_1 rfl rfl ?_
  refine g_callVi (pc' := 5) (As := [vi b]) (b := 30) (S := []) dX2_readBoth_2 rfl m_X2_136 w_X2_readPlain (hpl M hi) rfl ⟨_, _, _, rfl, rfl, rfl⟩ (by omega) (by decide) rfl (Nat.le_of_ble_eq_true rfl) (fun z2 M3 q1 => ?_)
  obtain ⟨iM3, fM30, eM3_31_1, pM3⟩ := q1
  have fM3 : Fr (fun c => 30 ≤ c ∧ c ≤ 52) M M3 := Fr.tr Fr.rf fM30 (fun _ z => z)
  have q31_1_M3 : id (M3 31 1 = M 31 1) := eM3_31_1
  clear eM3_31_1
  refine g_istore_n (pc' := 6) (i := 2) (L' := [(2, vi z2), (0, vr X 30), (1, vi b)]) dX2_readBoth_5 rfl rfl (by decide) rfl ?_
  refine g_iconst (pc' := 7) dX2_readBoth_6 rfl ?_
  refine g_istore_n (pc' := 8) (i := 3) (L' := [(3, vi 0), (2, vi z2), (0, vr X 30), (1, vi b)]) dX2_readBoth_7 rfl rfl (by decide) rfl ?_
  refine g_sub [1, 0, 2, 3] rfl ?_
  exact l_X2_readBoth_8 X M hi b hb hb8 hpl _ z2 0 M3 iM3 fM3 q31_1_M3 (by omega) (by omega) (by omega) rfl
set_option maxHeartbeats 4000000 in
set_option maxRecDepth 100000 in
theorem l_X2_readTest_8 (X : Cx) (M : Mm) (hi : IC M) (b : Int) (hb : inI b) (hb8 : 0 ≤ b ∧ b ≤ 8) (hbo : ∀ (M : Mm) (_ : IC M), Con X (15 + 3 * (8 - b).toNat) yX2_readBoth cX2_readBoth 5 (some .boolean) [vr X 30, vi b] M (Qi (fun r M1 => IC M1 ∧ Fr (fun c => 30 ≤ c ∧ c ≤ 52) M M1 ∧ M1 31 1 = M 31 1 ∧ (r = 0 ∨ r = 1)))) : ∀ (kk : Nat) (re : Int) (i : Int) (M1 : Mm) (ic1 : IC M1) (fr1 : Fr (fun c => 30 ≤ c ∧ c ≤ 52) M M1) (q31_1 : id (M1 31 1 = M 31 1)) (h2 : re = 0 ∨ re = 1) (h0 : 0 ≤ i) (h1 : i ≤ 400), (400 - i).toNat = kk → G X (16 + 3 * (8 - b).toNat) RX2 cX2_readTest 5 (some .boolean) (Qi (fun r M1 => IC M1 ∧ Fr (fun c => 30 ≤ c ∧ c ≤ 52) M M1 ∧ M1 31 1 = M 31 1 ∧ (r = 0 ∨ r = 1))) 8 [(2, vi re), (3, vi i), (0, vr X 30), (1, vi b)] [] M1 := by
  intro kk
  induction kk using Nat.strongRecOn with
  | ind kk ih =>
    intro re i M1 ic1 fr1 q31_1 h2 h0 h1 hmes
    refine g_iload_n (pc' := 9) 1 dX2_readTest_8 rfl rfl ?_
    refine g_sipush (pc' := 12) (v := 400) dX2_readTest_9 rfl (by decide) ?_
    refine g_ic_ge (pc' := 15) (tgt := 64) ⟨by omega, by omega⟩ (by decide) dX2_readTest_12 rfl rfl (fun c1 => ?_) (fun c1 => ?_)
    · refine g_iload_n (pc' := 65) 0 dX2_readTest_64 rfl rfl ?_
      refine g_zreturn dX2_readTest_65 (by omega) ?_
      exact ⟨ic1, fr1, q31_1, by omega⟩
    · refine g_iload_n (pc' := 16) 0 dX2_readTest_15 rfl rfl ?_
      refine g_if_eq (pc' := 19) (tgt := 64) ⟨by omega, by omega⟩ dX2_readTest_16 rfl rfl (fun c2 => ?_) (fun c2 => ?_)
      · refine g_iload_n (pc' := 65) 0 dX2_readTest_64 rfl rfl ?_
        refine g_zreturn dX2_readTest_65 (by omega) ?_
        exact ⟨ic1, fr1, q31_1, by omega⟩
      · refine g_aload_n (pc' := 20) 2 dX2_readTest_19 rfl rfl ?_
        refine g_getR (pc' := 23) dX2_readTest_20 rfl f_X2_12 rfl rfl ?_
        refine g_ldcS (pc' := 25) (j := 13) dX2_readTest_23 rfl rfl ?_
        refine g_callVi (pc' := 28) (As := [vs X 13]) (b := 31) (S := []) dX2_readTest_25 rfl m_X2_65 w_X8_takeWord (c_X8_takeWord X M1 ic1 13 (by decide)) rfl ⟨_, _, _, rfl, rfl, rfl⟩ (by omega) (by decide) rfl (Nat.le_of_ble_eq_true rfl) (fun z4 M5 q3 => ?_)
        obtain ⟨iM5, fM50, eM5_31_1, pM5⟩ := q3
        have fM5 : Fr (fun c => 30 ≤ c ∧ c ≤ 52) M M5 := Fr.tr fr1 fM50 fi_1
        have q31_1_M5 : id (M5 31 1 = M 31 1) := eM5_31_1.trans q31_1
        clear eM5_31_1
        refine g_if_eq (pc' := 31) (tgt := 64) ⟨by omega, by omega⟩ dX2_readTest_28 rfl rfl (fun c6 => ?_) (fun c6 => ?_)
        · refine g_iload_n (pc' := 65) 0 dX2_readTest_64 rfl rfl ?_
          refine g_zreturn dX2_readTest_65 (by omega) ?_
          exact ⟨iM5, fM5, q31_1_M5, by omega⟩
        · refine g_aload_n (pc' := 32) 2 dX2_readTest_31 rfl rfl ?_
          refine g_getR (pc' := 35) dX2_readTest_32 rfl f_X2_21 rfl rfl ?_
          refine g_bipush (pc' := 37) (v := 15) dX2_readTest_35 rfl (by decide) ?_
          refine g_iconst (pc' := 38) dX2_readTest_37 rfl ?_
          refine g_callVi (pc' := 41) (As := [vi 15, vi 0]) (b := 37) (S := []) dX2_readTest_38 rfl m_X2_129 w_X4_write (c_X4_write X M5 iM5 15 (by decide) 0 (by decide)) rfl ⟨_, _, _, rfl, rfl, rfl⟩ (by omega) (by decide) rfl (Nat.le_of_ble_eq_true rfl) (fun z8 M9 q7 => ?_)
          obtain ⟨iM9, fM90, pM9⟩ := q7
          have fM9 : Fr (fun c => 30 ≤ c ∧ c ≤ 52) M M9 := Fr.tr fM5 fM90 fi_2
          have q31_1_M9 : id (M9 31 1 = M 31 1) := (congrFun (fM90 31 (by first | decide | omega | (dsimp only; omega))) 1).trans q31_1_M5
          refine g_istore (pc' := 43) (L' := [(4, vi z8), (2, vi re), (3, vi i), (0, vr X 30), (1, vi b)]) dX2_readTest_41 rfl (by decide) rfl ?_
          refine g_aload_n (pc' := 44) 3 dX2_readTest_43 rfl rfl ?_
          refine g_iload_n (pc' := 45) 4 dX2_readTest_44 rfl rfl ?_
          refine g_callVi (pc' := 48) (As := [vi b]) (b := 30) (S := []) dX2_readTest_45 rfl m_X2_124 w_X2_readBoth (hbo M9 iM9) rfl ⟨_, _, _, rfl, rfl, rfl⟩ (by omega) (by decide) rfl (Nat.le_of_ble_eq_true rfl) (fun z11 M12 q10 => ?_)
          obtain ⟨iM12, fM120, eM12_31_1, pM12⟩ := q10
          have fM12 : Fr (fun c => 30 ≤ c ∧ c ≤ 52) M M12 := Fr.tr fM9 fM120 (fun _ z => z)
          have q31_1_M12 : id (M12 31 1 = M 31 1) := eM12_31_1.trans q31_1_M9
          clear eM12_31_1
          refine g_istore_n (pc' := 49) (i := 2) (L' := [(2, vi z11), (4, vi z8), (3, vi i), (0, vr X 30), (1, vi b)]) dX2_readTest_48 rfl rfl (by decide) rfl ?_
          refine g_aload_n (pc' := 50) 3 dX2_readTest_49 rfl rfl ?_
          refine g_getR (pc' := 53) dX2_readTest_50 rfl f_X2_21 rfl rfl ?_
          refine g_iload (pc' := 55) 1 dX2_readTest_53 rfl rfl ?_
          refine g_callVv (pc' := 58) (As := [vi z8]) (b := 37) (S := []) dX2_readTest_55 rfl m_X2_132 w_X4_leadHere (c_X4_leadHere X M12 iM12 z8 ⟨by omega, by omega⟩) rfl ⟨_, _, _, rfl, rfl, rfl⟩ (by omega) (by decide) rfl (Nat.le_of_ble_eq_true rfl) (fun M14 q13 => ?_)
          obtain ⟨iM14, fM140⟩ := q13
          have fM14 : Fr (fun c => 30 ≤ c ∧ c ≤ 52) M M14 := Fr.tr fM12 fM140 fi_2
          have q31_1_M14 : id (M14 31 1 = M 31 1) := (congrFun (fM140 31 (by first | decide | omega | (dsimp only; omega))) 1).trans q31_1_M12
          refine g_iinc (pc' := 61) (L' := [(3, vi (i + 1)), (2, vi z11), (4, vi z8), (0, vr X 30), (1, vi b)]) 2 dX2_readTest_58 rfl rfl (by decide) rfl ?_
          refine g_goto (tgt := 8) dX2_readTest_61 rfl ?_
          refine g_sub [1, 0, 3, 4] rfl ?_
          exact ih _ (by omega) z11 (i + 1) M14 iM14 fM14 q31_1_M14 (by omega) (by omega) (by omega) rfl
set_option maxHeartbeats 4000000 in
set_option maxRecDepth 100000 in
theorem c_X2_readTest (X : Cx) (M : Mm) (hi : IC M) (b : Int) (hb : inI b) (hb8 : 0 ≤ b ∧ b ≤ 8) (hbo : ∀ (M : Mm) (_ : IC M), Con X (15 + 3 * (8 - b).toNat) yX2_readBoth cX2_readBoth 5 (some .boolean) [vr X 30, vi b] M (Qi (fun r M1 => IC M1 ∧ Fr (fun c => 30 ≤ c ∧ c ≤ 52) M M1 ∧ M1 31 1 = M 31 1 ∧ (r = 0 ∨ r = 1)))) : Con X (16 + 3 * (8 - b).toNat) yX2_readTest cX2_readTest 5 (some .boolean) [vr X 30, vi b] M (Qi (fun r M1 => IC M1 ∧ Fr (fun c => 30 ≤ c ∧ c ≤ 52) M M1 ∧ M1 31 1 = M 31 1 ∧ (r = 0 ∨ r = 1))) := by
  refine Con.ofG rfl (Nat.le_of_ble_eq_true rfl) ?_
  show G X (16 + 3 * (8 - b).toNat) RX2 cX2_readTest 5 (some .boolean) (Qi (fun r M1 => IC M1 ∧ Fr (fun c => 30 ≤ c ∧ c ≤ 52) M M1 ∧ M1 31 1 = M 31 1 ∧ (r = 0 ∨ r = 1))) 0 [(0, vr X 30), (1, vi b)] [] M
  refine g_aload_n (pc' := 1) 0 dX2_readTest_0 rfl rfl ?_
  refine g_iload_n (pc' := 2) 1 dX2_readTest_1 rfl rfl ?_
  refine g_callVi (pc' := 5) (As := [vi b]) (b := 30) (S := []) dX2_readTest_2 rfl m_X2_124 w_X2_readBoth (hbo M hi) rfl ⟨_, _, _, rfl, rfl, rfl⟩ (by omega) (by decide) rfl (Nat.le_of_ble_eq_true rfl) (fun z2 M3 q1 => ?_)
  obtain ⟨iM3, fM30, eM3_31_1, pM3⟩ := q1
  have fM3 : Fr (fun c => 30 ≤ c ∧ c ≤ 52) M M3 := Fr.tr Fr.rf fM30 (fun _ z => z)
  have q31_1_M3 : id (M3 31 1 = M 31 1) := eM3_31_1
  clear eM3_31_1
  refine g_istore_n (pc' := 6) (i := 2) (L' := [(2, vi z2), (0, vr X 30), (1, vi b)]) dX2_readTest_5 rfl rfl (by decide) rfl ?_
  refine g_iconst (pc' := 7) dX2_readTest_6 rfl ?_
  refine g_istore_n (pc' := 8) (i := 3) (L' := [(3, vi 0), (2, vi z2), (0, vr X 30), (1, vi b)]) dX2_readTest_7 rfl rfl (by decide) rfl ?_
  refine g_sub [1, 0, 2, 3] rfl ?_
  exact l_X2_readTest_8 X M hi b hb hb8 hbo _ z2 0 M3 iM3 fM3 q31_1_M3 (by omega) (by omega) (by omega) rfl
theorem r_readTest (X : Cx) : ∀ (k : Nat) (b : Int), 0 ≤ b → b ≤ 8 → (8 - b).toNat = k → ∀ (M : Mm) (_ : IC M), Con X (16 + 3 * (8 - b).toNat) yX2_readTest cX2_readTest 5 (some .boolean) [vr X 30, vi b] M (Qi (fun r M1 => IC M1 ∧ Fr (fun c => 30 ≤ c ∧ c ≤ 52) M M1 ∧ M1 31 1 = M 31 1 ∧ (r = 0 ∨ r = 1))) := by
  intro k
  induction k using Nat.strongRecOn with
  | ind k ih =>
    intro b h0 h8 hk M hi
    have hb : inI b := ⟨by omega, by omega⟩
    exact c_X2_readTest X M hi b hb ⟨h0, h8⟩ (fun M hi => c_X2_readBoth X M hi b hb ⟨h0, h8⟩ (fun M hi => c_X2_readPlain X M hi b hb ⟨h0, h8⟩ (fun M hi hlt => ih _ (by omega) (b + 1) (by omega) (by omega) rfl M hi)))
set_option maxHeartbeats 4000000 in
set_option maxRecDepth 100000 in
theorem c_X2_readAmount (X : Cx) (M : Mm) (hi : IC M) (c : Nat) (hc : 41 ≤ c ∧ c ≤ 52) : Con X 37 yX2_readAmount cX2_readAmount 3 (some .boolean) [vr X 30, vr X c] M (Qi (fun r M1 => IC M1 ∧ Fr (fun c => 30 ≤ c ∧ c ≤ 52) M M1 ∧ M1 31 1 = M 31 1 ∧ (r = 0 ∨ r = 1))) := by
  refine Con.ofG rfl (Nat.le_of_ble_eq_true rfl) ?_
  show G X 37 RX2 cX2_readAmount 3 (some .boolean) (Qi (fun r M1 => IC M1 ∧ Fr (fun c => 30 ≤ c ∧ c ≤ 52) M M1 ∧ M1 31 1 = M 31 1 ∧ (r = 0 ∨ r = 1))) 0 [(0, vr X 30), (1, vr X c)] [] M
  refine g_aload_n (pc' := 1) 1 dX2_readAmount_0 rfl rfl ?_
  refine g_aload_n (pc' := 2) 0 dX2_readAmount_1 rfl rfl ?_
  refine g_getR (pc' := 5) dX2_readAmount_2 rfl f_X2_21 rfl rfl ?_
  refine g_getI (pc' := 8) dX2_readAmount_5 rfl f_X2_29 rfl rfl (fun v1 ev1 rv1 => ?_)
  have bv1 : 0 ≤ v1 ∧ v1 ≤ 400 := by rw [ev1]; exact hi.2.2.2.1.1
  refine g_putI (pc' := 11) dX2_readAmount_8 rfl p_X2_94 (clS hc) rfl rv1 (fun M2 hM2 => ?_)
  have iM2 : IC M2 := IC.wr hi hM2 (by unfold okw isT; first | decide | omega)
  have fM2 : Fr (fun c => 30 ≤ c ∧ c ≤ 52) M M2 := Fr.wr Fr.rf hM2 (by first | decide | omega | (dsimp only; omega))
  have q31_1_M2 : id (M2 31 1 = M 31 1) := (show M2 31 1 = M 31 1 by rw [hM2]; exact mu_ne _ _ (by first | decide | omega))
  refine g_aload_n (pc' := 12) 0 dX2_readAmount_11 rfl rfl ?_
  refine g_iconst (pc' := 13) dX2_readAmount_12 rfl ?_
  refine g_callVi (pc' := 16) (As := [vi 0]) (b := 30) (S := []) dX2_readAmount_13 rfl m_X2_97 w_X2_readSum (r_readSum X _ 0 (by omega) (by omega) rfl M2 iM2) rfl ⟨_, _, _, rfl, rfl, rfl⟩ (by decide) (by decide) rfl (Nat.le_of_ble_eq_true rfl) (fun z4 M5 q3 => ?_)
  obtain ⟨iM5, fM50, eM5_31_1, pM5⟩ := q3
  have fM5 : Fr (fun c => 30 ≤ c ∧ c ≤ 52) M M5 := Fr.tr fM2 fM50 (fun _ z => z)
  have q31_1_M5 : id (M5 31 1 = M 31 1) := eM5_31_1.trans q31_1_M2
  clear eM5_31_1
  refine g_istore_n (pc' := 17) (i := 2) (L' := [(2, vi z4), (0, vr X 30), (1, vr X c)]) dX2_readAmount_16 rfl rfl (by decide) rfl ?_
  refine g_aload_n (pc' := 18) 2 dX2_readAmount_17 rfl rfl ?_
  refine g_aload_n (pc' := 19) 1 dX2_readAmount_18 rfl rfl ?_
  refine g_getR (pc' := 22) dX2_readAmount_19 rfl f_X2_21 rfl rfl ?_
  refine g_getI (pc' := 25) dX2_readAmount_22 rfl f_X2_29 rfl rfl (fun v6 ev6 rv6 => ?_)
  have bv6 : 0 ≤ v6 ∧ v6 ≤ 400 := by rw [ev6]; exact iM5.2.2.2.1.1
  refine g_putI (pc' := 28) dX2_readAmount_25 rfl p_X2_101 (clS hc) rfl rv6 (fun M7 hM7 => ?_)
  have iM7 : IC M7 := IC.wr iM5 hM7 (by unfold okw isT; first | decide | omega)
  have fM7 : Fr (fun c => 30 ≤ c ∧ c ≤ 52) M M7 := Fr.wr fM5 hM7 (by first | decide | omega | (dsimp only; omega))
  have q31_1_M7 : id (M7 31 1 = M 31 1) := (show M7 31 1 = M5 31 1 by rw [hM7]; exact mu_ne _ _ (by first | decide | omega)).trans q31_1_M5
  refine g_iload_n (pc' := 29) 0 dX2_readAmount_28 rfl rfl ?_
  refine g_zreturn dX2_readAmount_29 (by omega) ?_
  exact ⟨iM7, fM7, q31_1_M7, by omega⟩
set_option maxHeartbeats 4000000 in
set_option maxRecDepth 100000 in
theorem c_X2_readFrom (X : Cx) (M : Mm) (hi : IC M) (c : Nat) (hc : 41 ≤ c ∧ c ≤ 52) : Con X 7 yX2_readFrom cX2_readFrom 2 (some .boolean) [vr X 30, vr X c] M (Qi (fun r M1 => IC M1 ∧ Fr (fun c => 30 ≤ c ∧ c ≤ 52) M M1 ∧ M1 31 1 = M 31 1 ∧ (r = 0 ∨ r = 1))) := by
  refine Con.ofG rfl (Nat.le_of_ble_eq_true rfl) ?_
  show G X 7 RX2 cX2_readFrom 2 (some .boolean) (Qi (fun r M1 => IC M1 ∧ Fr (fun c => 30 ≤ c ∧ c ≤ 52) M M1 ∧ M1 31 1 = M 31 1 ∧ (r = 0 ∨ r = 1))) 0 [(0, vr X 30), (1, vr X c)] [] M
  refine g_aload_n (pc' := 1) 1 dX2_readFrom_0 rfl rfl ?_
  refine g_aload_n (pc' := 2) 0 dX2_readFrom_1 rfl rfl ?_
  refine g_getR (pc' := 5) dX2_readFrom_2 rfl f_X2_12 rfl rfl ?_
  refine g_ldcS (pc' := 7) (j := 5) dX2_readFrom_5 rfl rfl ?_
  refine g_callVi (pc' := 10) (As := [vs X 5]) (b := 31) (S := [vr X c]) dX2_readFrom_7 rfl m_X2_65 w_X8_takeWord (c_X8_takeWord X M hi 5 (by decide)) rfl ⟨_, _, _, rfl, rfl, rfl⟩ (by decide) (by decide) rfl (Nat.le_of_ble_eq_true rfl) (fun z2 M3 q1 => ?_)
  obtain ⟨iM3, fM30, eM3_31_1, pM3⟩ := q1
  have fM3 : Fr (fun c => 30 ≤ c ∧ c ≤ 52) M M3 := Fr.tr Fr.rf fM30 fi_1
  have q31_1_M3 : id (M3 31 1 = M 31 1) := eM3_31_1
  clear eM3_31_1
  refine g_if_eq (pc' := 13) (tgt := 25) ⟨by omega, by omega⟩ dX2_readFrom_10 rfl rfl (fun c4 => ?_) (fun c4 => ?_)
  · refine g_iconst (pc' := 26) dX2_readFrom_25 rfl ?_
    refine g_putI (pc' := 29) dX2_readFrom_26 rfl p_X2_106 (clS hc) rfl (by decide) (fun M5 hM5 => ?_)
    have iM5 : IC M5 := IC.wr iM3 hM5 (by unfold okw isT; first | decide | omega)
    have fM5 : Fr (fun c => 30 ≤ c ∧ c ≤ 52) M M5 := Fr.wr fM3 hM5 (by first | decide | omega | (dsimp only; omega))
    have q31_1_M5 : id (M5 31 1 = M 31 1) := (show M5 31 1 = M3 31 1 by rw [hM5]; exact mu_ne _ _ (by first | decide | omega)).trans q31_1_M3
    refine g_aload_n (pc' := 30) 1 dX2_readFrom_29 rfl rfl ?_
    refine g_getI (pc' := 33) dX2_readFrom_30 rfl f_X2_106 (clS hc) rfl (fun v6 ev6 rv6 => ?_)
    refine g_iconst (pc' := 34) dX2_readFrom_33 rfl ?_
    refine g_ic_eq (pc' := 37) (tgt := 41) rv6 (by decide) dX2_readFrom_34 rfl rfl (fun c7 => ?_) (fun c7 => ?_)
    · refine g_iconst (pc' := 42) dX2_readFrom_41 rfl ?_
      refine g_zreturn dX2_readFrom_42 (by omega) ?_
      exact ⟨iM5, fM5, q31_1_M5, by omega⟩
    · refine g_iconst (pc' := 38) dX2_readFrom_37 rfl ?_
      refine g_goto (tgt := 42) dX2_readFrom_38 rfl ?_
      refine g_zreturn dX2_readFrom_42 (by omega) ?_
      exact ⟨iM5, fM5, q31_1_M5, by omega⟩
  · refine g_aload_n (pc' := 14) 0 dX2_readFrom_13 rfl rfl ?_
    refine g_getR (pc' := 17) dX2_readFrom_14 rfl f_X2_12 rfl rfl ?_
    refine g_iconst (pc' := 18) dX2_readFrom_17 rfl ?_
    refine g_iconst (pc' := 19) dX2_readFrom_18 rfl ?_
    refine g_callVi (pc' := 22) (As := [vi 0, vi 5]) (b := 31) (S := [vr X c]) dX2_readFrom_19 rfl m_X2_87 w_X8_takeNumber (c_X8_takeNumber X M3 iM3 0 (by decide) 5 (by decide)) rfl ⟨_, _, _, rfl, rfl, rfl⟩ (by decide) (by decide) rfl (Nat.le_of_ble_eq_true rfl) (fun z9 M10 q8 => ?_)
    obtain ⟨iM10, fM100, eM10_31_1, pM10⟩ := q8
    have fM10 : Fr (fun c => 30 ≤ c ∧ c ≤ 52) M M10 := Fr.tr fM3 fM100 fi_1
    have q31_1_M10 : id (M10 31 1 = M 31 1) := eM10_31_1.trans q31_1_M3
    clear eM10_31_1
    refine g_goto (tgt := 26) dX2_readFrom_22 rfl ?_
    refine g_putI (pc' := 29) dX2_readFrom_26 rfl p_X2_106 (clS hc) rfl ⟨by omega, by omega⟩ (fun M11 hM11 => ?_)
    have iM11 : IC M11 := IC.wr iM10 hM11 (by unfold okw isT; first | decide | omega)
    have fM11 : Fr (fun c => 30 ≤ c ∧ c ≤ 52) M M11 := Fr.wr fM10 hM11 (by first | decide | omega | (dsimp only; omega))
    have q31_1_M11 : id (M11 31 1 = M 31 1) := (show M11 31 1 = M10 31 1 by rw [hM11]; exact mu_ne _ _ (by first | decide | omega)).trans q31_1_M10
    refine g_aload_n (pc' := 30) 1 dX2_readFrom_29 rfl rfl ?_
    refine g_getI (pc' := 33) dX2_readFrom_30 rfl f_X2_106 (clS hc) rfl (fun v12 ev12 rv12 => ?_)
    refine g_iconst (pc' := 34) dX2_readFrom_33 rfl ?_
    refine g_ic_eq (pc' := 37) (tgt := 41) rv12 (by decide) dX2_readFrom_34 rfl rfl (fun c13 => ?_) (fun c13 => ?_)
    · refine g_iconst (pc' := 42) dX2_readFrom_41 rfl ?_
      refine g_zreturn dX2_readFrom_42 (by omega) ?_
      exact ⟨iM11, fM11, q31_1_M11, by omega⟩
    · refine g_iconst (pc' := 38) dX2_readFrom_37 rfl ?_
      refine g_goto (tgt := 42) dX2_readFrom_38 rfl ?_
      refine g_zreturn dX2_readFrom_42 (by omega) ?_
      exact ⟨iM11, fM11, q31_1_M11, by omega⟩
set_option maxHeartbeats 4000000 in
set_option maxRecDepth 100000 in
theorem c_X2_readTo (X : Cx) (M : Mm) (hi : IC M) (c : Nat) (hc : 41 ≤ c ∧ c ≤ 52) : Con X 7 yX2_readTo cX2_readTo 2 (some .boolean) [vr X 30, vr X c] M (Qi (fun r M1 => IC M1 ∧ Fr (fun c => 30 ≤ c ∧ c ≤ 52) M M1 ∧ M1 31 1 = M 31 1 ∧ (r = 0 ∨ r = 1))) := by
  refine Con.ofG rfl (Nat.le_of_ble_eq_true rfl) ?_
  show G X 7 RX2 cX2_readTo 2 (some .boolean) (Qi (fun r M1 => IC M1 ∧ Fr (fun c => 30 ≤ c ∧ c ≤ 52) M M1 ∧ M1 31 1 = M 31 1 ∧ (r = 0 ∨ r = 1))) 0 [(0, vr X 30), (1, vr X c)] [] M
  refine g_aload_n (pc' := 1) 1 dX2_readTo_0 rfl rfl ?_
  refine g_aload_n (pc' := 2) 0 dX2_readTo_1 rfl rfl ?_
  refine g_getR (pc' := 5) dX2_readTo_2 rfl f_X2_12 rfl rfl ?_
  refine g_ldcS (pc' := 7) (j := 6) dX2_readTo_5 rfl rfl ?_
  refine g_callVi (pc' := 10) (As := [vs X 6]) (b := 31) (S := [vr X c]) dX2_readTo_7 rfl m_X2_65 w_X8_takeWord (c_X8_takeWord X M hi 6 (by decide)) rfl ⟨_, _, _, rfl, rfl, rfl⟩ (by decide) (by decide) rfl (Nat.le_of_ble_eq_true rfl) (fun z2 M3 q1 => ?_)
  obtain ⟨iM3, fM30, eM3_31_1, pM3⟩ := q1
  have fM3 : Fr (fun c => 30 ≤ c ∧ c ≤ 52) M M3 := Fr.tr Fr.rf fM30 fi_1
  have q31_1_M3 : id (M3 31 1 = M 31 1) := eM3_31_1
  clear eM3_31_1
  refine g_if_eq (pc' := 13) (tgt := 25) ⟨by omega, by omega⟩ dX2_readTo_10 rfl rfl (fun c4 => ?_) (fun c4 => ?_)
  · refine g_iconst (pc' := 26) dX2_readTo_25 rfl ?_
    refine g_putI (pc' := 29) dX2_readTo_26 rfl p_X2_110 (clS hc) rfl (by decide) (fun M5 hM5 => ?_)
    have iM5 : IC M5 := IC.wr iM3 hM5 (by unfold okw isT; first | decide | omega)
    have fM5 : Fr (fun c => 30 ≤ c ∧ c ≤ 52) M M5 := Fr.wr fM3 hM5 (by first | decide | omega | (dsimp only; omega))
    have q31_1_M5 : id (M5 31 1 = M 31 1) := (show M5 31 1 = M3 31 1 by rw [hM5]; exact mu_ne _ _ (by first | decide | omega)).trans q31_1_M3
    refine g_aload_n (pc' := 30) 1 dX2_readTo_29 rfl rfl ?_
    refine g_getI (pc' := 33) dX2_readTo_30 rfl f_X2_110 (clS hc) rfl (fun v6 ev6 rv6 => ?_)
    refine g_iconst (pc' := 34) dX2_readTo_33 rfl ?_
    refine g_ic_eq (pc' := 37) (tgt := 41) rv6 (by decide) dX2_readTo_34 rfl rfl (fun c7 => ?_) (fun c7 => ?_)
    · refine g_iconst (pc' := 42) dX2_readTo_41 rfl ?_
      refine g_zreturn dX2_readTo_42 (by omega) ?_
      exact ⟨iM5, fM5, q31_1_M5, by omega⟩
    · refine g_iconst (pc' := 38) dX2_readTo_37 rfl ?_
      refine g_goto (tgt := 42) dX2_readTo_38 rfl ?_
      refine g_zreturn dX2_readTo_42 (by omega) ?_
      exact ⟨iM5, fM5, q31_1_M5, by omega⟩
  · refine g_aload_n (pc' := 14) 0 dX2_readTo_13 rfl rfl ?_
    refine g_getR (pc' := 17) dX2_readTo_14 rfl f_X2_12 rfl rfl ?_
    refine g_iconst (pc' := 18) dX2_readTo_17 rfl ?_
    refine g_iconst (pc' := 19) dX2_readTo_18 rfl ?_
    refine g_callVi (pc' := 22) (As := [vi 0, vi 5]) (b := 31) (S := [vr X c]) dX2_readTo_19 rfl m_X2_87 w_X8_takeNumber (c_X8_takeNumber X M3 iM3 0 (by decide) 5 (by decide)) rfl ⟨_, _, _, rfl, rfl, rfl⟩ (by decide) (by decide) rfl (Nat.le_of_ble_eq_true rfl) (fun z9 M10 q8 => ?_)
    obtain ⟨iM10, fM100, eM10_31_1, pM10⟩ := q8
    have fM10 : Fr (fun c => 30 ≤ c ∧ c ≤ 52) M M10 := Fr.tr fM3 fM100 fi_1
    have q31_1_M10 : id (M10 31 1 = M 31 1) := eM10_31_1.trans q31_1_M3
    clear eM10_31_1
    refine g_goto (tgt := 26) dX2_readTo_22 rfl ?_
    refine g_putI (pc' := 29) dX2_readTo_26 rfl p_X2_110 (clS hc) rfl ⟨by omega, by omega⟩ (fun M11 hM11 => ?_)
    have iM11 : IC M11 := IC.wr iM10 hM11 (by unfold okw isT; first | decide | omega)
    have fM11 : Fr (fun c => 30 ≤ c ∧ c ≤ 52) M M11 := Fr.wr fM10 hM11 (by first | decide | omega | (dsimp only; omega))
    have q31_1_M11 : id (M11 31 1 = M 31 1) := (show M11 31 1 = M10 31 1 by rw [hM11]; exact mu_ne _ _ (by first | decide | omega)).trans q31_1_M10
    refine g_aload_n (pc' := 30) 1 dX2_readTo_29 rfl rfl ?_
    refine g_getI (pc' := 33) dX2_readTo_30 rfl f_X2_110 (clS hc) rfl (fun v12 ev12 rv12 => ?_)
    refine g_iconst (pc' := 34) dX2_readTo_33 rfl ?_
    refine g_ic_eq (pc' := 37) (tgt := 41) rv12 (by decide) dX2_readTo_34 rfl rfl (fun c13 => ?_) (fun c13 => ?_)
    · refine g_iconst (pc' := 42) dX2_readTo_41 rfl ?_
      refine g_zreturn dX2_readTo_42 (by omega) ?_
      exact ⟨iM11, fM11, q31_1_M11, by omega⟩
    · refine g_iconst (pc' := 38) dX2_readTo_37 rfl ?_
      refine g_goto (tgt := 42) dX2_readTo_38 rfl ?_
      refine g_zreturn dX2_readTo_42 (by omega) ?_
      exact ⟨iM11, fM11, q31_1_M11, by omega⟩
set_option maxHeartbeats 4000000 in
set_option maxRecDepth 100000 in
theorem c_X2_readTimes (X : Cx) (M : Mm) (hi : IC M) (c : Nat) (hc : 41 ≤ c ∧ c ≤ 52) : Con X 7 yX2_readTimes cX2_readTimes 2 (some .boolean) [vr X 30, vr X c] M (Qi (fun r M1 => IC M1 ∧ Fr (fun c => 30 ≤ c ∧ c ≤ 52) M M1 ∧ M1 31 1 = M 31 1 ∧ (r = 0 ∨ r = 1))) := by
  refine Con.ofG rfl (Nat.le_of_ble_eq_true rfl) ?_
  show G X 7 RX2 cX2_readTimes 2 (some .boolean) (Qi (fun r M1 => IC M1 ∧ Fr (fun c => 30 ≤ c ∧ c ≤ 52) M M1 ∧ M1 31 1 = M 31 1 ∧ (r = 0 ∨ r = 1))) 0 [(0, vr X 30), (1, vr X c)] [] M
  refine g_aload_n (pc' := 1) 1 dX2_readTimes_0 rfl rfl ?_
  refine g_aload_n (pc' := 2) 0 dX2_readTimes_1 rfl rfl ?_
  refine g_getR (pc' := 5) dX2_readTimes_2 rfl f_X2_12 rfl rfl ?_
  refine g_ldcS (pc' := 7) (j := 9) dX2_readTimes_5 rfl rfl ?_
  refine g_callVi (pc' := 10) (As := [vs X 9]) (b := 31) (S := [vr X c]) dX2_readTimes_7 rfl m_X2_65 w_X8_takeWord (c_X8_takeWord X M hi 9 (by decide)) rfl ⟨_, _, _, rfl, rfl, rfl⟩ (by decide) (by decide) rfl (Nat.le_of_ble_eq_true rfl) (fun z2 M3 q1 => ?_)
  obtain ⟨iM3, fM30, eM3_31_1, pM3⟩ := q1
  have fM3 : Fr (fun c => 30 ≤ c ∧ c ≤ 52) M M3 := Fr.tr Fr.rf fM30 fi_1
  have q31_1_M3 : id (M3 31 1 = M 31 1) := eM3_31_1
  clear eM3_31_1
  refine g_if_eq (pc' := 13) (tgt := 26) ⟨by omega, by omega⟩ dX2_readTimes_10 rfl rfl (fun c4 => ?_) (fun c4 => ?_)
  · refine g_iconst (pc' := 27) dX2_readTimes_26 rfl ?_
    refine g_putI (pc' := 30) dX2_readTimes_27 rfl p_X2_114 (clS hc) rfl (by decide) (fun M5 hM5 => ?_)
    have iM5 : IC M5 := IC.wr iM3 hM5 (by unfold okw isT; first | decide | omega)
    have fM5 : Fr (fun c => 30 ≤ c ∧ c ≤ 52) M M5 := Fr.wr fM3 hM5 (by first | decide | omega | (dsimp only; omega))
    have q31_1_M5 : id (M5 31 1 = M 31 1) := (show M5 31 1 = M3 31 1 by rw [hM5]; exact mu_ne _ _ (by first | decide | omega)).trans q31_1_M3
    refine g_aload_n (pc' := 31) 1 dX2_readTimes_30 rfl rfl ?_
    refine g_getI (pc' := 34) dX2_readTimes_31 rfl f_X2_114 (clS hc) rfl (fun v6 ev6 rv6 => ?_)
    refine g_iconst (pc' := 35) dX2_readTimes_34 rfl ?_
    refine g_ic_eq (pc' := 38) (tgt := 42) rv6 (by decide) dX2_readTimes_35 rfl rfl (fun c7 => ?_) (fun c7 => ?_)
    · refine g_iconst (pc' := 43) dX2_readTimes_42 rfl ?_
      refine g_zreturn dX2_readTimes_43 (by omega) ?_
      exact ⟨iM5, fM5, q31_1_M5, by omega⟩
    · refine g_iconst (pc' := 39) dX2_readTimes_38 rfl ?_
      refine g_goto (tgt := 43) dX2_readTimes_39 rfl ?_
      refine g_zreturn dX2_readTimes_43 (by omega) ?_
      exact ⟨iM5, fM5, q31_1_M5, by omega⟩
  · refine g_aload_n (pc' := 14) 0 dX2_readTimes_13 rfl rfl ?_
    refine g_getR (pc' := 17) dX2_readTimes_14 rfl f_X2_12 rfl rfl ?_
    refine g_iconst (pc' := 18) dX2_readTimes_17 rfl ?_
    refine g_bipush (pc' := 20) (v := 20) dX2_readTimes_18 rfl (by decide) ?_
    refine g_callVi (pc' := 23) (As := [vi 1, vi 20]) (b := 31) (S := [vr X c]) dX2_readTimes_20 rfl m_X2_87 w_X8_takeNumber (c_X8_takeNumber X M3 iM3 1 (by decide) 20 (by decide)) rfl ⟨_, _, _, rfl, rfl, rfl⟩ (by decide) (by decide) rfl (Nat.le_of_ble_eq_true rfl) (fun z9 M10 q8 => ?_)
    obtain ⟨iM10, fM100, eM10_31_1, pM10⟩ := q8
    have fM10 : Fr (fun c => 30 ≤ c ∧ c ≤ 52) M M10 := Fr.tr fM3 fM100 fi_1
    have q31_1_M10 : id (M10 31 1 = M 31 1) := eM10_31_1.trans q31_1_M3
    clear eM10_31_1
    refine g_goto (tgt := 27) dX2_readTimes_23 rfl ?_
    refine g_putI (pc' := 30) dX2_readTimes_27 rfl p_X2_114 (clS hc) rfl ⟨by omega, by omega⟩ (fun M11 hM11 => ?_)
    have iM11 : IC M11 := IC.wr iM10 hM11 (by unfold okw isT; first | decide | omega)
    have fM11 : Fr (fun c => 30 ≤ c ∧ c ≤ 52) M M11 := Fr.wr fM10 hM11 (by first | decide | omega | (dsimp only; omega))
    have q31_1_M11 : id (M11 31 1 = M 31 1) := (show M11 31 1 = M10 31 1 by rw [hM11]; exact mu_ne _ _ (by first | decide | omega)).trans q31_1_M10
    refine g_aload_n (pc' := 31) 1 dX2_readTimes_30 rfl rfl ?_
    refine g_getI (pc' := 34) dX2_readTimes_31 rfl f_X2_114 (clS hc) rfl (fun v12 ev12 rv12 => ?_)
    refine g_iconst (pc' := 35) dX2_readTimes_34 rfl ?_
    refine g_ic_eq (pc' := 38) (tgt := 42) rv12 (by decide) dX2_readTimes_35 rfl rfl (fun c13 => ?_) (fun c13 => ?_)
    · refine g_iconst (pc' := 43) dX2_readTimes_42 rfl ?_
      refine g_zreturn dX2_readTimes_43 (by omega) ?_
      exact ⟨iM11, fM11, q31_1_M11, by omega⟩
    · refine g_iconst (pc' := 39) dX2_readTimes_38 rfl ?_
      refine g_goto (tgt := 43) dX2_readTimes_39 rfl ?_
      refine g_zreturn dX2_readTimes_43 (by omega) ?_
      exact ⟨iM11, fM11, q31_1_M11, by omega⟩
set_option maxHeartbeats 4000000 in
set_option maxRecDepth 100000 in
theorem j_X2_readIf_26 (X : Cx) (M : Mm) (hi : IC M) (c : Nat) (hc : 41 ≤ c ∧ c ≤ 52) (re : Int) (M1 : Mm) (ic1 : IC M1) (fr1 : Fr (fun c => 30 ≤ c ∧ c ≤ 52) M M1) (q31_1 : id (M1 31 1 = M 31 1)) (h2 : re = 0 ∨ re = 1) : G X 41 RX2 cX2_readIf 3 (some .boolean) (Qi (fun r M1 => IC M1 ∧ Fr (fun c => 30 ≤ c ∧ c ≤ 52) M M1 ∧ M1 31 1 = M 31 1 ∧ (r = 0 ∨ r = 1))) 26 [(2, vi re), (0, vr X 30), (1, vr X c)] [] M1 := by
  refine g_aload_n (pc' := 27) 2 dX2_readIf_26 rfl rfl ?_
  refine g_aload_n (pc' := 28) 1 dX2_readIf_27 rfl rfl ?_
  refine g_getR (pc' := 31) dX2_readIf_28 rfl f_X2_21 rfl rfl ?_
  refine g_getI (pc' := 34) dX2_readIf_31 rfl f_X2_29 rfl rfl (fun v1 ev1 rv1 => ?_)
  have bv1 : 0 ≤ v1 ∧ v1 ≤ 400 := by rw [ev1]; exact ic1.2.2.2.1.1
  refine g_putI (pc' := 37) dX2_readIf_34 rfl p_X2_121 (clS hc) rfl rv1 (fun M2 hM2 => ?_)
  have iM2 : IC M2 := IC.wr ic1 hM2 (by unfold okw isT; first | decide | omega)
  have fM2 : Fr (fun c => 30 ≤ c ∧ c ≤ 52) M M2 := Fr.wr fr1 hM2 (by first | decide | omega | (dsimp only; omega))
  have q31_1_M2 : id (M2 31 1 = M 31 1) := (show M2 31 1 = M1 31 1 by rw [hM2]; exact mu_ne _ _ (by first | decide | omega)).trans q31_1
  refine g_iload_n (pc' := 38) 0 dX2_readIf_37 rfl rfl ?_
  refine g_zreturn dX2_readIf_38 (by omega) ?_
  exact ⟨iM2, fM2, q31_1_M2, by omega⟩
set_option maxHeartbeats 4000000 in
set_option maxRecDepth 100000 in
theorem c_X2_readIf (X : Cx) (M : Mm) (hi : IC M) (c : Nat) (hc : 41 ≤ c ∧ c ≤ 52) : Con X 41 yX2_readIf cX2_readIf 3 (some .boolean) [vr X 30, vr X c] M (Qi (fun r M1 => IC M1 ∧ Fr (fun c => 30 ≤ c ∧ c ≤ 52) M M1 ∧ M1 31 1 = M 31 1 ∧ (r = 0 ∨ r = 1))) := by
  refine Con.ofG rfl (Nat.le_of_ble_eq_true rfl) ?_
  show G X 41 RX2 cX2_readIf 3 (some .boolean) (Qi (fun r M1 => IC M1 ∧ Fr (fun c => 30 ≤ c ∧ c ≤ 52) M M1 ∧ M1 31 1 = M 31 1 ∧ (r = 0 ∨ r = 1))) 0 [(0, vr X 30), (1, vr X c)] [] M
  refine g_aload_n (pc' := 1) 0 dX2_readIf_0 rfl rfl ?_
  refine g_getR (pc' := 4) dX2_readIf_1 rfl f_X2_12 rfl rfl ?_
  refine g_ldcS (pc' := 6) (j := 10) dX2_readIf_4 rfl rfl ?_
  refine g_callVi (pc' := 9) (As := [vs X 10]) (b := 31) (S := []) dX2_readIf_6 rfl m_X2_65 w_X8_takeWord (c_X8_takeWord X M hi 10 (by decide)) rfl ⟨_, _, _, rfl, rfl, rfl⟩ (by decide) (by decide) rfl (Nat.le_of_ble_eq_true rfl) (fun z2 M3 q1 => ?_)
  obtain ⟨iM3, fM30, eM3_31_1, pM3⟩ := q1
  have fM3 : Fr (fun c => 30 ≤ c ∧ c ≤ 52) M M3 := Fr.tr Fr.rf fM30 fi_1
  have q31_1_M3 : id (M3 31 1 = M 31 1) := eM3_31_1
  clear eM3_31_1
  refine g_if_eq (pc' := 12) (tgt := 20) ⟨by omega, by omega⟩ dX2_readIf_9 rfl rfl (fun c4 => ?_) (fun c4 => ?_)
  · refine g_iconst (pc' := 21) dX2_readIf_20 rfl ?_
    refine g_goto (tgt := 25) dX2_readIf_21 rfl ?_
    refine g_istore_n (pc' := 26) (i := 2) (L' := [(2, vi 1), (0, vr X 30), (1, vr X c)]) dX2_readIf_25 rfl rfl (by decide) rfl ?_
    refine g_sub [0, 1, 2] rfl ?_
    exact j_X2_readIf_26 X M hi c hc 1 M3 iM3 fM3 q31_1_M3 (by omega)
  · refine g_aload_n (pc' := 13) 0 dX2_readIf_12 rfl rfl ?_
    refine g_iconst (pc' := 14) dX2_readIf_13 rfl ?_
    refine g_callVi (pc' := 17) (As := [vi 0]) (b := 30) (S := []) dX2_readIf_14 rfl m_X2_118 w_X2_readTest (r_readTest X _ 0 (by omega) (by omega) rfl M3 iM3) rfl ⟨_, _, _, rfl, rfl, rfl⟩ (by decide) (by decide) rfl (Nat.le_of_ble_eq_true rfl) (fun z6 M7 q5 => ?_)
    obtain ⟨iM7, fM70, eM7_31_1, pM7⟩ := q5
    have fM7 : Fr (fun c => 30 ≤ c ∧ c ≤ 52) M M7 := Fr.tr fM3 fM70 (fun _ z => z)
    have q31_1_M7 : id (M7 31 1 = M 31 1) := eM7_31_1.trans q31_1_M3
    clear eM7_31_1
    refine g_if_eq (pc' := 20) (tgt := 24) ⟨by omega, by omega⟩ dX2_readIf_17 rfl rfl (fun c8 => ?_) (fun c8 => ?_)
    · refine g_iconst (pc' := 25) dX2_readIf_24 rfl ?_
      refine g_istore_n (pc' := 26) (i := 2) (L' := [(2, vi 0), (0, vr X 30), (1, vr X c)]) dX2_readIf_25 rfl rfl (by decide) rfl ?_
      refine g_sub [0, 1, 2] rfl ?_
      exact j_X2_readIf_26 X M hi c hc 0 M7 iM7 fM7 q31_1_M7 (by omega)
    · refine g_iconst (pc' := 21) dX2_readIf_20 rfl ?_
      refine g_goto (tgt := 25) dX2_readIf_21 rfl ?_
      refine g_istore_n (pc' := 26) (i := 2) (L' := [(2, vi 1), (0, vr X 30), (1, vr X c)]) dX2_readIf_25 rfl rfl (by decide) rfl ?_
      refine g_sub [0, 1, 2] rfl ?_
      exact j_X2_readIf_26 X M hi c hc 1 M7 iM7 fM7 q31_1_M7 (by omega)
set_option maxHeartbeats 4000000 in
set_option maxRecDepth 100000 in
theorem c_X2_readMove (X : Cx) (M : Mm) (hi : IC M) (c : Nat) (hc : 41 ≤ c ∧ c ≤ 52) : Con X 38 yX2_readMove cX2_readMove 2 (some .boolean) [vr X 30, vr X c] M (Qi (fun r M1 => IC M1 ∧ Fr (fun c => 30 ≤ c ∧ c ≤ 52) M M1 ∧ M1 31 1 = M 31 1 ∧ (r = 0 ∨ r = 1))) := by
  refine Con.ofG rfl (Nat.le_of_ble_eq_true rfl) ?_
  show G X 38 RX2 cX2_readMove 2 (some .boolean) (Qi (fun r M1 => IC M1 ∧ Fr (fun c => 30 ≤ c ∧ c ≤ 52) M M1 ∧ M1 31 1 = M 31 1 ∧ (r = 0 ∨ r = 1))) 0 [(0, vr X 30), (1, vr X c)] [] M
  refine g_aload_n (pc' := 1) 0 dX2_readMove_0 rfl rfl ?_
  refine g_getR (pc' := 4) dX2_readMove_1 rfl f_X2_12 rfl rfl ?_
  refine g_ldcS (pc' := 6) (j := 0) dX2_readMove_4 rfl rfl ?_
  refine g_callVi (pc' := 9) (As := [vs X 0]) (b := 31) (S := []) dX2_readMove_6 rfl m_X2_65 w_X8_takeWord (c_X8_takeWord X M hi 0 (by decide)) rfl ⟨_, _, _, rfl, rfl, rfl⟩ (by decide) (by decide) rfl (Nat.le_of_ble_eq_true rfl) (fun z2 M3 q1 => ?_)
  obtain ⟨iM3, fM30, eM3_31_1, pM3⟩ := q1
  have fM3 : Fr (fun c => 30 ≤ c ∧ c ≤ 52) M M3 := Fr.tr Fr.rf fM30 fi_1
  have q31_1_M3 : id (M3 31 1 = M 31 1) := eM3_31_1
  clear eM3_31_1
  refine g_if_eq (pc' := 12) (tgt := 47) ⟨by omega, by omega⟩ dX2_readMove_9 rfl rfl (fun c4 => ?_) (fun c4 => ?_)
  · refine g_aload_n (pc' := 48) 0 dX2_readMove_47 rfl rfl ?_
    refine g_getR (pc' := 51) dX2_readMove_48 rfl f_X2_12 rfl rfl ?_
    refine g_ldcS (pc' := 53) (j := 7) dX2_readMove_51 rfl rfl ?_
    refine g_callVi (pc' := 56) (As := [vs X 7]) (b := 31) (S := []) dX2_readMove_53 rfl m_X2_65 w_X8_takeWord (c_X8_takeWord X M3 iM3 7 (by decide)) rfl ⟨_, _, _, rfl, rfl, rfl⟩ (by decide) (by decide) rfl (Nat.le_of_ble_eq_true rfl) (fun z6 M7 q5 => ?_)
    obtain ⟨iM7, fM70, eM7_31_1, pM7⟩ := q5
    have fM7 : Fr (fun c => 30 ≤ c ∧ c ≤ 52) M M7 := Fr.tr fM3 fM70 fi_1
    have q31_1_M7 : id (M7 31 1 = M 31 1) := eM7_31_1.trans q31_1_M3
    clear eM7_31_1
    refine g_if_eq (pc' := 59) (tgt := 86) ⟨by omega, by omega⟩ dX2_readMove_56 rfl rfl (fun c8 => ?_) (fun c8 => ?_)
    · refine g_aload_n (pc' := 87) 0 dX2_readMove_86 rfl rfl ?_
      refine g_getR (pc' := 90) dX2_readMove_87 rfl f_X2_12 rfl rfl ?_
      refine g_ldcS (pc' := 92) (j := 8) dX2_readMove_90 rfl rfl ?_
      refine g_callVi (pc' := 95) (As := [vs X 8]) (b := 31) (S := []) dX2_readMove_92 rfl m_X2_65 w_X8_takeWord (c_X8_takeWord X M7 iM7 8 (by decide)) rfl ⟨_, _, _, rfl, rfl, rfl⟩ (by decide) (by decide) rfl (Nat.le_of_ble_eq_true rfl) (fun z10 M11 q9 => ?_)
      obtain ⟨iM11, fM110, eM11_31_1, pM11⟩ := q9
      have fM11 : Fr (fun c => 30 ≤ c ∧ c ≤ 52) M M11 := Fr.tr fM7 fM110 fi_1
      have q31_1_M11 : id (M11 31 1 = M 31 1) := eM11_31_1.trans q31_1_M7
      clear eM11_31_1
      refine g_if_eq (pc' := 98) (tgt := 146) ⟨by omega, by omega⟩ dX2_readMove_95 rfl rfl (fun c12 => ?_) (fun c12 => ?_)
      · refine g_iconst (pc' := 147) dX2_readMove_146 rfl ?_
        refine g_zreturn dX2_readMove_147 (by omega) ?_
        exact ⟨iM11, fM11, q31_1_M11, by omega⟩
      · refine g_aload_n (pc' := 99) 1 dX2_readMove_98 rfl rfl ?_
        refine g_iconst (pc' := 100) dX2_readMove_99 rfl ?_
        refine g_putI (pc' := 103) dX2_readMove_100 rfl p_X2_69 (clS hc) rfl (by decide) (fun M13 hM13 => ?_)
        have iM13 : IC M13 := IC.wr iM11 hM13 (by unfold okw isT; first | decide | omega)
        have fM13 : Fr (fun c => 30 ≤ c ∧ c ≤ 52) M M13 := Fr.wr fM11 hM13 (by first | decide | omega | (dsimp only; omega))
        have q31_1_M13 : id (M13 31 1 = M 31 1) := (show M13 31 1 = M11 31 1 by rw [hM13]; exact mu_ne _ _ (by first | decide | omega)).trans q31_1_M11
        refine g_aload_n (pc' := 104) 1 dX2_readMove_103 rfl rfl ?_
        refine g_aload_n (pc' := 105) 0 dX2_readMove_104 rfl rfl ?_
        refine g_getR (pc' := 108) dX2_readMove_105 rfl f_X2_12 rfl rfl ?_
        refine g_iconst (pc' := 109) dX2_readMove_108 rfl ?_
        refine g_iconst (pc' := 110) dX2_readMove_109 rfl ?_
        refine g_callVi (pc' := 113) (As := [vi 0, vi 3]) (b := 31) (S := [vr X c]) dX2_readMove_110 rfl m_X2_87 w_X8_takeNumber (c_X8_takeNumber X M13 iM13 0 (by decide) 3 (by decide)) rfl ⟨_, _, _, rfl, rfl, rfl⟩ (by decide) (by decide) rfl (Nat.le_of_ble_eq_true rfl) (fun z15 M16 q14 => ?_)
        obtain ⟨iM16, fM160, eM16_31_1, pM16⟩ := q14
        have fM16 : Fr (fun c => 30 ≤ c ∧ c ≤ 52) M M16 := Fr.tr fM13 fM160 fi_1
        have q31_1_M16 : id (M16 31 1 = M 31 1) := eM16_31_1.trans q31_1_M13
        clear eM16_31_1
        refine g_putI (pc' := 116) dX2_readMove_113 rfl p_X2_91 (clS hc) rfl ⟨by omega, by omega⟩ (fun M17 hM17 => ?_)
        have iM17 : IC M17 := IC.wr iM16 hM17 (by unfold okw isT; first | decide | omega)
        have fM17 : Fr (fun c => 30 ≤ c ∧ c ≤ 52) M M17 := Fr.wr fM16 hM17 (by first | decide | omega | (dsimp only; omega))
        have q31_1_M17 : id (M17 31 1 = M 31 1) := (show M17 31 1 = M16 31 1 by rw [hM17]; exact mu_ne _ _ (by first | decide | omega)).trans q31_1_M16
        refine g_aload_n (pc' := 117) 1 dX2_readMove_116 rfl rfl ?_
        refine g_getI (pc' := 120) dX2_readMove_117 rfl f_X2_91 (clS hc) rfl (fun v18 ev18 rv18 => ?_)
        refine g_iconst (pc' := 121) dX2_readMove_120 rfl ?_
        refine g_ic_eq (pc' := 124) (tgt := 144) rv18 (by decide) dX2_readMove_121 rfl rfl (fun c19 => ?_) (fun c19 => ?_)
        · refine g_iconst (pc' := 145) dX2_readMove_144 rfl ?_
          refine g_zreturn dX2_readMove_145 (by omega) ?_
          exact ⟨iM17, fM17, q31_1_M17, by omega⟩
        · refine g_aload_n (pc' := 125) 0 dX2_readMove_124 rfl rfl ?_
          refine g_aload_n (pc' := 126) 1 dX2_readMove_125 rfl rfl ?_
          refine g_callVi (pc' := 129) (As := [vr X c]) (b := 30) (S := []) dX2_readMove_126 rfl m_X2_74 w_X2_readAmount (c_X2_readAmount X M17 iM17 c hc) rfl ⟨_, _, _, rfl, rfl, rfl⟩ (by decide) (by decide) rfl (Nat.le_of_ble_eq_true rfl) (fun z21 M22 q20 => ?_)
          obtain ⟨iM22, fM220, eM22_31_1, pM22⟩ := q20
          have fM22 : Fr (fun c => 30 ≤ c ∧ c ≤ 52) M M22 := Fr.tr fM17 fM220 (fun _ z => z)
          have q31_1_M22 : id (M22 31 1 = M 31 1) := eM22_31_1.trans q31_1_M17
          clear eM22_31_1
          refine g_if_eq (pc' := 132) (tgt := 144) ⟨by omega, by omega⟩ dX2_readMove_129 rfl rfl (fun c23 => ?_) (fun c23 => ?_)
          · refine g_iconst (pc' := 145) dX2_readMove_144 rfl ?_
            refine g_zreturn dX2_readMove_145 (by omega) ?_
            exact ⟨iM22, fM22, q31_1_M22, by omega⟩
          · refine g_aload_n (pc' := 133) 0 dX2_readMove_132 rfl rfl ?_
            refine g_aload_n (pc' := 134) 1 dX2_readMove_133 rfl rfl ?_
            refine g_callVi (pc' := 137) (As := [vr X c]) (b := 30) (S := []) dX2_readMove_134 rfl m_X2_80 w_X2_readTo (c_X2_readTo X M22 iM22 c hc) rfl ⟨_, _, _, rfl, rfl, rfl⟩ (by decide) (by decide) rfl (Nat.le_of_ble_eq_true rfl) (fun z25 M26 q24 => ?_)
            obtain ⟨iM26, fM260, eM26_31_1, pM26⟩ := q24
            have fM26 : Fr (fun c => 30 ≤ c ∧ c ≤ 52) M M26 := Fr.tr fM22 fM260 (fun _ z => z)
            have q31_1_M26 : id (M26 31 1 = M 31 1) := eM26_31_1.trans q31_1_M22
            clear eM26_31_1
            refine g_if_eq (pc' := 140) (tgt := 144) ⟨by omega, by omega⟩ dX2_readMove_137 rfl rfl (fun c27 => ?_) (fun c27 => ?_)
            · refine g_iconst (pc' := 145) dX2_readMove_144 rfl ?_
              refine g_zreturn dX2_readMove_145 (by omega) ?_
              exact ⟨iM26, fM26, q31_1_M26, by omega⟩
            · refine g_iconst (pc' := 141) dX2_readMove_140 rfl ?_
              refine g_goto (tgt := 145) dX2_readMove_141 rfl ?_
              refine g_zreturn dX2_readMove_145 (by omega) ?_
              exact ⟨iM26, fM26, q31_1_M26, by omega⟩
    · refine g_aload_n (pc' := 60) 1 dX2_readMove_59 rfl rfl ?_
      refine g_iconst (pc' := 61) dX2_readMove_60 rfl ?_
      refine g_putI (pc' := 64) dX2_readMove_61 rfl p_X2_69 (clS hc) rfl (by decide) (fun M28 hM28 => ?_)
      have iM28 : IC M28 := IC.wr iM7 hM28 (by unfold okw isT; first | decide | omega)
      have fM28 : Fr (fun c => 30 ≤ c ∧ c ≤ 52) M M28 := Fr.wr fM7 hM28 (by first | decide | omega | (dsimp only; omega))
      have q31_1_M28 : id (M28 31 1 = M 31 1) := (show M28 31 1 = M7 31 1 by rw [hM28]; exact mu_ne _ _ (by first | decide | omega)).trans q31_1_M7
      refine g_aload_n (pc' := 65) 0 dX2_readMove_64 rfl rfl ?_
      refine g_aload_n (pc' := 66) 1 dX2_readMove_65 rfl rfl ?_
      refine g_callVi (pc' := 69) (As := [vr X c]) (b := 30) (S := []) dX2_readMove_66 rfl m_X2_74 w_X2_readAmount (c_X2_readAmount X M28 iM28 c hc) rfl ⟨_, _, _, rfl, rfl, rfl⟩ (by decide) (by decide) rfl (Nat.le_of_ble_eq_true rfl) (fun z30 M31 q29 => ?_)
      obtain ⟨iM31, fM310, eM31_31_1, pM31⟩ := q29
      have fM31 : Fr (fun c => 30 ≤ c ∧ c ≤ 52) M M31 := Fr.tr fM28 fM310 (fun _ z => z)
      have q31_1_M31 : id (M31 31 1 = M 31 1) := eM31_31_1.trans q31_1_M28
      clear eM31_31_1
      refine g_if_eq (pc' := 72) (tgt := 84) ⟨by omega, by omega⟩ dX2_readMove_69 rfl rfl (fun c32 => ?_) (fun c32 => ?_)
      · refine g_iconst (pc' := 85) dX2_readMove_84 rfl ?_
        refine g_zreturn dX2_readMove_85 (by omega) ?_
        exact ⟨iM31, fM31, q31_1_M31, by omega⟩
      · refine g_aload_n (pc' := 73) 0 dX2_readMove_72 rfl rfl ?_
        refine g_aload_n (pc' := 74) 1 dX2_readMove_73 rfl rfl ?_
        refine g_callVi (pc' := 77) (As := [vr X c]) (b := 30) (S := []) dX2_readMove_74 rfl m_X2_77 w_X2_readFrom (c_X2_readFrom X M31 iM31 c hc) rfl ⟨_, _, _, rfl, rfl, rfl⟩ (by decide) (by decide) rfl (Nat.le_of_ble_eq_true rfl) (fun z34 M35 q33 => ?_)
        obtain ⟨iM35, fM350, eM35_31_1, pM35⟩ := q33
        have fM35 : Fr (fun c => 30 ≤ c ∧ c ≤ 52) M M35 := Fr.tr fM31 fM350 (fun _ z => z)
        have q31_1_M35 : id (M35 31 1 = M 31 1) := eM35_31_1.trans q31_1_M31
        clear eM35_31_1
        refine g_if_eq (pc' := 80) (tgt := 84) ⟨by omega, by omega⟩ dX2_readMove_77 rfl rfl (fun c36 => ?_) (fun c36 => ?_)
        · refine g_iconst (pc' := 85) dX2_readMove_84 rfl ?_
          refine g_zreturn dX2_readMove_85 (by omega) ?_
          exact ⟨iM35, fM35, q31_1_M35, by omega⟩
        · refine g_iconst (pc' := 81) dX2_readMove_80 rfl ?_
          refine g_goto (tgt := 85) dX2_readMove_81 rfl ?_
          refine g_zreturn dX2_readMove_85 (by omega) ?_
          exact ⟨iM35, fM35, q31_1_M35, by omega⟩
  · refine g_aload_n (pc' := 13) 1 dX2_readMove_12 rfl rfl ?_
    refine g_iconst (pc' := 14) dX2_readMove_13 rfl ?_
    refine g_putI (pc' := 17) dX2_readMove_14 rfl p_X2_69 (clS hc) rfl (by decide) (fun M37 hM37 => ?_)
    have iM37 : IC M37 := IC.wr iM3 hM37 (by unfold okw isT; first | decide | omega)
    have fM37 : Fr (fun c => 30 ≤ c ∧ c ≤ 52) M M37 := Fr.wr fM3 hM37 (by first | decide | omega | (dsimp only; omega))
    have q31_1_M37 : id (M37 31 1 = M 31 1) := (show M37 31 1 = M3 31 1 by rw [hM37]; exact mu_ne _ _ (by first | decide | omega)).trans q31_1_M3
    refine g_aload_n (pc' := 18) 0 dX2_readMove_17 rfl rfl ?_
    refine g_aload_n (pc' := 19) 1 dX2_readMove_18 rfl rfl ?_
    refine g_callVi (pc' := 22) (As := [vr X c]) (b := 30) (S := []) dX2_readMove_19 rfl m_X2_74 w_X2_readAmount (c_X2_readAmount X M37 iM37 c hc) rfl ⟨_, _, _, rfl, rfl, rfl⟩ (by decide) (by decide) rfl (Nat.le_of_ble_eq_true rfl) (fun z39 M40 q38 => ?_)
    obtain ⟨iM40, fM400, eM40_31_1, pM40⟩ := q38
    have fM40 : Fr (fun c => 30 ≤ c ∧ c ≤ 52) M M40 := Fr.tr fM37 fM400 (fun _ z => z)
    have q31_1_M40 : id (M40 31 1 = M 31 1) := eM40_31_1.trans q31_1_M37
    clear eM40_31_1
    refine g_if_eq (pc' := 25) (tgt := 45) ⟨by omega, by omega⟩ dX2_readMove_22 rfl rfl (fun c41 => ?_) (fun c41 => ?_)
    · refine g_iconst (pc' := 46) dX2_readMove_45 rfl ?_
      refine g_zreturn dX2_readMove_46 (by omega) ?_
      exact ⟨iM40, fM40, q31_1_M40, by omega⟩
    · refine g_aload_n (pc' := 26) 0 dX2_readMove_25 rfl rfl ?_
      refine g_aload_n (pc' := 27) 1 dX2_readMove_26 rfl rfl ?_
      refine g_callVi (pc' := 30) (As := [vr X c]) (b := 30) (S := []) dX2_readMove_27 rfl m_X2_77 w_X2_readFrom (c_X2_readFrom X M40 iM40 c hc) rfl ⟨_, _, _, rfl, rfl, rfl⟩ (by decide) (by decide) rfl (Nat.le_of_ble_eq_true rfl) (fun z43 M44 q42 => ?_)
      obtain ⟨iM44, fM440, eM44_31_1, pM44⟩ := q42
      have fM44 : Fr (fun c => 30 ≤ c ∧ c ≤ 52) M M44 := Fr.tr fM40 fM440 (fun _ z => z)
      have q31_1_M44 : id (M44 31 1 = M 31 1) := eM44_31_1.trans q31_1_M40
      clear eM44_31_1
      refine g_if_eq (pc' := 33) (tgt := 45) ⟨by omega, by omega⟩ dX2_readMove_30 rfl rfl (fun c45 => ?_) (fun c45 => ?_)
      · refine g_iconst (pc' := 46) dX2_readMove_45 rfl ?_
        refine g_zreturn dX2_readMove_46 (by omega) ?_
        exact ⟨iM44, fM44, q31_1_M44, by omega⟩
      · refine g_aload_n (pc' := 34) 0 dX2_readMove_33 rfl rfl ?_
        refine g_aload_n (pc' := 35) 1 dX2_readMove_34 rfl rfl ?_
        refine g_callVi (pc' := 38) (As := [vr X c]) (b := 30) (S := []) dX2_readMove_35 rfl m_X2_80 w_X2_readTo (c_X2_readTo X M44 iM44 c hc) rfl ⟨_, _, _, rfl, rfl, rfl⟩ (by decide) (by decide) rfl (Nat.le_of_ble_eq_true rfl) (fun z47 M48 q46 => ?_)
        obtain ⟨iM48, fM480, eM48_31_1, pM48⟩ := q46
        have fM48 : Fr (fun c => 30 ≤ c ∧ c ≤ 52) M M48 := Fr.tr fM44 fM480 (fun _ z => z)
        have q31_1_M48 : id (M48 31 1 = M 31 1) := eM48_31_1.trans q31_1_M44
        clear eM48_31_1
        refine g_if_eq (pc' := 41) (tgt := 45) ⟨by omega, by omega⟩ dX2_readMove_38 rfl rfl (fun c49 => ?_) (fun c49 => ?_)
        · refine g_iconst (pc' := 46) dX2_readMove_45 rfl ?_
          refine g_zreturn dX2_readMove_46 (by omega) ?_
          exact ⟨iM48, fM48, q31_1_M48, by omega⟩
        · refine g_iconst (pc' := 42) dX2_readMove_41 rfl ?_
          refine g_goto (tgt := 46) dX2_readMove_42 rfl ?_
          refine g_zreturn dX2_readMove_46 (by omega) ?_
          exact ⟨iM48, fM48, q31_1_M48, by omega⟩
set_option maxHeartbeats 4000000 in
set_option maxRecDepth 100000 in
theorem c_X2_readClause (X : Cx) (M : Mm) (hi : IC M) (c : Nat) (hc : 41 ≤ c ∧ c ≤ 52) : Con X 42 yX2_readClause cX2_readClause 2 (some .boolean) [vr X 30, vr X c] M (Qi (fun r M1 => IC M1 ∧ Fr (fun c => 30 ≤ c ∧ c ≤ 52) M M1 ∧ M1 31 1 = M 31 1 ∧ (r = 0 ∨ r = 1))) := by
  refine Con.ofG rfl (Nat.le_of_ble_eq_true rfl) ?_
  show G X 42 RX2 cX2_readClause 2 (some .boolean) (Qi (fun r M1 => IC M1 ∧ Fr (fun c => 30 ≤ c ∧ c ≤ 52) M M1 ∧ M1 31 1 = M 31 1 ∧ (r = 0 ∨ r = 1))) 0 [(0, vr X 30), (1, vr X c)] [] M
  refine g_aload_n (pc' := 1) 0 dX2_readClause_0 rfl rfl ?_
  refine g_aload_n (pc' := 2) 1 dX2_readClause_1 rfl rfl ?_
  refine g_callVi (pc' := 5) (As := [vr X c]) (b := 30) (S := []) dX2_readClause_2 rfl m_X2_54 w_X2_readMove (c_X2_readMove X M hi c hc) rfl ⟨_, _, _, rfl, rfl, rfl⟩ (by decide) (by decide) rfl (Nat.le_of_ble_eq_true rfl) (fun z2 M3 q1 => ?_)
  obtain ⟨iM3, fM30, eM3_31_1, pM3⟩ := q1
  have fM3 : Fr (fun c => 30 ≤ c ∧ c ≤ 52) M M3 := Fr.tr Fr.rf fM30 (fun _ z => z)
  have q31_1_M3 : id (M3 31 1 = M 31 1) := eM3_31_1
  clear eM3_31_1
  refine g_if_eq (pc' := 8) (tgt := 28) ⟨by omega, by omega⟩ dX2_readClause_5 rfl rfl (fun c4 => ?_) (fun c4 => ?_)
  · refine g_iconst (pc' := 29) dX2_readClause_28 rfl ?_
    refine g_zreturn dX2_readClause_29 (by omega) ?_
    exact ⟨iM3, fM3, q31_1_M3, by omega⟩
  · refine g_aload_n (pc' := 9) 0 dX2_readClause_8 rfl rfl ?_
    refine g_aload_n (pc' := 10) 1 dX2_readClause_9 rfl rfl ?_
    refine g_callVi (pc' := 13) (As := [vr X c]) (b := 30) (S := []) dX2_readClause_10 rfl m_X2_57 w_X2_readTimes (c_X2_readTimes X M3 iM3 c hc) rfl ⟨_, _, _, rfl, rfl, rfl⟩ (by decide) (by decide) rfl (Nat.le_of_ble_eq_true rfl) (fun z6 M7 q5 => ?_)
    obtain ⟨iM7, fM70, eM7_31_1, pM7⟩ := q5
    have fM7 : Fr (fun c => 30 ≤ c ∧ c ≤ 52) M M7 := Fr.tr fM3 fM70 (fun _ z => z)
    have q31_1_M7 : id (M7 31 1 = M 31 1) := eM7_31_1.trans q31_1_M3
    clear eM7_31_1
    refine g_if_eq (pc' := 16) (tgt := 28) ⟨by omega, by omega⟩ dX2_readClause_13 rfl rfl (fun c8 => ?_) (fun c8 => ?_)
    · refine g_iconst (pc' := 29) dX2_readClause_28 rfl ?_
      refine g_zreturn dX2_readClause_29 (by omega) ?_
      exact ⟨iM7, fM7, q31_1_M7, by omega⟩
    · refine g_aload_n (pc' := 17) 0 dX2_readClause_16 rfl rfl ?_
      refine g_aload_n (pc' := 18) 1 dX2_readClause_17 rfl rfl ?_
      refine g_callVi (pc' := 21) (As := [vr X c]) (b := 30) (S := []) dX2_readClause_18 rfl m_X2_60 w_X2_readIf (c_X2_readIf X M7 iM7 c hc) rfl ⟨_, _, _, rfl, rfl, rfl⟩ (by decide) (by decide) rfl (Nat.le_of_ble_eq_true rfl) (fun z10 M11 q9 => ?_)
      obtain ⟨iM11, fM110, eM11_31_1, pM11⟩ := q9
      have fM11 : Fr (fun c => 30 ≤ c ∧ c ≤ 52) M M11 := Fr.tr fM7 fM110 (fun _ z => z)
      have q31_1_M11 : id (M11 31 1 = M 31 1) := eM11_31_1.trans q31_1_M7
      clear eM11_31_1
      refine g_if_eq (pc' := 24) (tgt := 28) ⟨by omega, by omega⟩ dX2_readClause_21 rfl rfl (fun c12 => ?_) (fun c12 => ?_)
      · refine g_iconst (pc' := 29) dX2_readClause_28 rfl ?_
        refine g_zreturn dX2_readClause_29 (by omega) ?_
        exact ⟨iM11, fM11, q31_1_M11, by omega⟩
      · refine g_iconst (pc' := 25) dX2_readClause_24 rfl ?_
        refine g_goto (tgt := 29) dX2_readClause_25 rfl ?_
        refine g_zreturn dX2_readClause_29 (by omega) ?_
        exact ⟨iM11, fM11, q31_1_M11, by omega⟩
set_option maxHeartbeats 4000000 in
set_option maxRecDepth 100000 in
theorem l_X2_readText_22 (X : Cx) (M : Mm) (hi : IC M) : ∀ (kk : Nat) (i : Int) (M1 : Mm) (ic1 : IC M1) (fr1 : Fr (fun c => 30 ≤ c ∧ c ≤ 52) M M1) (q31_1 : id (M1 31 1 = M 31 1)) (h0 : 0 ≤ i) (h1 : i ≤ 12), (12 - i).toNat = kk → G X 43 RX2 cX2_readText 2 (some .boolean) (Qi (fun r M1 => IC M1 ∧ Fr (fun c => 30 ≤ c ∧ c ≤ 52) M M1 ∧ M1 31 1 = M 31 1 ∧ (r = 0 ∨ r = 1))) 22 [(1, vi i), (0, vr X 30)] [] M1 := by
  intro kk
  induction kk using Nat.strongRecOn with
  | ind kk ih =>
    intro i M1 ic1 fr1 q31_1 h0 h1 hmes
    refine g_iload_n (pc' := 23) 0 dX2_readText_22 rfl rfl ?_
    refine g_bipush (pc' := 25) (v := 12) dX2_readText_23 rfl (by decide) ?_
    refine g_ic_ge (pc' := 28) (tgt := 88) ⟨by omega, by omega⟩ (by decide) dX2_readText_25 rfl rfl (fun c1 => ?_) (fun c1 => ?_)
    · refine g_iconst (pc' := 89) dX2_readText_88 rfl ?_
      refine g_zreturn dX2_readText_89 (by omega) ?_
      exact ⟨ic1, fr1, q31_1, by omega⟩
    · refine g_aload_n (pc' := 29) 1 dX2_readText_28 rfl rfl ?_
      refine g_getR (pc' := 32) dX2_readText_29 rfl f_X2_21 rfl rfl ?_
      refine g_iload_n (pc' := 33) 0 dX2_readText_32 rfl rfl ?_
      refine g_iconst (pc' := 34) dX2_readText_33 rfl ?_
      refine g_iadd (pc' := 35) dX2_readText_34 rfl ?_
      refine g_putI (pc' := 38) dX2_readText_35 rfl p_X2_35 rfl rfl ⟨by omega, by omega⟩ (fun M2 hM2 => ?_)
      have iM2 : IC M2 := IC.wr ic1 hM2 (by unfold okw isT; first | decide | omega)
      have fM2 : Fr (fun c => 30 ≤ c ∧ c ≤ 52) M M2 := Fr.wr fr1 hM2 (by first | decide | omega | (dsimp only; omega))
      have q31_1_M2 : id (M2 31 1 = M 31 1) := (show M2 31 1 = M1 31 1 by rw [hM2]; exact mu_ne _ _ (by first | decide | omega)).trans q31_1
      have xM2_37_1 : M2 37 1 = i + 1 := by rw [hM2]; exact mu_at _ _ _ _
      refine g_aload_n (pc' := 39) 1 dX2_readText_38 rfl rfl ?_
      refine g_aload_n (pc' := 40) 1 dX2_readText_39 rfl rfl ?_
      refine g_getR (pc' := 43) dX2_readText_40 rfl f_X2_21 rfl rfl ?_
      refine g_getR (pc' := 46) dX2_readText_43 rfl f_X2_38 rfl rfl ?_
      refine g_iload_n (pc' := 47) 0 dX2_readText_46 rfl rfl ?_
      refine g_aald (pc' := 48) (t := 1) (C := RX0) dX2_readText_47 rfl rfl (fun _ => rfl) (by omega) (by omega) ?_
      obtain ⟨k3, ek3⟩ : ∃ z : Nat, z = ([41, 42, 43, 44, 45, 46, 47, 48, 49, 50, 51, 52] : List Nat).getD i.toNat 0 := ⟨_, rfl⟩
      rw [← ek3]
      have hk3 : 41 ≤ k3 ∧ k3 ≤ 52 := by rw [ek3]; exact clD i.toNat (by omega)
      refine g_callVi (pc' := 51) (As := [vr X k3]) (b := 30) (S := []) dX2_readText_48 rfl m_X2_42 w_X2_readClause (c_X2_readClause X M2 iM2 k3 hk3) rfl ⟨_, _, _, rfl, rfl, rfl⟩ (by decide) (by decide) rfl (Nat.le_of_ble_eq_true rfl) (fun z5 M6 q4 => ?_)
      obtain ⟨iM6, fM60, eM6_31_1, pM6⟩ := q4
      have fM6 : Fr (fun c => 30 ≤ c ∧ c ≤ 52) M M6 := Fr.tr fM2 fM60 (fun _ z => z)
      have q31_1_M6 : id (M6 31 1 = M 31 1) := eM6_31_1.trans q31_1_M2
      clear eM6_31_1
      refine g_if_ne (pc' := 54) (tgt := 56) ⟨by omega, by omega⟩ dX2_readText_51 rfl rfl (fun c7 => ?_) (fun c7 => ?_)
      · refine g_aload_n (pc' := 57) 1 dX2_readText_56 rfl rfl ?_
        refine g_getR (pc' := 60) dX2_readText_57 rfl f_X2_12 rfl rfl ?_
        refine g_callVip (pc' := 63) (As := []) (b := 31) (S := []) dX2_readText_60 rfl m_X2_46 w_X8_isEnd (c_X8_isEnd X M6 iM6) rfl ⟨_, _, _, rfl, rfl, rfl⟩ (by decide) (by decide) rfl (Nat.le_of_ble_eq_true rfl) (fun z9 q8 => ?_)
        refine g_if_eq (pc' := 66) (tgt := 68) ⟨by omega, by omega⟩ dX2_readText_63 rfl rfl (fun c10 => ?_) (fun c10 => ?_)
        · refine g_aload_n (pc' := 69) 1 dX2_readText_68 rfl rfl ?_
          refine g_getR (pc' := 72) dX2_readText_69 rfl f_X2_12 rfl rfl ?_
          refine g_bipush (pc' := 74) (v := 59) dX2_readText_72 rfl (by decide) ?_
          refine g_callVi (pc' := 77) (As := [vi 59]) (b := 31) (S := []) dX2_readText_74 rfl m_X2_50 w_X8_takeSign (c_X8_takeSign X M6 iM6 59 (by decide)) rfl ⟨_, _, _, rfl, rfl, rfl⟩ (by decide) (by decide) rfl (Nat.le_of_ble_eq_true rfl) (fun z12 M13 q11 => ?_)
          obtain ⟨iM13, fM130, eM13_31_1, pM13⟩ := q11
          have fM13 : Fr (fun c => 30 ≤ c ∧ c ≤ 52) M M13 := Fr.tr fM6 fM130 fi_1
          have q31_1_M13 : id (M13 31 1 = M 31 1) := eM13_31_1.trans q31_1_M6
          clear eM13_31_1
          refine g_if_ne (pc' := 80) (tgt := 82) ⟨by omega, by omega⟩ dX2_readText_77 rfl rfl (fun c14 => ?_) (fun c14 => ?_)
          · refine g_iinc (pc' := 85) (L' := [(1, vi (i + 1)), (0, vr X 30)]) 0 dX2_readText_82 rfl rfl (by decide) rfl ?_
            refine g_goto (tgt := 22) dX2_readText_85 rfl ?_
            refine g_sub [0, 1] rfl ?_
            exact ih _ (by omega) (i + 1) M13 iM13 fM13 q31_1_M13 (by omega) (by omega) rfl
          · refine g_iconst (pc' := 81) dX2_readText_80 rfl ?_
            refine g_zreturn dX2_readText_81 (by omega) ?_
            exact ⟨iM13, fM13, q31_1_M13, by omega⟩
        · refine g_iconst (pc' := 67) dX2_readText_66 rfl ?_
          refine g_zreturn dX2_readText_67 (by omega) ?_
          exact ⟨iM6, fM6, q31_1_M6, by omega⟩
      · refine g_iconst (pc' := 55) dX2_readText_54 rfl ?_
        refine g_zreturn dX2_readText_55 (by omega) ?_
        exact ⟨iM6, fM6, q31_1_M6, by omega⟩
set_option maxHeartbeats 4000000 in
set_option maxRecDepth 100000 in
theorem c_X2_readText (X : Cx) (M : Mm) (hi : IC M) : Con X 43 yX2_readText cX2_readText 2 (some .boolean) [vr X 30] M (Qi (fun r M1 => IC M1 ∧ Fr (fun c => 30 ≤ c ∧ c ≤ 52) M M1 ∧ M1 31 1 = M 31 1 ∧ (r = 0 ∨ r = 1))) := by
  refine Con.ofG rfl (Nat.le_of_ble_eq_true rfl) ?_
  show G X 43 RX2 cX2_readText 2 (some .boolean) (Qi (fun r M1 => IC M1 ∧ Fr (fun c => 30 ≤ c ∧ c ≤ 52) M M1 ∧ M1 31 1 = M 31 1 ∧ (r = 0 ∨ r = 1))) 0 [(0, vr X 30)] [] M
  refine g_aload_n (pc' := 1) 0 dX2_readText_0 rfl rfl ?_
  refine g_iconst (pc' := 2) dX2_readText_1 rfl ?_
  refine g_putI (pc' := 5) dX2_readText_2 rfl p_X2_25 rfl rfl (by decide) (fun M1 hM1 => ?_)
  have iM1 : IC M1 := IC.wr hi hM1 (by unfold okw isT; first | decide | omega)
  have fM1 : Fr (fun c => 30 ≤ c ∧ c ≤ 52) M M1 := Fr.wr Fr.rf hM1 (by first | decide | omega | (dsimp only; omega))
  have q31_1_M1 : id (M1 31 1 = M 31 1) := (show M1 31 1 = M 31 1 by rw [hM1]; exact mu_ne _ _ (by first | decide | omega))
  have xM1_30_2 : M1 30 2 = 0 := by rw [hM1]; exact mu_at _ _ _ _
  refine g_aload_n (pc' := 6) 0 dX2_readText_5 rfl rfl ?_
  refine g_getR (pc' := 9) dX2_readText_6 rfl f_X2_21 rfl rfl ?_
  refine g_iconst (pc' := 10) dX2_readText_9 rfl ?_
  refine g_putI (pc' := 13) dX2_readText_10 rfl p_X2_29 rfl rfl (by decide) (fun M2 hM2 => ?_)
  have iM2 : IC M2 := IC.wr iM1 hM2 (by unfold okw isT; first | decide | omega)
  have fM2 : Fr (fun c => 30 ≤ c ∧ c ≤ 52) M M2 := Fr.wr fM1 hM2 (by first | decide | omega | (dsimp only; omega))
  have q31_1_M2 : id (M2 31 1 = M 31 1) := (show M2 31 1 = M1 31 1 by rw [hM2]; exact mu_ne _ _ (by first | decide | omega)).trans q31_1_M1
  have xM2_30_2 : M2 30 2 = 0 := (show M2 30 2 = M1 30 2 by rw [hM2]; exact mu_ne _ _ (by first | decide | omega)).trans xM1_30_2
  have xM2_37_4 : M2 37 4 = 0 := by rw [hM2]; exact mu_at _ _ _ _
  refine g_aload_n (pc' := 14) 0 dX2_readText_13 rfl rfl ?_
  refine g_getR (pc' := 17) dX2_readText_14 rfl f_X2_12 rfl rfl ?_
  refine g_callVv (pc' := 20) (As := []) (b := 31) (S := []) dX2_readText_17 rfl m_X2_32 w_X8_cut (c_X8_cut X M2 iM2) rfl ⟨_, _, _, rfl, rfl, rfl⟩ (by decide) (by decide) rfl (Nat.le_of_ble_eq_true rfl) (fun M4 q3 => ?_)
  obtain ⟨iM4, fM40, eM4_31_1⟩ := q3
  have fM4 : Fr (fun c => 30 ≤ c ∧ c ≤ 52) M M4 := Fr.tr fM2 fM40 fi_3
  have q31_1_M4 : id (M4 31 1 = M 31 1) := eM4_31_1.trans q31_1_M2
  have xM4_30_2 : M4 30 2 = 0 := (congrFun (fM40 30 (by first | decide | omega | (dsimp only; omega))) 2).trans xM2_30_2
  have xM4_37_4 : M4 37 4 = 0 := (congrFun (fM40 37 (by first | decide | omega | (dsimp only; omega))) 4).trans xM2_37_4
  clear eM4_31_1
  refine g_iconst (pc' := 21) dX2_readText_20 rfl ?_
  refine g_istore_n (pc' := 22) (i := 1) (L' := [(1, vi 0), (0, vr X 30)]) dX2_readText_21 rfl rfl (by decide) rfl ?_
  refine g_sub [0, 1] rfl ?_
  exact l_X2_readText_22 X M hi _ 0 M4 iM4 fM4 q31_1_M4 (by omega) (by omega) rfl
