set_option maxHeartbeats 4000000 in
set_option maxRecDepth 100000 in
theorem c_X10_begin (X : Cx) (M : Mm) (hi : IM M) : Con X 2 yX10_begin cX10_begin 1 none [vr X 97] M (Qv (fun M1 => IM M1 ∧ Fr (fun c => c = 97) M M1 ∧ M1 97 12 = M 97 12 ∧ M1 97 19 = M 97 19 ∧ M1 97 21 = M 97 21 ∧ M1 97 24 = M 97 24 ∧ M1 97 27 = M 97 27 ∧ M1 97 28 = M 97 28 ∧ (M1 97 18 = 0 ∧ (0 ≤ M1 97 13 ∧ M1 97 13 ≤ M1 97 14 ∧ M1 97 14 ≤ M1 97 12) ∧ (0 ≤ M1 97 15 ∧ M1 97 15 ≤ 3) ∧ (M1 97 15 ≠ 0 → M1 97 13 < M1 97 14) ∧ (M1 97 15 = 2 → 0 ≤ M1 97 16 ∧ M1 97 16 ≤ 10000009)))) := by
  refine Con.ofG rfl (Nat.le_of_ble_eq_true rfl) ?_
  show G X 2 RX10 cX10_begin 1 none (Qv (fun M1 => IM M1 ∧ Fr (fun c => c = 97) M M1 ∧ M1 97 12 = M 97 12 ∧ M1 97 19 = M 97 19 ∧ M1 97 21 = M 97 21 ∧ M1 97 24 = M 97 24 ∧ M1 97 27 = M 97 27 ∧ M1 97 28 = M 97 28 ∧ (M1 97 18 = 0 ∧ (0 ≤ M1 97 13 ∧ M1 97 13 ≤ M1 97 14 ∧ M1 97 14 ≤ M1 97 12) ∧ (0 ≤ M1 97 15 ∧ M1 97 15 ≤ 3) ∧ (M1 97 15 ≠ 0 → M1 97 13 < M1 97 14) ∧ (M1 97 15 = 2 → 0 ≤ M1 97 16 ∧ M1 97 16 ≤ 10000009)))) 0 [(0, vr X 97)] [] M
  have p12 := hi.2.2.2.1
  refine g_aload_n (pc' := 1) 0 dX10_begin_0 rfl rfl ?_
  refine g_iconst (pc' := 2) dX10_begin_1 rfl ?_
  refine g_putI (pc' := 5) dX10_begin_2 rfl p_X10_151 rfl rfl (by decide) (fun M1 hM1 => ?_)
  have iM1 : IM M1 := IM.wr hi hM1 (by unfold okv; first | decide | omega)
  have fM1 : Fr (fun c => c = 97) M M1 := Fr.wr Fr.rf hM1 (by first | decide | omega | (dsimp only; omega))
  have q97_12_M1 : (M1 97 12 = M 97 12) := (show M1 97 12 = M 97 12 by rw [hM1]; exact mu_ne _ _ (by first | decide | omega))
  have q97_19_M1 : (M1 97 19 = M 97 19) := (show M1 97 19 = M 97 19 by rw [hM1]; exact mu_ne _ _ (by first | decide | omega))
  have q97_21_M1 : (M1 97 21 = M 97 21) := (show M1 97 21 = M 97 21 by rw [hM1]; exact mu_ne _ _ (by first | decide | omega))
  have q97_24_M1 : (M1 97 24 = M 97 24) := (show M1 97 24 = M 97 24 by rw [hM1]; exact mu_ne _ _ (by first | decide | omega))
  have q97_27_M1 : (M1 97 27 = M 97 27) := (show M1 97 27 = M 97 27 by rw [hM1]; exact mu_ne _ _ (by first | decide | omega))
  have q97_28_M1 : (M1 97 28 = M 97 28) := (show M1 97 28 = M 97 28 by rw [hM1]; exact mu_ne _ _ (by first | decide | omega))
  have xM1_97_14 : M1 97 14 = 0 := by rw [hM1]; exact mu_at _ _ _ _
  refine g_aload_n (pc' := 6) 0 dX10_begin_5 rfl rfl ?_
  refine g_iconst (pc' := 7) dX10_begin_6 rfl ?_
  refine g_putZ (pc' := 10) dX10_begin_7 rfl p_X10_154 rfl rfl (by omega) (fun M2 hM2 => ?_)
  have iM2 : IM M2 := IM.wr iM1 hM2 (by unfold okv; first | decide | omega)
  have fM2 : Fr (fun c => c = 97) M M2 := Fr.wr fM1 hM2 (by first | decide | omega | (dsimp only; omega))
  have q97_12_M2 : (M2 97 12 = M 97 12) := (show M2 97 12 = M1 97 12 by rw [hM2]; exact mu_ne _ _ (by first | decide | omega)).trans q97_12_M1
  have q97_19_M2 : (M2 97 19 = M 97 19) := (show M2 97 19 = M1 97 19 by rw [hM2]; exact mu_ne _ _ (by first | decide | omega)).trans q97_19_M1
  have q97_21_M2 : (M2 97 21 = M 97 21) := (show M2 97 21 = M1 97 21 by rw [hM2]; exact mu_ne _ _ (by first | decide | omega)).trans q97_21_M1
  have q97_24_M2 : (M2 97 24 = M 97 24) := (show M2 97 24 = M1 97 24 by rw [hM2]; exact mu_ne _ _ (by first | decide | omega)).trans q97_24_M1
  have q97_27_M2 : (M2 97 27 = M 97 27) := (show M2 97 27 = M1 97 27 by rw [hM2]; exact mu_ne _ _ (by first | decide | omega)).trans q97_27_M1
  have q97_28_M2 : (M2 97 28 = M 97 28) := (show M2 97 28 = M1 97 28 by rw [hM2]; exact mu_ne _ _ (by first | decide | omega)).trans q97_28_M1
  have wM2_97_14 : M2 97 14 = M1 97 14 := by rw [hM2]; exact mu_ne _ _ (by first | decide | omega)
  have xM2_97_14 : M2 97 14 = 0 := (show M2 97 14 = M1 97 14 by rw [hM2]; exact mu_ne _ _ (by first | decide | omega)).trans xM1_97_14
  have xM2_97_18 : M2 97 18 = 0 := by rw [hM2]; exact mu_at _ _ _ _
  refine g_aload_n (pc' := 11) 0 dX10_begin_10 rfl rfl ?_
  refine g_iconst (pc' := 12) dX10_begin_11 rfl ?_
  refine g_putI (pc' := 15) dX10_begin_12 rfl p_X10_39 rfl rfl (by decide) (fun M3 hM3 => ?_)
  have iM3 : IM M3 := IM.wr iM2 hM3 (by unfold okv; first | decide | omega)
  have fM3 : Fr (fun c => c = 97) M M3 := Fr.wr fM2 hM3 (by first | decide | omega | (dsimp only; omega))
  have q97_12_M3 : (M3 97 12 = M 97 12) := (show M3 97 12 = M2 97 12 by rw [hM3]; exact mu_ne _ _ (by first | decide | omega)).trans q97_12_M2
  have q97_19_M3 : (M3 97 19 = M 97 19) := (show M3 97 19 = M2 97 19 by rw [hM3]; exact mu_ne _ _ (by first | decide | omega)).trans q97_19_M2
  have q97_21_M3 : (M3 97 21 = M 97 21) := (show M3 97 21 = M2 97 21 by rw [hM3]; exact mu_ne _ _ (by first | decide | omega)).trans q97_21_M2
  have q97_24_M3 : (M3 97 24 = M 97 24) := (show M3 97 24 = M2 97 24 by rw [hM3]; exact mu_ne _ _ (by first | decide | omega)).trans q97_24_M2
  have q97_27_M3 : (M3 97 27 = M 97 27) := (show M3 97 27 = M2 97 27 by rw [hM3]; exact mu_ne _ _ (by first | decide | omega)).trans q97_27_M2
  have q97_28_M3 : (M3 97 28 = M 97 28) := (show M3 97 28 = M2 97 28 by rw [hM3]; exact mu_ne _ _ (by first | decide | omega)).trans q97_28_M2
  have wM3_97_14 : M3 97 14 = M2 97 14 := by rw [hM3]; exact mu_ne _ _ (by first | decide | omega)
  have xM3_97_14 : M3 97 14 = 0 := (show M3 97 14 = M2 97 14 by rw [hM3]; exact mu_ne _ _ (by first | decide | omega)).trans xM2_97_14
  have xM3_97_18 : M3 97 18 = 0 := (show M3 97 18 = M2 97 18 by rw [hM3]; exact mu_ne _ _ (by first | decide | omega)).trans xM2_97_18
  have xM3_97_17 : M3 97 17 = (-1) := by rw [hM3]; exact mu_at _ _ _ _
  refine g_aload_n (pc' := 16) 0 dX10_begin_15 rfl rfl ?_
  refine g_callVv (pc' := 19) (As := []) (b := 97) (S := []) dX10_begin_16 rfl m_X10_158 w_X10_next (c_X10_next X M3 iM3 (by omega)) rfl ⟨_, _, _, rfl, rfl, rfl⟩ (by decide) (by decide) rfl (Nat.le_of_ble_eq_true rfl) (fun M5 q4 => ?_)
  obtain ⟨iM5, fM50, eM5_97_12, eM5_97_19, eM5_97_21, eM5_97_24, eM5_97_27, eM5_97_28, eM5_97_18, pM5⟩ := q4
  have fM5 : Fr (fun c => c = 97) M M5 := Fr.tr fM3 fM50 (fun _ z => z)
  have q97_12_M5 : (M5 97 12 = M 97 12) := eM5_97_12.trans q97_12_M3
  have q97_19_M5 : (M5 97 19 = M 97 19) := eM5_97_19.trans q97_19_M3
  have q97_21_M5 : (M5 97 21 = M 97 21) := eM5_97_21.trans q97_21_M3
  have q97_24_M5 : (M5 97 24 = M 97 24) := eM5_97_24.trans q97_24_M3
  have q97_27_M5 : (M5 97 27 = M 97 27) := eM5_97_27.trans q97_27_M3
  have q97_28_M5 : (M5 97 28 = M 97 28) := eM5_97_28.trans q97_28_M3
  have xM5_97_18 : M5 97 18 = 0 := eM5_97_18.trans xM3_97_18
  refine g_vreturn dX10_begin_19 ?_
  exact ⟨iM5, fM5, q97_12_M5, q97_19_M5, q97_21_M5, q97_24_M5, q97_27_M5, q97_28_M5, by omega⟩
set_option maxHeartbeats 4000000 in
set_option maxRecDepth 100000 in
theorem c_X10_isWord (X : Cx) (M : Mm) (hi : IM M) (a : Int) (ha : inL a) : Con X 0 yX10_isWord cX10_isWord 3 (some .boolean) [vr X 97, vl a] M (Qi (fun r M1 => M1 = M ∧ ((r = 1 ∧ M 97 15 = 1) ∨ r = 0))) := by
  refine Con.ofG rfl (Nat.le_of_ble_eq_true rfl) ?_
  show G X 0 RX10 cX10_isWord 3 (some .boolean) (Qi (fun r M1 => M1 = M ∧ ((r = 1 ∧ M 97 15 = 1) ∨ r = 0))) 0 [(0, vr X 97), (1, vl a)] [] M
  refine g_aload_n (pc' := 1) 0 dX10_isWord_0 rfl rfl ?_
  refine g_getI (pc' := 4) dX10_isWord_1 rfl f_X10_174 rfl rfl (fun v1 ev1 rv1 => ?_)
  refine g_iconst (pc' := 5) dX10_isWord_4 rfl ?_
  refine g_ic_ne (pc' := 8) (tgt := 21) rv1 (by decide) dX10_isWord_5 rfl rfl (fun c2 => ?_) (fun c2 => ?_)
  · refine g_iconst (pc' := 22) dX10_isWord_21 rfl ?_
    refine g_zreturn dX10_isWord_22 (by omega) ?_
    exact ⟨rfl, by omega⟩
  · refine g_aload_n (pc' := 9) 0 dX10_isWord_8 rfl rfl ?_
    refine g_getL (pc' := 12) dX10_isWord_9 rfl f_X10_164 rfl rfl (fun v3 ev3 rv3 => ?_)
    refine g_lload_n (pc' := 13) 1 dX10_isWord_12 rfl rfl ?_
    refine g_lc_ne (pc' := 17) (tgt := 21) rv3 ha dX10_isWord_13 dX10_isWord_14 rfl rfl (fun c4 => ?_) (fun c4 => ?_)
    · refine g_iconst (pc' := 22) dX10_isWord_21 rfl ?_
      refine g_zreturn dX10_isWord_22 (by omega) ?_
      exact ⟨rfl, by omega⟩
    · refine g_iconst (pc' := 18) dX10_isWord_17 rfl ?_
      refine g_goto (tgt := 22) dX10_isWord_18 rfl ?_
      refine g_zreturn dX10_isWord_22 (by omega) ?_
      exact ⟨rfl, by omega⟩
set_option maxHeartbeats 4000000 in
set_option maxRecDepth 100000 in
theorem c_X10_isSign (X : Cx) (M : Mm) (hi : IM M) (a : Int) (ha : inI a) : Con X 0 yX10_isSign cX10_isSign 2 (some .boolean) [vr X 97, vi a] M (Qi (fun r M1 => M1 = M ∧ ((r = 1 ∧ M 97 15 = 3) ∨ r = 0))) := by
  refine Con.ofG rfl (Nat.le_of_ble_eq_true rfl) ?_
  show G X 0 RX10 cX10_isSign 2 (some .boolean) (Qi (fun r M1 => M1 = M ∧ ((r = 1 ∧ M 97 15 = 3) ∨ r = 0))) 0 [(0, vr X 97), (1, vi a)] [] M
  refine g_aload_n (pc' := 1) 0 dX10_isSign_0 rfl rfl ?_
  refine g_getI (pc' := 4) dX10_isSign_1 rfl f_X10_174 rfl rfl (fun v1 ev1 rv1 => ?_)
  refine g_iconst (pc' := 5) dX10_isSign_4 rfl ?_
  refine g_ic_ne (pc' := 8) (tgt := 22) rv1 (by decide) dX10_isSign_5 rfl rfl (fun c2 => ?_) (fun c2 => ?_)
  · refine g_iconst (pc' := 23) dX10_isSign_22 rfl ?_
    refine g_zreturn dX10_isSign_23 (by omega) ?_
    exact ⟨rfl, by omega⟩
  · refine g_aload_n (pc' := 9) 0 dX10_isSign_8 rfl rfl ?_
    refine g_getL (pc' := 12) dX10_isSign_9 rfl f_X10_164 rfl rfl (fun v3 ev3 rv3 => ?_)
    refine g_iload_n (pc' := 13) 1 dX10_isSign_12 rfl rfl ?_
    refine g_i2l (pc' := 14) ha dX10_isSign_13 rfl ?_
    refine g_lc_ne (pc' := 18) (tgt := 22) rv3 ⟨by omega, by omega⟩ dX10_isSign_14 dX10_isSign_15 rfl rfl (fun c4 => ?_) (fun c4 => ?_)
    · refine g_iconst (pc' := 23) dX10_isSign_22 rfl ?_
      refine g_zreturn dX10_isSign_23 (by omega) ?_
      exact ⟨rfl, by omega⟩
    · refine g_iconst (pc' := 19) dX10_isSign_18 rfl ?_
      refine g_goto (tgt := 23) dX10_isSign_19 rfl ?_
      refine g_zreturn dX10_isSign_23 (by omega) ?_
      exact ⟨rfl, by omega⟩
set_option maxHeartbeats 4000000 in
set_option maxRecDepth 100000 in
theorem c_X10_must (X : Cx) (M : Mm) (hi : IM M) (a : Int) (ha : inI a) (htk : (0 ≤ M 97 13 ∧ M 97 13 ≤ M 97 14 ∧ M 97 14 ≤ M 97 12) ∧ (0 ≤ M 97 15 ∧ M 97 15 ≤ 3) ∧ (M 97 15 ≠ 0 → M 97 13 < M 97 14) ∧ (M 97 15 = 2 → 0 ≤ M 97 16 ∧ M 97 16 ≤ 10000009)) : Con X 2 yX10_must cX10_must 2 none [vr X 97, vi a] M (Qv (fun M1 => IM M1 ∧ Fr (fun c => c = 97) M M1 ∧ M1 97 12 = M 97 12 ∧ M1 97 19 = M 97 19 ∧ M1 97 21 = M 97 21 ∧ M1 97 24 = M 97 24 ∧ M1 97 27 = M 97 27 ∧ M1 97 28 = M 97 28 ∧ (M 97 13 ≤ M1 97 13 ∧ (M 97 18 ≠ 0 → M1 97 18 ≠ 0) ∧ (M1 97 18 = 0 → a ≠ 0 ∧ M 97 18 = 0 ∧ M 97 14 ≤ M1 97 13) ∧ (0 ≤ M1 97 13 ∧ M1 97 13 ≤ M1 97 14 ∧ M1 97 14 ≤ M1 97 12) ∧ (0 ≤ M1 97 15 ∧ M1 97 15 ≤ 3) ∧ (M1 97 15 ≠ 0 → M1 97 13 < M1 97 14) ∧ (M1 97 15 = 2 → 0 ≤ M1 97 16 ∧ M1 97 16 ≤ 10000009)))) := by
  refine Con.ofG rfl (Nat.le_of_ble_eq_true rfl) ?_
  show G X 2 RX10 cX10_must 2 none (Qv (fun M1 => IM M1 ∧ Fr (fun c => c = 97) M M1 ∧ M1 97 12 = M 97 12 ∧ M1 97 19 = M 97 19 ∧ M1 97 21 = M 97 21 ∧ M1 97 24 = M 97 24 ∧ M1 97 27 = M 97 27 ∧ M1 97 28 = M 97 28 ∧ (M 97 13 ≤ M1 97 13 ∧ (M 97 18 ≠ 0 → M1 97 18 ≠ 0) ∧ (M1 97 18 = 0 → a ≠ 0 ∧ M 97 18 = 0 ∧ M 97 14 ≤ M1 97 13) ∧ (0 ≤ M1 97 13 ∧ M1 97 13 ≤ M1 97 14 ∧ M1 97 14 ≤ M1 97 12) ∧ (0 ≤ M1 97 15 ∧ M1 97 15 ≤ 3) ∧ (M1 97 15 ≠ 0 → M1 97 13 < M1 97 14) ∧ (M1 97 15 = 2 → 0 ≤ M1 97 16 ∧ M1 97 16 ≤ 10000009)))) 0 [(0, vr X 97), (1, vi a)] [] M
  have p12 := hi.2.2.2.1
  refine g_aload_n (pc' := 1) 0 dX10_must_0 rfl rfl ?_
  refine g_getI (pc' := 4) dX10_must_1 rfl f_X10_154 rfl rfl (fun v1 ev1 rv1 => ?_)
  refine g_if_ne (pc' := 7) (tgt := 24) rv1 dX10_must_4 rfl rfl (fun c2 => ?_) (fun c2 => ?_)
  · refine g_aload_n (pc' := 25) 0 dX10_must_24 rfl rfl ?_
    refine g_getI (pc' := 28) dX10_must_25 rfl f_X10_154 rfl rfl (fun v3 ev3 rv3 => ?_)
    obtain rfl : v1 = v3 := ev1.trans ev3.symm
    refine g_if_ne (pc' := 31) (tgt := 35) rv1 dX10_must_28 rfl rfl (fun c4 => ?_) (fun c4 => ?_)
    · refine g_vreturn dX10_must_35 ?_
      exact ⟨hi, Fr.rf, rfl, rfl, rfl, rfl, rfl, rfl, by omega⟩
    · refine g_aload_n (pc' := 32) 0 dX10_must_31 rfl rfl ?_
      refine g_callVv (pc' := 35) (As := []) (b := 97) (S := []) dX10_must_32 rfl m_X10_158 w_X10_next (c_X10_next X M hi (by omega)) rfl ⟨_, _, _, rfl, rfl, rfl⟩ (by decide) (by decide) rfl (Nat.le_of_ble_eq_true rfl) (fun M6 q5 => ?_)
      obtain ⟨iM6, fM60, eM6_97_12, eM6_97_19, eM6_97_21, eM6_97_24, eM6_97_27, eM6_97_28, eM6_97_18, pM6⟩ := q5
      have fM6 : Fr (fun c => c = 97) M M6 := Fr.tr Fr.rf fM60 (fun _ z => z)
      have q97_12_M6 : (M6 97 12 = M 97 12) := eM6_97_12
      have q97_19_M6 : (M6 97 19 = M 97 19) := eM6_97_19
      have q97_21_M6 : (M6 97 21 = M 97 21) := eM6_97_21
      have q97_24_M6 : (M6 97 24 = M 97 24) := eM6_97_24
      have q97_27_M6 : (M6 97 27 = M 97 27) := eM6_97_27
      have q97_28_M6 : (M6 97 28 = M 97 28) := eM6_97_28
      have wM6_97_18 : M6 97 18 = M 97 18 := eM6_97_18
      refine g_vreturn dX10_must_35 ?_
      exact ⟨iM6, fM6, q97_12_M6, q97_19_M6, q97_21_M6, q97_24_M6, q97_27_M6, q97_28_M6, by omega⟩
  · refine g_iload_n (pc' := 8) 1 dX10_must_7 rfl rfl ?_
    refine g_if_ne (pc' := 11) (tgt := 24) ha dX10_must_8 rfl rfl (fun c7 => ?_) (fun c7 => ?_)
    · refine g_aload_n (pc' := 25) 0 dX10_must_24 rfl rfl ?_
      refine g_getI (pc' := 28) dX10_must_25 rfl f_X10_154 rfl rfl (fun v8 ev8 rv8 => ?_)
      obtain rfl : v1 = v8 := ev1.trans ev8.symm
      refine g_if_ne (pc' := 31) (tgt := 35) rv1 dX10_must_28 rfl rfl (fun c9 => ?_) (fun c9 => ?_)
      · refine g_vreturn dX10_must_35 ?_
        exact ⟨hi, Fr.rf, rfl, rfl, rfl, rfl, rfl, rfl, by omega⟩
      · refine g_aload_n (pc' := 32) 0 dX10_must_31 rfl rfl ?_
        refine g_callVv (pc' := 35) (As := []) (b := 97) (S := []) dX10_must_32 rfl m_X10_158 w_X10_next (c_X10_next X M hi (by omega)) rfl ⟨_, _, _, rfl, rfl, rfl⟩ (by decide) (by decide) rfl (Nat.le_of_ble_eq_true rfl) (fun M11 q10 => ?_)
        obtain ⟨iM11, fM110, eM11_97_12, eM11_97_19, eM11_97_21, eM11_97_24, eM11_97_27, eM11_97_28, eM11_97_18, pM11⟩ := q10
        have fM11 : Fr (fun c => c = 97) M M11 := Fr.tr Fr.rf fM110 (fun _ z => z)
        have q97_12_M11 : (M11 97 12 = M 97 12) := eM11_97_12
        have q97_19_M11 : (M11 97 19 = M 97 19) := eM11_97_19
        have q97_21_M11 : (M11 97 21 = M 97 21) := eM11_97_21
        have q97_24_M11 : (M11 97 24 = M 97 24) := eM11_97_24
        have q97_27_M11 : (M11 97 27 = M 97 27) := eM11_97_27
        have q97_28_M11 : (M11 97 28 = M 97 28) := eM11_97_28
        have wM11_97_18 : M11 97 18 = M 97 18 := eM11_97_18
        refine g_vreturn dX10_must_35 ?_
        exact ⟨iM11, fM11, q97_12_M11, q97_19_M11, q97_21_M11, q97_24_M11, q97_27_M11, q97_28_M11, by omega⟩
    · refine g_aload_n (pc' := 12) 0 dX10_must_11 rfl rfl ?_
      refine g_iconst (pc' := 13) dX10_must_12 rfl ?_
      refine g_putZ (pc' := 16) dX10_must_13 rfl p_X10_154 rfl rfl (by omega) (fun M12 hM12 => ?_)
      have iM12 : IM M12 := IM.wr hi hM12 (by unfold okv; first | decide | omega)
      have fM12 : Fr (fun c => c = 97) M M12 := Fr.wr Fr.rf hM12 (by first | decide | omega | (dsimp only; omega))
      have q97_12_M12 : (M12 97 12 = M 97 12) := (show M12 97 12 = M 97 12 by rw [hM12]; exact mu_ne _ _ (by first | decide | omega))
      have q97_19_M12 : (M12 97 19 = M 97 19) := (show M12 97 19 = M 97 19 by rw [hM12]; exact mu_ne _ _ (by first | decide | omega))
      have q97_21_M12 : (M12 97 21 = M 97 21) := (show M12 97 21 = M 97 21 by rw [hM12]; exact mu_ne _ _ (by first | decide | omega))
      have q97_24_M12 : (M12 97 24 = M 97 24) := (show M12 97 24 = M 97 24 by rw [hM12]; exact mu_ne _ _ (by first | decide | omega))
      have q97_27_M12 : (M12 97 27 = M 97 27) := (show M12 97 27 = M 97 27 by rw [hM12]; exact mu_ne _ _ (by first | decide | omega))
      have q97_28_M12 : (M12 97 28 = M 97 28) := (show M12 97 28 = M 97 28 by rw [hM12]; exact mu_ne _ _ (by first | decide | omega))
      have wM12_97_13 : M12 97 13 = M 97 13 := by rw [hM12]; exact mu_ne _ _ (by first | decide | omega)
      have wM12_97_14 : M12 97 14 = M 97 14 := by rw [hM12]; exact mu_ne _ _ (by first | decide | omega)
      have wM12_97_15 : M12 97 15 = M 97 15 := by rw [hM12]; exact mu_ne _ _ (by first | decide | omega)
      have wM12_97_16 : M12 97 16 = M 97 16 := by rw [hM12]; exact mu_ne _ _ (by first | decide | omega)
      have xM12_97_18 : M12 97 18 = 1 := by rw [hM12]; exact mu_at _ _ _ _
      refine g_aload_n (pc' := 17) 0 dX10_must_16 rfl rfl ?_
      refine g_aload_n (pc' := 18) 0 dX10_must_17 rfl rfl ?_
      refine g_getI (pc' := 21) dX10_must_18 rfl f_X10_161 rfl rfl (fun v13 ev13 rv13 => ?_)
      refine g_putI (pc' := 24) dX10_must_21 rfl p_X10_39 rfl rfl rv13 (fun M14 hM14 => ?_)
      have iM14 : IM M14 := IM.wr iM12 hM14 (by unfold okv; first | decide | omega)
      have fM14 : Fr (fun c => c = 97) M M14 := Fr.wr fM12 hM14 (by first | decide | omega | (dsimp only; omega))
      have q97_12_M14 : (M14 97 12 = M 97 12) := (show M14 97 12 = M12 97 12 by rw [hM14]; exact mu_ne _ _ (by first | decide | omega)).trans q97_12_M12
      have q97_19_M14 : (M14 97 19 = M 97 19) := (show M14 97 19 = M12 97 19 by rw [hM14]; exact mu_ne _ _ (by first | decide | omega)).trans q97_19_M12
      have q97_21_M14 : (M14 97 21 = M 97 21) := (show M14 97 21 = M12 97 21 by rw [hM14]; exact mu_ne _ _ (by first | decide | omega)).trans q97_21_M12
      have q97_24_M14 : (M14 97 24 = M 97 24) := (show M14 97 24 = M12 97 24 by rw [hM14]; exact mu_ne _ _ (by first | decide | omega)).trans q97_24_M12
      have q97_27_M14 : (M14 97 27 = M 97 27) := (show M14 97 27 = M12 97 27 by rw [hM14]; exact mu_ne _ _ (by first | decide | omega)).trans q97_27_M12
      have q97_28_M14 : (M14 97 28 = M 97 28) := (show M14 97 28 = M12 97 28 by rw [hM14]; exact mu_ne _ _ (by first | decide | omega)).trans q97_28_M12
      have wM14_97_13 : M14 97 13 = M12 97 13 := by rw [hM14]; exact mu_ne _ _ (by first | decide | omega)
      have wM14_97_14 : M14 97 14 = M12 97 14 := by rw [hM14]; exact mu_ne _ _ (by first | decide | omega)
      have wM14_97_15 : M14 97 15 = M12 97 15 := by rw [hM14]; exact mu_ne _ _ (by first | decide | omega)
      have wM14_97_16 : M14 97 16 = M12 97 16 := by rw [hM14]; exact mu_ne _ _ (by first | decide | omega)
      have wM14_97_18 : M14 97 18 = M12 97 18 := by rw [hM14]; exact mu_ne _ _ (by first | decide | omega)
      have xM14_97_18 : M14 97 18 = 1 := (show M14 97 18 = M12 97 18 by rw [hM14]; exact mu_ne _ _ (by first | decide | omega)).trans xM12_97_18
      have xM14_97_17 : M14 97 17 = v13 := by rw [hM14]; exact mu_at _ _ _ _
      refine g_aload_n (pc' := 25) 0 dX10_must_24 rfl rfl ?_
      refine g_getI (pc' := 28) dX10_must_25 rfl f_X10_154 rfl rfl (fun v15 ev15 rv15 => ?_)
      have yv15 : v15 = 1 := ev15.trans xM14_97_18
      refine g_if_ne (pc' := 31) (tgt := 35) rv15 dX10_must_28 rfl rfl (fun c16 => ?_) (fun c16 => ?_)
      · refine g_vreturn dX10_must_35 ?_
        exact ⟨iM14, fM14, q97_12_M14, q97_19_M14, q97_21_M14, q97_24_M14, q97_27_M14, q97_28_M14, by omega⟩
      · refine g_aload_n (pc' := 32) 0 dX10_must_31 rfl rfl ?_
        refine g_callVv (pc' := 35) (As := []) (b := 97) (S := []) dX10_must_32 rfl m_X10_158 w_X10_next (c_X10_next X M14 iM14 (by omega)) rfl ⟨_, _, _, rfl, rfl, rfl⟩ (by decide) (by decide) rfl (Nat.le_of_ble_eq_true rfl) (fun M18 q17 => ?_)
        obtain ⟨iM18, fM180, eM18_97_12, eM18_97_19, eM18_97_21, eM18_97_24, eM18_97_27, eM18_97_28, eM18_97_18, pM18⟩ := q17
        have fM18 : Fr (fun c => c = 97) M M18 := Fr.tr fM14 fM180 (fun _ z => z)
        have q97_12_M18 : (M18 97 12 = M 97 12) := eM18_97_12.trans q97_12_M14
        have q97_19_M18 : (M18 97 19 = M 97 19) := eM18_97_19.trans q97_19_M14
        have q97_21_M18 : (M18 97 21 = M 97 21) := eM18_97_21.trans q97_21_M14
        have q97_24_M18 : (M18 97 24 = M 97 24) := eM18_97_24.trans q97_24_M14
        have q97_27_M18 : (M18 97 27 = M 97 27) := eM18_97_27.trans q97_27_M14
        have q97_28_M18 : (M18 97 28 = M 97 28) := eM18_97_28.trans q97_28_M14
        have wM18_97_18 : M18 97 18 = M14 97 18 := eM18_97_18
        have xM18_97_18 : M18 97 18 = 1 := eM18_97_18.trans xM14_97_18
        refine g_vreturn dX10_must_35 ?_
        exact ⟨iM18, fM18, q97_12_M18, q97_19_M18, q97_21_M18, q97_24_M18, q97_27_M18, q97_28_M18, by omega⟩
set_option maxHeartbeats 4000000 in
set_option maxRecDepth 100000 in
theorem c_X10_emit (X : Cx) (M : Mm) (hi : IM M) (a : Int) (ha : inI a) (b : Int) (hb : inI b) (hn : 0 ≤ M 97 21 ∧ M 97 21 < 400) : Con X 0 yX10_emit cX10_emit 3 none [vr X 97, vi a, vi b] M (Qv (fun M1 => IM M1 ∧ Fr (fun c => c = 97 ∨ c = 108 ∨ c = 109) M M1 ∧ M1 97 12 = M 97 12 ∧ M1 97 19 = M 97 19 ∧ M1 97 24 = M 97 24 ∧ M1 97 27 = M 97 27 ∧ M1 97 28 = M 97 28 ∧ M1 97 13 = M 97 13 ∧ M1 97 14 = M 97 14 ∧ M1 97 15 = M 97 15 ∧ M1 97 16 = M 97 16 ∧ M1 97 18 = M 97 18 ∧ (M1 108 = ms (M 108) (M 97 21).toNat a ∧ M1 109 = ms (M 109) (M 97 21).toNat b ∧ M1 97 21 = M 97 21 + 1))) := by
  refine Con.ofG rfl (Nat.le_of_ble_eq_true rfl) ?_
  show G X 0 RX10 cX10_emit 3 none (Qv (fun M1 => IM M1 ∧ Fr (fun c => c = 97 ∨ c = 108 ∨ c = 109) M M1 ∧ M1 97 12 = M 97 12 ∧ M1 97 19 = M 97 19 ∧ M1 97 24 = M 97 24 ∧ M1 97 27 = M 97 27 ∧ M1 97 28 = M 97 28 ∧ M1 97 13 = M 97 13 ∧ M1 97 14 = M 97 14 ∧ M1 97 15 = M 97 15 ∧ M1 97 16 = M 97 16 ∧ M1 97 18 = M 97 18 ∧ (M1 108 = ms (M 108) (M 97 21).toNat a ∧ M1 109 = ms (M 109) (M 97 21).toNat b ∧ M1 97 21 = M 97 21 + 1))) 0 [(0, vr X 97), (1, vi a), (2, vi b)] [] M
  refine g_aload_n (pc' := 1) 0 dX10_emit_0 rfl rfl ?_
  refine g_getR (pc' := 4) dX10_emit_1 rfl f_X10_46 rfl rfl ?_
  refine g_aload_n (pc' := 5) 0 dX10_emit_4 rfl rfl ?_
  refine g_getI (pc' := 8) dX10_emit_5 rfl f_X10_191 rfl rfl (fun v1 ev1 rv1 => ?_)
  have av1 : v1 = M 97 21 := ev1
  refine g_iload_n (pc' := 9) 1 dX10_emit_8 rfl rfl ?_
  refine g_iast (pc' := 10) dX10_emit_9 rfl rfl (by omega) (by omega) ha (fun M2 hM2 => ?_)
  have iM2 : IM M2 := IM.wr hi hM2 (by unfold okv; first | decide | omega)
  have fM2 : Fr (fun c => c = 97 ∨ c = 108 ∨ c = 109) M M2 := Fr.wr Fr.rf hM2 (by first | decide | omega | (dsimp only; omega))
  have q97_12_M2 : (M2 97 12 = M 97 12) := (show M2 97 12 = M 97 12 by rw [hM2]; exact mu_ne _ _ (by first | decide | omega))
  have q97_19_M2 : (M2 97 19 = M 97 19) := (show M2 97 19 = M 97 19 by rw [hM2]; exact mu_ne _ _ (by first | decide | omega))
  have q97_24_M2 : (M2 97 24 = M 97 24) := (show M2 97 24 = M 97 24 by rw [hM2]; exact mu_ne _ _ (by first | decide | omega))
  have q97_27_M2 : (M2 97 27 = M 97 27) := (show M2 97 27 = M 97 27 by rw [hM2]; exact mu_ne _ _ (by first | decide | omega))
  have q97_28_M2 : (M2 97 28 = M 97 28) := (show M2 97 28 = M 97 28 by rw [hM2]; exact mu_ne _ _ (by first | decide | omega))
  have q97_13_M2 : (M2 97 13 = M 97 13) := (show M2 97 13 = M 97 13 by rw [hM2]; exact mu_ne _ _ (by first | decide | omega))
  have q97_14_M2 : (M2 97 14 = M 97 14) := (show M2 97 14 = M 97 14 by rw [hM2]; exact mu_ne _ _ (by first | decide | omega))
  have q97_15_M2 : (M2 97 15 = M 97 15) := (show M2 97 15 = M 97 15 by rw [hM2]; exact mu_ne _ _ (by first | decide | omega))
  have q97_16_M2 : (M2 97 16 = M 97 16) := (show M2 97 16 = M 97 16 by rw [hM2]; exact mu_ne _ _ (by first | decide | omega))
  have q97_18_M2 : (M2 97 18 = M 97 18) := (show M2 97 18 = M 97 18 by rw [hM2]; exact mu_ne _ _ (by first | decide | omega))
  have q97_21_M2 : (M2 97 21 = M 97 21) := (show M2 97 21 = M 97 21 by rw [hM2]; exact mu_ne _ _ (by first | decide | omega))
  have CM2_108 : M2 108 = ms (M 108) v1.toNat a := by rw [hM2, mu_is]
  have CM2_109 : M2 109 = M 109 := by rw [hM2, mu_cell _ _ (by decide)]
  refine g_aload_n (pc' := 11) 0 dX10_emit_10 rfl rfl ?_
  refine g_getR (pc' := 14) dX10_emit_11 rfl f_X10_49 rfl rfl ?_
  refine g_aload_n (pc' := 15) 0 dX10_emit_14 rfl rfl ?_
  refine g_getI (pc' := 18) dX10_emit_15 rfl f_X10_191 rfl rfl (fun v3 ev3 rv3 => ?_)
  have av3 : v3 = M 97 21 := ev3.trans q97_21_M2
  obtain rfl : v1 = v3 := av1.trans av3.symm
  refine g_iload_n (pc' := 19) 2 dX10_emit_18 rfl rfl ?_
  refine g_iast (pc' := 20) dX10_emit_19 rfl rfl (by omega) (by omega) hb (fun M4 hM4 => ?_)
  have iM4 : IM M4 := IM.wr iM2 hM4 (by unfold okv; first | decide | omega)
  have fM4 : Fr (fun c => c = 97 ∨ c = 108 ∨ c = 109) M M4 := Fr.wr fM2 hM4 (by first | decide | omega | (dsimp only; omega))
  have q97_12_M4 : (M4 97 12 = M 97 12) := (show M4 97 12 = M2 97 12 by rw [hM4]; exact mu_ne _ _ (by first | decide | omega)).trans q97_12_M2
  have q97_19_M4 : (M4 97 19 = M 97 19) := (show M4 97 19 = M2 97 19 by rw [hM4]; exact mu_ne _ _ (by first | decide | omega)).trans q97_19_M2
  have q97_24_M4 : (M4 97 24 = M 97 24) := (show M4 97 24 = M2 97 24 by rw [hM4]; exact mu_ne _ _ (by first | decide | omega)).trans q97_24_M2
  have q97_27_M4 : (M4 97 27 = M 97 27) := (show M4 97 27 = M2 97 27 by rw [hM4]; exact mu_ne _ _ (by first | decide | omega)).trans q97_27_M2
  have q97_28_M4 : (M4 97 28 = M 97 28) := (show M4 97 28 = M2 97 28 by rw [hM4]; exact mu_ne _ _ (by first | decide | omega)).trans q97_28_M2
  have q97_13_M4 : (M4 97 13 = M 97 13) := (show M4 97 13 = M2 97 13 by rw [hM4]; exact mu_ne _ _ (by first | decide | omega)).trans q97_13_M2
  have q97_14_M4 : (M4 97 14 = M 97 14) := (show M4 97 14 = M2 97 14 by rw [hM4]; exact mu_ne _ _ (by first | decide | omega)).trans q97_14_M2
  have q97_15_M4 : (M4 97 15 = M 97 15) := (show M4 97 15 = M2 97 15 by rw [hM4]; exact mu_ne _ _ (by first | decide | omega)).trans q97_15_M2
  have q97_16_M4 : (M4 97 16 = M 97 16) := (show M4 97 16 = M2 97 16 by rw [hM4]; exact mu_ne _ _ (by first | decide | omega)).trans q97_16_M2
  have q97_18_M4 : (M4 97 18 = M 97 18) := (show M4 97 18 = M2 97 18 by rw [hM4]; exact mu_ne _ _ (by first | decide | omega)).trans q97_18_M2
  have q97_21_M4 : (M4 97 21 = M 97 21) := (show M4 97 21 = M2 97 21 by rw [hM4]; exact mu_ne _ _ (by first | decide | omega)).trans q97_21_M2
  have CM4_108 : M4 108 = ms (M 108) v1.toNat a := by rw [hM4, mu_cell _ _ (by decide), CM2_108]
  have CM4_109 : M4 109 = ms (M 109) v1.toNat b := by rw [hM4, mu_is, CM2_109]
  refine g_aload_n (pc' := 21) 0 dX10_emit_20 rfl rfl ?_
  refine g_dup (pc' := 22) dX10_emit_21 rfl rfl ?_
  refine g_getI (pc' := 25) dX10_emit_22 rfl f_X10_191 rfl rfl (fun v5 ev5 rv5 => ?_)
  have av5 : v5 = M 97 21 := ev5.trans q97_21_M4
  obtain rfl : v1 = v5 := av1.trans av5.symm
  refine g_iconst (pc' := 26) dX10_emit_25 rfl ?_
  refine g_iadd (pc' := 27) dX10_emit_26 rfl ?_
  refine g_putI (pc' := 30) dX10_emit_27 rfl p_X10_191 rfl rfl ⟨by omega, by omega⟩ (fun M6 hM6 => ?_)
  have iM6 : IM M6 := IM.wr iM4 hM6 (by unfold okv; first | decide | omega)
  have fM6 : Fr (fun c => c = 97 ∨ c = 108 ∨ c = 109) M M6 := Fr.wr fM4 hM6 (by first | decide | omega | (dsimp only; omega))
  have q97_12_M6 : (M6 97 12 = M 97 12) := (show M6 97 12 = M4 97 12 by rw [hM6]; exact mu_ne _ _ (by first | decide | omega)).trans q97_12_M4
  have q97_19_M6 : (M6 97 19 = M 97 19) := (show M6 97 19 = M4 97 19 by rw [hM6]; exact mu_ne _ _ (by first | decide | omega)).trans q97_19_M4
  have q97_24_M6 : (M6 97 24 = M 97 24) := (show M6 97 24 = M4 97 24 by rw [hM6]; exact mu_ne _ _ (by first | decide | omega)).trans q97_24_M4
  have q97_27_M6 : (M6 97 27 = M 97 27) := (show M6 97 27 = M4 97 27 by rw [hM6]; exact mu_ne _ _ (by first | decide | omega)).trans q97_27_M4
  have q97_28_M6 : (M6 97 28 = M 97 28) := (show M6 97 28 = M4 97 28 by rw [hM6]; exact mu_ne _ _ (by first | decide | omega)).trans q97_28_M4
  have q97_13_M6 : (M6 97 13 = M 97 13) := (show M6 97 13 = M4 97 13 by rw [hM6]; exact mu_ne _ _ (by first | decide | omega)).trans q97_13_M4
  have q97_14_M6 : (M6 97 14 = M 97 14) := (show M6 97 14 = M4 97 14 by rw [hM6]; exact mu_ne _ _ (by first | decide | omega)).trans q97_14_M4
  have q97_15_M6 : (M6 97 15 = M 97 15) := (show M6 97 15 = M4 97 15 by rw [hM6]; exact mu_ne _ _ (by first | decide | omega)).trans q97_15_M4
  have q97_16_M6 : (M6 97 16 = M 97 16) := (show M6 97 16 = M4 97 16 by rw [hM6]; exact mu_ne _ _ (by first | decide | omega)).trans q97_16_M4
  have q97_18_M6 : (M6 97 18 = M 97 18) := (show M6 97 18 = M4 97 18 by rw [hM6]; exact mu_ne _ _ (by first | decide | omega)).trans q97_18_M4
  have xM6_97_21 : M6 97 21 = v1 + 1 := by rw [hM6]; exact mu_at _ _ _ _
  have CM6_108 : M6 108 = ms (M 108) v1.toNat a := by rw [hM6, mu_cell _ _ (by decide), CM4_108]
  have CM6_109 : M6 109 = ms (M 109) v1.toNat b := by rw [hM6, mu_cell _ _ (by decide), CM4_109]
  refine g_vreturn dX10_emit_30 ?_
  exact ⟨iM6, fM6, q97_12_M6, q97_19_M6, q97_24_M6, q97_27_M6, q97_28_M6, q97_13_M6, q97_14_M6, q97_15_M6, q97_16_M6, q97_18_M6, by rw [CM6_108, av1], by rw [CM6_109, av1], by omega⟩
set_option maxHeartbeats 4000000 in
set_option maxRecDepth 100000 in
theorem c_X10_push (X : Cx) (M : Mm) (hi : IM M) (a : Int) (ha : inI a) (b : Int) (hb : inI b) (hn : 0 ≤ M 97 27 ∧ M 97 27 < 400) : Con X 0 yX10_push cX10_push 3 none [vr X 97, vi a, vi b] M (Qv (fun M1 => IM M1 ∧ Fr (fun c => c = 97 ∨ c = 110 ∨ c = 111) M M1 ∧ M1 97 12 = M 97 12 ∧ M1 97 19 = M 97 19 ∧ M1 97 21 = M 97 21 ∧ M1 97 24 = M 97 24 ∧ M1 97 28 = M 97 28 ∧ M1 97 13 = M 97 13 ∧ M1 97 14 = M 97 14 ∧ M1 97 15 = M 97 15 ∧ M1 97 16 = M 97 16 ∧ M1 97 18 = M 97 18 ∧ (M1 110 = ms (M 110) (M 97 27).toNat a ∧ M1 111 = ms (M 111) (M 97 27).toNat b ∧ M1 97 27 = M 97 27 + 1))) := by
  refine Con.ofG rfl (Nat.le_of_ble_eq_true rfl) ?_
  show G X 0 RX10 cX10_push 3 none (Qv (fun M1 => IM M1 ∧ Fr (fun c => c = 97 ∨ c = 110 ∨ c = 111) M M1 ∧ M1 97 12 = M 97 12 ∧ M1 97 19 = M 97 19 ∧ M1 97 21 = M 97 21 ∧ M1 97 24 = M 97 24 ∧ M1 97 28 = M 97 28 ∧ M1 97 13 = M 97 13 ∧ M1 97 14 = M 97 14 ∧ M1 97 15 = M 97 15 ∧ M1 97 16 = M 97 16 ∧ M1 97 18 = M 97 18 ∧ (M1 110 = ms (M 110) (M 97 27).toNat a ∧ M1 111 = ms (M 111) (M 97 27).toNat b ∧ M1 97 27 = M 97 27 + 1))) 0 [(0, vr X 97), (1, vi a), (2, vi b)] [] M
  refine g_aload_n (pc' := 1) 0 dX10_push_0 rfl rfl ?_
  refine g_getR (pc' := 4) dX10_push_1 rfl f_X10_52 rfl rfl ?_
  refine g_aload_n (pc' := 5) 0 dX10_push_4 rfl rfl ?_
  refine g_getI (pc' := 8) dX10_push_5 rfl f_X10_194 rfl rfl (fun v1 ev1 rv1 => ?_)
  have av1 : v1 = M 97 27 := ev1
  refine g_iload_n (pc' := 9) 1 dX10_push_8 rfl rfl ?_
  refine g_iast (pc' := 10) dX10_push_9 rfl rfl (by omega) (by omega) ha (fun M2 hM2 => ?_)
  have iM2 : IM M2 := IM.wr hi hM2 (by unfold okv; first | decide | omega)
  have fM2 : Fr (fun c => c = 97 ∨ c = 110 ∨ c = 111) M M2 := Fr.wr Fr.rf hM2 (by first | decide | omega | (dsimp only; omega))
  have q97_12_M2 : (M2 97 12 = M 97 12) := (show M2 97 12 = M 97 12 by rw [hM2]; exact mu_ne _ _ (by first | decide | omega))
  have q97_19_M2 : (M2 97 19 = M 97 19) := (show M2 97 19 = M 97 19 by rw [hM2]; exact mu_ne _ _ (by first | decide | omega))
  have q97_21_M2 : (M2 97 21 = M 97 21) := (show M2 97 21 = M 97 21 by rw [hM2]; exact mu_ne _ _ (by first | decide | omega))
  have q97_24_M2 : (M2 97 24 = M 97 24) := (show M2 97 24 = M 97 24 by rw [hM2]; exact mu_ne _ _ (by first | decide | omega))
  have q97_28_M2 : (M2 97 28 = M 97 28) := (show M2 97 28 = M 97 28 by rw [hM2]; exact mu_ne _ _ (by first | decide | omega))
  have q97_13_M2 : (M2 97 13 = M 97 13) := (show M2 97 13 = M 97 13 by rw [hM2]; exact mu_ne _ _ (by first | decide | omega))
  have q97_14_M2 : (M2 97 14 = M 97 14) := (show M2 97 14 = M 97 14 by rw [hM2]; exact mu_ne _ _ (by first | decide | omega))
  have q97_15_M2 : (M2 97 15 = M 97 15) := (show M2 97 15 = M 97 15 by rw [hM2]; exact mu_ne _ _ (by first | decide | omega))
  have q97_16_M2 : (M2 97 16 = M 97 16) := (show M2 97 16 = M 97 16 by rw [hM2]; exact mu_ne _ _ (by first | decide | omega))
  have q97_18_M2 : (M2 97 18 = M 97 18) := (show M2 97 18 = M 97 18 by rw [hM2]; exact mu_ne _ _ (by first | decide | omega))
  have q97_27_M2 : (M2 97 27 = M 97 27) := (show M2 97 27 = M 97 27 by rw [hM2]; exact mu_ne _ _ (by first | decide | omega))
  have CM2_110 : M2 110 = ms (M 110) v1.toNat a := by rw [hM2, mu_is]
  have CM2_111 : M2 111 = M 111 := by rw [hM2, mu_cell _ _ (by decide)]
  refine g_aload_n (pc' := 11) 0 dX10_push_10 rfl rfl ?_
  refine g_getR (pc' := 14) dX10_push_11 rfl f_X10_55 rfl rfl ?_
  refine g_aload_n (pc' := 15) 0 dX10_push_14 rfl rfl ?_
  refine g_getI (pc' := 18) dX10_push_15 rfl f_X10_194 rfl rfl (fun v3 ev3 rv3 => ?_)
  have av3 : v3 = M 97 27 := ev3.trans q97_27_M2
  obtain rfl : v1 = v3 := av1.trans av3.symm
  refine g_iload_n (pc' := 19) 2 dX10_push_18 rfl rfl ?_
  refine g_iast (pc' := 20) dX10_push_19 rfl rfl (by omega) (by omega) hb (fun M4 hM4 => ?_)
  have iM4 : IM M4 := IM.wr iM2 hM4 (by unfold okv; first | decide | omega)
  have fM4 : Fr (fun c => c = 97 ∨ c = 110 ∨ c = 111) M M4 := Fr.wr fM2 hM4 (by first | decide | omega | (dsimp only; omega))
  have q97_12_M4 : (M4 97 12 = M 97 12) := (show M4 97 12 = M2 97 12 by rw [hM4]; exact mu_ne _ _ (by first | decide | omega)).trans q97_12_M2
  have q97_19_M4 : (M4 97 19 = M 97 19) := (show M4 97 19 = M2 97 19 by rw [hM4]; exact mu_ne _ _ (by first | decide | omega)).trans q97_19_M2
  have q97_21_M4 : (M4 97 21 = M 97 21) := (show M4 97 21 = M2 97 21 by rw [hM4]; exact mu_ne _ _ (by first | decide | omega)).trans q97_21_M2
  have q97_24_M4 : (M4 97 24 = M 97 24) := (show M4 97 24 = M2 97 24 by rw [hM4]; exact mu_ne _ _ (by first | decide | omega)).trans q97_24_M2
  have q97_28_M4 : (M4 97 28 = M 97 28) := (show M4 97 28 = M2 97 28 by rw [hM4]; exact mu_ne _ _ (by first | decide | omega)).trans q97_28_M2
  have q97_13_M4 : (M4 97 13 = M 97 13) := (show M4 97 13 = M2 97 13 by rw [hM4]; exact mu_ne _ _ (by first | decide | omega)).trans q97_13_M2
  have q97_14_M4 : (M4 97 14 = M 97 14) := (show M4 97 14 = M2 97 14 by rw [hM4]; exact mu_ne _ _ (by first | decide | omega)).trans q97_14_M2
  have q97_15_M4 : (M4 97 15 = M 97 15) := (show M4 97 15 = M2 97 15 by rw [hM4]; exact mu_ne _ _ (by first | decide | omega)).trans q97_15_M2
  have q97_16_M4 : (M4 97 16 = M 97 16) := (show M4 97 16 = M2 97 16 by rw [hM4]; exact mu_ne _ _ (by first | decide | omega)).trans q97_16_M2
  have q97_18_M4 : (M4 97 18 = M 97 18) := (show M4 97 18 = M2 97 18 by rw [hM4]; exact mu_ne _ _ (by first | decide | omega)).trans q97_18_M2
  have q97_27_M4 : (M4 97 27 = M 97 27) := (show M4 97 27 = M2 97 27 by rw [hM4]; exact mu_ne _ _ (by first | decide | omega)).trans q97_27_M2
  have CM4_110 : M4 110 = ms (M 110) v1.toNat a := by rw [hM4, mu_cell _ _ (by decide), CM2_110]
  have CM4_111 : M4 111 = ms (M 111) v1.toNat b := by rw [hM4, mu_is, CM2_111]
  refine g_aload_n (pc' := 21) 0 dX10_push_20 rfl rfl ?_
  refine g_dup (pc' := 22) dX10_push_21 rfl rfl ?_
  refine g_getI (pc' := 25) dX10_push_22 rfl f_X10_194 rfl rfl (fun v5 ev5 rv5 => ?_)
  have av5 : v5 = M 97 27 := ev5.trans q97_27_M4
  obtain rfl : v1 = v5 := av1.trans av5.symm
  refine g_iconst (pc' := 26) dX10_push_25 rfl ?_
  refine g_iadd (pc' := 27) dX10_push_26 rfl ?_
  refine g_putI (pc' := 30) dX10_push_27 rfl p_X10_194 rfl rfl ⟨by omega, by omega⟩ (fun M6 hM6 => ?_)
  have iM6 : IM M6 := IM.wr iM4 hM6 (by unfold okv; first | decide | omega)
  have fM6 : Fr (fun c => c = 97 ∨ c = 110 ∨ c = 111) M M6 := Fr.wr fM4 hM6 (by first | decide | omega | (dsimp only; omega))
  have q97_12_M6 : (M6 97 12 = M 97 12) := (show M6 97 12 = M4 97 12 by rw [hM6]; exact mu_ne _ _ (by first | decide | omega)).trans q97_12_M4
  have q97_19_M6 : (M6 97 19 = M 97 19) := (show M6 97 19 = M4 97 19 by rw [hM6]; exact mu_ne _ _ (by first | decide | omega)).trans q97_19_M4
  have q97_21_M6 : (M6 97 21 = M 97 21) := (show M6 97 21 = M4 97 21 by rw [hM6]; exact mu_ne _ _ (by first | decide | omega)).trans q97_21_M4
  have q97_24_M6 : (M6 97 24 = M 97 24) := (show M6 97 24 = M4 97 24 by rw [hM6]; exact mu_ne _ _ (by first | decide | omega)).trans q97_24_M4
  have q97_28_M6 : (M6 97 28 = M 97 28) := (show M6 97 28 = M4 97 28 by rw [hM6]; exact mu_ne _ _ (by first | decide | omega)).trans q97_28_M4
  have q97_13_M6 : (M6 97 13 = M 97 13) := (show M6 97 13 = M4 97 13 by rw [hM6]; exact mu_ne _ _ (by first | decide | omega)).trans q97_13_M4
  have q97_14_M6 : (M6 97 14 = M 97 14) := (show M6 97 14 = M4 97 14 by rw [hM6]; exact mu_ne _ _ (by first | decide | omega)).trans q97_14_M4
  have q97_15_M6 : (M6 97 15 = M 97 15) := (show M6 97 15 = M4 97 15 by rw [hM6]; exact mu_ne _ _ (by first | decide | omega)).trans q97_15_M4
  have q97_16_M6 : (M6 97 16 = M 97 16) := (show M6 97 16 = M4 97 16 by rw [hM6]; exact mu_ne _ _ (by first | decide | omega)).trans q97_16_M4
  have q97_18_M6 : (M6 97 18 = M 97 18) := (show M6 97 18 = M4 97 18 by rw [hM6]; exact mu_ne _ _ (by first | decide | omega)).trans q97_18_M4
  have xM6_97_27 : M6 97 27 = v1 + 1 := by rw [hM6]; exact mu_at _ _ _ _
  have CM6_110 : M6 110 = ms (M 110) v1.toNat a := by rw [hM6, mu_cell _ _ (by decide), CM4_110]
  have CM6_111 : M6 111 = ms (M 111) v1.toNat b := by rw [hM6, mu_cell _ _ (by decide), CM4_111]
  refine g_vreturn dX10_push_30 ?_
  exact ⟨iM6, fM6, q97_12_M6, q97_19_M6, q97_21_M6, q97_24_M6, q97_28_M6, q97_13_M6, q97_14_M6, q97_15_M6, q97_16_M6, q97_18_M6, by rw [CM6_110, av1], by rw [CM6_111, av1], by omega⟩
set_option maxHeartbeats 4000000 in
set_option maxRecDepth 100000 in
theorem c_X10_binds (X : Cx) (M : Mm) (a : Int) (ha : inI a) : Con X 0 yX10_binds cX10_binds 1 (some .int) [vi a] M (Qi (fun r M1 => M1 = M ∧ (r = bnd a ∧ 0 ≤ r ∧ r ≤ 6))) := by
  refine Con.ofG rfl (Nat.le_of_ble_eq_true rfl) ?_
  show G X 0 RX10 cX10_binds 1 (some .int) (Qi (fun r M1 => M1 = M ∧ (r = bnd a ∧ 0 ≤ r ∧ r ≤ 6))) 0 [(0, vi a)] [] M
  refine g_iload_n (pc' := 1) 0 dX10_binds_0 rfl rfl ?_
  refine g_bipush (pc' := 3) (v := 30) dX10_binds_1 rfl (by decide) ?_
  refine g_ic_lt (pc' := 6) (tgt := 10) ha (by decide) dX10_binds_3 rfl rfl (fun c1 => ?_) (fun c1 => ?_)
  · refine g_iload_n (pc' := 11) 0 dX10_binds_10 rfl rfl ?_
    refine g_bipush (pc' := 13) (v := 29) dX10_binds_11 rfl (by decide) ?_
    refine g_ic_ne (pc' := 16) (tgt := 20) ha (by decide) dX10_binds_13 rfl rfl (fun c2 => ?_) (fun c2 => ?_)
    · refine g_iload_n (pc' := 21) 0 dX10_binds_20 rfl rfl ?_
      refine g_bipush (pc' := 23) (v := 28) dX10_binds_21 rfl (by decide) ?_
      refine g_ic_ne (pc' := 26) (tgt := 30) ha (by decide) dX10_binds_23 rfl rfl (fun c3 => ?_) (fun c3 => ?_)
      · refine g_iload_n (pc' := 31) 0 dX10_binds_30 rfl rfl ?_
        refine g_bipush (pc' := 33) (v := 27) dX10_binds_31 rfl (by decide) ?_
        refine g_ic_ne (pc' := 36) (tgt := 40) ha (by decide) dX10_binds_33 rfl rfl (fun c4 => ?_) (fun c4 => ?_)
        · refine g_iload_n (pc' := 41) 0 dX10_binds_40 rfl rfl ?_
          refine g_bipush (pc' := 43) (v := 24) dX10_binds_41 rfl (by decide) ?_
          refine g_ic_lt (pc' := 46) (tgt := 50) ha (by decide) dX10_binds_43 rfl rfl (fun c5 => ?_) (fun c5 => ?_)
          · refine g_iload_n (pc' := 51) 0 dX10_binds_50 rfl rfl ?_
            refine g_bipush (pc' := 53) (v := 22) dX10_binds_51 rfl (by decide) ?_
            refine g_ic_lt (pc' := 56) (tgt := 61) ha (by decide) dX10_binds_53 rfl rfl (fun c6 => ?_) (fun c6 => ?_)
            · refine g_iconst (pc' := 62) dX10_binds_61 rfl ?_
              refine g_ireturn dX10_binds_62 ?_
              exact ⟨rfl, bndE (by omega)⟩
            · refine g_bipush (pc' := 58) (v := 6) dX10_binds_56 rfl (by decide) ?_
              refine g_goto (tgt := 62) dX10_binds_58 rfl ?_
              refine g_ireturn dX10_binds_62 ?_
              exact ⟨rfl, bndE (by omega)⟩
          · refine g_iconst (pc' := 47) dX10_binds_46 rfl ?_
            refine g_goto (tgt := 62) dX10_binds_47 rfl ?_
            refine g_ireturn dX10_binds_62 ?_
            exact ⟨rfl, bndE (by omega)⟩
        · refine g_iconst (pc' := 37) dX10_binds_36 rfl ?_
          refine g_goto (tgt := 62) dX10_binds_37 rfl ?_
          refine g_ireturn dX10_binds_62 ?_
          exact ⟨rfl, bndE (by omega)⟩
      · refine g_iconst (pc' := 27) dX10_binds_26 rfl ?_
        refine g_goto (tgt := 62) dX10_binds_27 rfl ?_
        refine g_ireturn dX10_binds_62 ?_
        exact ⟨rfl, bndE (by omega)⟩
    · refine g_iconst (pc' := 17) dX10_binds_16 rfl ?_
      refine g_goto (tgt := 62) dX10_binds_17 rfl ?_
      refine g_ireturn dX10_binds_62 ?_
      exact ⟨rfl, bndE (by omega)⟩
  · refine g_iconst (pc' := 7) dX10_binds_6 rfl ?_
    refine g_goto (tgt := 62) dX10_binds_7 rfl ?_
    refine g_ireturn dX10_binds_62 ?_
    exact ⟨rfl, bndE (by omega)⟩
set_option maxHeartbeats 4000000 in
set_option maxRecDepth 100000 in
theorem l_X10_settle_0 (X : Cx) (M : Mm) (hi : IM M) (l : Int) (hl : inI l) (F0 : Int) (hs : SI M F0) (hl6 : 1 ≤ l ∧ l ≤ 6) : ∀ (kk : Nat)  (M1 : Mm) (ic1 : IM M1) (fr1 : Fr (fun c => c = 97 ∨ c = 108 ∨ c = 109) M M1) (q97_12 : (M1 97 12 = M 97 12)) (q97_19 : (M1 97 19 = M 97 19)) (q97_24 : (M1 97 24 = M 97 24)) (q97_28 : (M1 97 28 = M 97 28)) (q97_13 : (M1 97 13 = M 97 13)) (q97_14 : (M1 97 14 = M 97 14)) (q97_15 : (M1 97 15 = M 97 15)) (q97_16 : (M1 97 16 = M 97 16)) (q97_18 : (M1 97 18 = M 97 18)) (si1 : SI M1 F0) (ht1 : HT M M1 F0) (lo1 : LO M M1 F0) (sq1 : STQ M M1 l) (sx1 : SX M M1), (M1 97 27).toNat = kk → G X 1 RX10 cX10_settle 2 none (Qv (fun M1 => IM M1 ∧ Fr (fun c => c = 97 ∨ c = 108 ∨ c = 109) M M1 ∧ M1 97 12 = M 97 12 ∧ M1 97 19 = M 97 19 ∧ M1 97 24 = M 97 24 ∧ M1 97 28 = M 97 28 ∧ M1 97 13 = M 97 13 ∧ M1 97 14 = M 97 14 ∧ M1 97 15 = M 97 15 ∧ M1 97 16 = M 97 16 ∧ M1 97 18 = M 97 18 ∧ (SI M1 F0 ∧ HT M M1 F0 ∧ LO M M1 F0 ∧ STP M M1 l ∧ SX M M1))) 0 [(0, vr X 97), (1, vi l)] [] M1 := by
  intro kk
  induction kk using Nat.strongRecOn with
  | ind kk ih =>
    intro M1 ic1 fr1 q97_12 q97_19 q97_24 q97_28 q97_13 q97_14 q97_15 q97_16 q97_18 si1 ht1 lo1 sq1 sx1 hmes
    have sa := si1.ar
    refine g_aload_n (pc' := 1) 0 dX10_settle_0 rfl rfl ?_
    refine g_getI (pc' := 4) dX10_settle_1 rfl f_X10_194 rfl rfl (fun v1 ev1 rv1 => ?_)
    refine g_if_le (pc' := 7) (tgt := 101) rv1 dX10_settle_4 rfl rfl (fun c2 => ?_) (fun c2 => ?_)
    · refine g_vreturn dX10_settle_101 ?_
      exact ⟨ic1, fr1, q97_12, q97_19, q97_24, q97_28, q97_13, q97_14, q97_15, q97_16, q97_18, si1, ht1, lo1, STQ.fin sq1 (Or.inl (by omega)), sx1⟩
    · refine g_aload_n (pc' := 8) 0 dX10_settle_7 rfl rfl ?_
      refine g_getR (pc' := 11) dX10_settle_8 rfl f_X10_52 rfl rfl ?_
      refine g_aload_n (pc' := 12) 0 dX10_settle_11 rfl rfl ?_
      refine g_getI (pc' := 15) dX10_settle_12 rfl f_X10_194 rfl rfl (fun v3 ev3 rv3 => ?_)
      obtain rfl : v1 = v3 := ev1.trans ev3.symm
      refine g_iconst (pc' := 16) dX10_settle_15 rfl ?_
      refine g_isub (pc' := 17) dX10_settle_16 rfl ?_
      refine g_iald (pc' := 18) dX10_settle_17 rfl rfl (by omega) (by omega) (fun v4 ev4 rv4 => ?_)
      have gv4 : v4 = M1 110 (v1 - 1).toNat := by rw [ev4]
      have dv4 := SI.pile si1 (i := (v1 - 1)) (by omega) (by omega) gv4
      refine g_callSip (pc' := 21) (As := [vi v4]) (S := []) dX10_settle_18 rfl m_X10_197 w_X10_binds (c_X10_binds X M1 v4 rv4) rfl (by decide) (by decide) rfl (Nat.le_of_ble_eq_true rfl) (fun z6 q5 => ?_)
      refine g_iload_n (pc' := 22) 1 dX10_settle_21 rfl rfl ?_
      refine g_ic_lt (pc' := 25) (tgt := 101) ⟨by omega, by omega⟩ hl dX10_settle_22 rfl rfl (fun c7 => ?_) (fun c7 => ?_)
      · refine g_vreturn dX10_settle_101 ?_
        exact ⟨ic1, fr1, q97_12, q97_19, q97_24, q97_28, q97_13, q97_14, q97_15, q97_16, q97_18, si1, ht1, lo1, STQ.fin sq1 (Or.inr (by rw [← fr1 110 (by decide), ← show (v1 - 1) = M1 97 27 - 1 by omega, ← gv4]; omega)), sx1⟩
      · refine g_aload_n (pc' := 26) 0 dX10_settle_25 rfl rfl ?_
        refine g_dup (pc' := 27) dX10_settle_26 rfl rfl ?_
        refine g_getI (pc' := 30) dX10_settle_27 rfl f_X10_194 rfl rfl (fun v8 ev8 rv8 => ?_)
        obtain rfl : v1 = v8 := ev1.trans ev8.symm
        refine g_iconst (pc' := 31) dX10_settle_30 rfl ?_
        refine g_isub (pc' := 32) dX10_settle_31 rfl ?_
        refine g_putI (pc' := 35) dX10_settle_32 rfl p_X10_194 rfl rfl ⟨by omega, by omega⟩ (fun M9 hM9 => ?_)
        have iM9 : IM M9 := IM.wr ic1 hM9 (by unfold okv; first | decide | omega)
        have fM9 : Fr (fun c => c = 97 ∨ c = 108 ∨ c = 109) M M9 := Fr.wr fr1 hM9 (by first | decide | omega | (dsimp only; omega))
        have q97_12_M9 : (M9 97 12 = M 97 12) := (show M9 97 12 = M1 97 12 by rw [hM9]; exact mu_ne _ _ (by first | decide | omega)).trans q97_12
        have q97_19_M9 : (M9 97 19 = M 97 19) := (show M9 97 19 = M1 97 19 by rw [hM9]; exact mu_ne _ _ (by first | decide | omega)).trans q97_19
        have q97_24_M9 : (M9 97 24 = M 97 24) := (show M9 97 24 = M1 97 24 by rw [hM9]; exact mu_ne _ _ (by first | decide | omega)).trans q97_24
        have q97_28_M9 : (M9 97 28 = M 97 28) := (show M9 97 28 = M1 97 28 by rw [hM9]; exact mu_ne _ _ (by first | decide | omega)).trans q97_28
        have q97_13_M9 : (M9 97 13 = M 97 13) := (show M9 97 13 = M1 97 13 by rw [hM9]; exact mu_ne _ _ (by first | decide | omega)).trans q97_13
        have q97_14_M9 : (M9 97 14 = M 97 14) := (show M9 97 14 = M1 97 14 by rw [hM9]; exact mu_ne _ _ (by first | decide | omega)).trans q97_14
        have q97_15_M9 : (M9 97 15 = M 97 15) := (show M9 97 15 = M1 97 15 by rw [hM9]; exact mu_ne _ _ (by first | decide | omega)).trans q97_15
        have q97_16_M9 : (M9 97 16 = M 97 16) := (show M9 97 16 = M1 97 16 by rw [hM9]; exact mu_ne _ _ (by first | decide | omega)).trans q97_16
        have q97_18_M9 : (M9 97 18 = M 97 18) := (show M9 97 18 = M1 97 18 by rw [hM9]; exact mu_ne _ _ (by first | decide | omega)).trans q97_18
        have wM9_97_13 : M9 97 13 = M1 97 13 := by rw [hM9]; exact mu_ne _ _ (by first | decide | omega)
        have wM9_97_21 : M9 97 21 = M1 97 21 := by rw [hM9]; exact mu_ne _ _ (by first | decide | omega)
        have xM9_97_27 : M9 97 27 = v1 - 1 := by rw [hM9]; exact mu_at _ _ _ _
        refine g_aload_n (pc' := 36) 0 dX10_settle_35 rfl rfl ?_
        refine g_getR (pc' := 39) dX10_settle_36 rfl f_X10_52 rfl rfl ?_
        refine g_aload_n (pc' := 40) 0 dX10_settle_39 rfl rfl ?_
        refine g_getI (pc' := 43) dX10_settle_40 rfl f_X10_194 rfl rfl (fun v10 ev10 rv10 => ?_)
        have yv10 : v10 = v1 - 1 := ev10.trans xM9_97_27
        refine g_iald (pc' := 44) dX10_settle_43 rfl rfl (by omega) (by omega) (fun v11 ev11 rv11 => ?_)
        have gv11 : v11 = M1 110 v10.toNat := by rw [ev11, hM9, mu_cell _ _ (by decide)]
        have dv11 := SI.pile si1 (i := v10) (by omega) (by omega) gv11
        have uv11 : v11 = v4 := by rw [gv11, gv4, show v10 = (v1 - 1) by omega]
        refine g_bipush (pc' := 46) (v := 28) dX10_settle_44 rfl (by decide) ?_
        refine g_ic_eq (pc' := 49) (tgt := 63) rv11 (by decide) dX10_settle_46 rfl rfl (fun c12 => ?_) (fun c12 => ?_)
        · refine g_aload_n (pc' := 64) 0 dX10_settle_63 rfl rfl ?_
          refine g_getR (pc' := 67) dX10_settle_64 rfl f_X10_49 rfl rfl ?_
          refine g_aload_n (pc' := 68) 0 dX10_settle_67 rfl rfl ?_
          refine g_getR (pc' := 71) dX10_settle_68 rfl f_X10_55 rfl rfl ?_
          refine g_aload_n (pc' := 72) 0 dX10_settle_71 rfl rfl ?_
          refine g_getI (pc' := 75) dX10_settle_72 rfl f_X10_194 rfl rfl (fun v13 ev13 rv13 => ?_)
          obtain rfl : v10 = v13 := ev10.trans ev13.symm
          refine g_iald (pc' := 76) dX10_settle_75 rfl rfl (by omega) (by omega) (fun v14 ev14 rv14 => ?_)
          have gv14 : v14 = M1 111 v10.toNat := by rw [ev14, hM9, mu_cell _ _ (by decide)]
          have dv14 := SI.at_ si1 (i := v10) (by omega) (by omega) (v := v4) (by rw [show v10 = (v1 - 1) by omega]; exact gv4) (by omega) gv14
          refine g_aload_n (pc' := 77) 0 dX10_settle_76 rfl rfl ?_
          refine g_getI (pc' := 80) dX10_settle_77 rfl f_X10_191 rfl rfl (fun v15 ev15 rv15 => ?_)
          refine g_iast (pc' := 81) dX10_settle_80 rfl rfl (by omega) (by omega) rv15 (fun M16 hM16 => ?_)
          have iM16 : IM M16 := IM.wr iM9 hM16 (by unfold okv; first | decide | omega)
          have fM16 : Fr (fun c => c = 97 ∨ c = 108 ∨ c = 109) M M16 := Fr.wr fM9 hM16 (by first | decide | omega | (dsimp only; omega))
          have q97_12_M16 : (M16 97 12 = M 97 12) := (show M16 97 12 = M9 97 12 by rw [hM16]; exact mu_ne _ _ (by first | decide | omega)).trans q97_12_M9
          have q97_19_M16 : (M16 97 19 = M 97 19) := (show M16 97 19 = M9 97 19 by rw [hM16]; exact mu_ne _ _ (by first | decide | omega)).trans q97_19_M9
          have q97_24_M16 : (M16 97 24 = M 97 24) := (show M16 97 24 = M9 97 24 by rw [hM16]; exact mu_ne _ _ (by first | decide | omega)).trans q97_24_M9
          have q97_28_M16 : (M16 97 28 = M 97 28) := (show M16 97 28 = M9 97 28 by rw [hM16]; exact mu_ne _ _ (by first | decide | omega)).trans q97_28_M9
          have q97_13_M16 : (M16 97 13 = M 97 13) := (show M16 97 13 = M9 97 13 by rw [hM16]; exact mu_ne _ _ (by first | decide | omega)).trans q97_13_M9
          have q97_14_M16 : (M16 97 14 = M 97 14) := (show M16 97 14 = M9 97 14 by rw [hM16]; exact mu_ne _ _ (by first | decide | omega)).trans q97_14_M9
          have q97_15_M16 : (M16 97 15 = M 97 15) := (show M16 97 15 = M9 97 15 by rw [hM16]; exact mu_ne _ _ (by first | decide | omega)).trans q97_15_M9
          have q97_16_M16 : (M16 97 16 = M 97 16) := (show M16 97 16 = M9 97 16 by rw [hM16]; exact mu_ne _ _ (by first | decide | omega)).trans q97_16_M9
          have q97_18_M16 : (M16 97 18 = M 97 18) := (show M16 97 18 = M9 97 18 by rw [hM16]; exact mu_ne _ _ (by first | decide | omega)).trans q97_18_M9
          have wM16_97_13 : M16 97 13 = M9 97 13 := by rw [hM16]; exact mu_ne _ _ (by first | decide | omega)
          have wM16_97_21 : M16 97 21 = M9 97 21 := by rw [hM16]; exact mu_ne _ _ (by first | decide | omega)
          have wM16_97_27 : M16 97 27 = M9 97 27 := by rw [hM16]; exact mu_ne _ _ (by first | decide | omega)
          have xM16_97_27 : M16 97 27 = v1 - 1 := (show M16 97 27 = M9 97 27 by rw [hM16]; exact mu_ne _ _ (by first | decide | omega)).trans xM9_97_27
          have CM16_108 : M16 108 = M1 108 := by rw [hM16, mu_cell _ _ (by decide), hM9, mu_cell _ _ (by decide)]
          have CM16_110 : M16 110 = M1 110 := by rw [hM16, mu_cell _ _ (by decide), hM9, mu_cell _ _ (by decide)]
          have CM16_111 : M16 111 = M1 111 := by rw [hM16, mu_cell _ _ (by decide), hM9, mu_cell _ _ (by decide)]
          have CM16_109 : M16 109 = ms (M1 109) v14.toNat v15 := by rw [hM16, mu_is, hM9, mu_cell _ _ (by decide)]
          have gv0 : v4 = M1 110 (M1 97 27 - 1).toNat := by rw [gv4, show (v1 - 1) = M1 97 27 - 1 by omega]
          have gw0 : v14 = M1 111 (M1 97 27 - 1).toNat := by rw [gv14, show v10 = M1 97 27 - 1 by omega]
          have siM16 : SI M16 F0 := SI.drop si1 (by omega) (by omega) CM16_110 CM16_111 (by omega) (by omega)
          have htM16 : HT M M16 F0 := fun z => HI.patch si1 (ht1 z) (by omega) (by omega) gv0 (by omega) CM16_108 gw0 (by omega) CM16_109 CM16_110 CM16_111 (by omega)
          have loM16 : LO M M16 F0 := LO.tr lo1 (LO.ar CM16_108 CM16_109 (by omega))
          have bqM16 : l ≤ bnd (M 110 (M1 97 27 - 1).toNat) := by rw [← fr1 110 (by decide), ← gv0]; omega
          have sqM16 : STQ M M16 l := STQ.step sq1 (by omega) (by omega) bqM16
          have sxM16 : SX M M16 := SX.drop sx1 (by omega) (by omega) (by omega)
          refine g_goto (tgt := 0) dX10_settle_81 rfl ?_
          refine g_sub [0, 1] rfl ?_
          exact ih _ (by omega) M16 iM16 fM16 q97_12_M16 q97_19_M16 q97_24_M16 q97_28_M16 q97_13_M16 q97_14_M16 q97_15_M16 q97_16_M16 q97_18_M16 siM16 htM16 loM16 sqM16 sxM16 rfl
        · refine g_aload_n (pc' := 50) 0 dX10_settle_49 rfl rfl ?_
          refine g_getR (pc' := 53) dX10_settle_50 rfl f_X10_52 rfl rfl ?_
          refine g_aload_n (pc' := 54) 0 dX10_settle_53 rfl rfl ?_
          refine g_getI (pc' := 57) dX10_settle_54 rfl f_X10_194 rfl rfl (fun v17 ev17 rv17 => ?_)
          obtain rfl : v10 = v17 := ev10.trans ev17.symm
          refine g_iald (pc' := 58) dX10_settle_57 rfl rfl (by omega) (by omega) (fun v18 ev18 rv18 => ?_)
          obtain rfl : v11 = v18 := ev11.trans ev18.symm
          refine g_bipush (pc' := 60) (v := 29) dX10_settle_58 rfl (by decide) ?_
          refine g_ic_ne (pc' := 63) (tgt := 84) rv11 (by decide) dX10_settle_60 rfl rfl (fun c19 => ?_) (fun c19 => ?_)
          · refine g_aload_n (pc' := 85) 0 dX10_settle_84 rfl rfl ?_
            refine g_aload_n (pc' := 86) 0 dX10_settle_85 rfl rfl ?_
            refine g_getR (pc' := 89) dX10_settle_86 rfl f_X10_52 rfl rfl ?_
            refine g_aload_n (pc' := 90) 0 dX10_settle_89 rfl rfl ?_
            refine g_getI (pc' := 93) dX10_settle_90 rfl f_X10_194 rfl rfl (fun v20 ev20 rv20 => ?_)
            obtain rfl : v10 = v20 := ev10.trans ev20.symm
            refine g_iald (pc' := 94) dX10_settle_93 rfl rfl (by omega) (by omega) (fun v21 ev21 rv21 => ?_)
            obtain rfl : v11 = v21 := ev11.trans ev21.symm
            have bb0 := bnd_lo (x := v4) (l := l) (by omega) (by omega)
            have nlt := SI.lt si1 (by omega) (show (v1 - 1) = M1 97 27 - 1 by omega) gv4 (by omega)
            refine g_iconst (pc' := 95) dX10_settle_94 rfl ?_
            refine g_callVv (pc' := 98) (As := [vi v11, vi 0]) (b := 97) (S := []) dX10_settle_95 rfl m_X10_200 w_X10_emit (c_X10_emit X M9 iM9 v11 rv11 0 (by decide) (by omega)) rfl ⟨_, _, _, rfl, rfl, rfl⟩ (by decide) (by decide) rfl (Nat.le_of_ble_eq_true rfl) (fun M23 q22 => ?_)
            obtain ⟨iM23, fM230, eM23_97_12, eM23_97_19, eM23_97_24, eM23_97_27, eM23_97_28, eM23_97_13, eM23_97_14, eM23_97_15, eM23_97_16, eM23_97_18, pM23⟩ := q22
            have fM23 : Fr (fun c => c = 97 ∨ c = 108 ∨ c = 109) M M23 := Fr.tr fM9 fM230 (fun _ z => z)
            have q97_12_M23 : (M23 97 12 = M 97 12) := eM23_97_12.trans q97_12_M9
            have q97_19_M23 : (M23 97 19 = M 97 19) := eM23_97_19.trans q97_19_M9
            have q97_24_M23 : (M23 97 24 = M 97 24) := eM23_97_24.trans q97_24_M9
            have q97_28_M23 : (M23 97 28 = M 97 28) := eM23_97_28.trans q97_28_M9
            have q97_13_M23 : (M23 97 13 = M 97 13) := eM23_97_13.trans q97_13_M9
            have q97_14_M23 : (M23 97 14 = M 97 14) := eM23_97_14.trans q97_14_M9
            have q97_15_M23 : (M23 97 15 = M 97 15) := eM23_97_15.trans q97_15_M9
            have q97_16_M23 : (M23 97 16 = M 97 16) := eM23_97_16.trans q97_16_M9
            have q97_18_M23 : (M23 97 18 = M 97 18) := eM23_97_18.trans q97_18_M9
            have wM23_97_13 : M23 97 13 = M9 97 13 := eM23_97_13
            have wM23_97_27 : M23 97 27 = M9 97 27 := eM23_97_27
            have xM23_97_27 : M23 97 27 = v1 - 1 := eM23_97_27.trans xM9_97_27
            have CM23_110 : M23 110 = M1 110 := by rw [fM230 110 (by decide), hM9, mu_cell _ _ (by decide)]
            have CM23_111 : M23 111 = M1 111 := by rw [fM230 111 (by decide), hM9, mu_cell _ _ (by decide)]
            obtain ⟨pA, pB, pC⟩ := pM23
            have kA : M9 97 21 = M1 97 21 := by omega
            rw [kA, hM9, mu_cell _ _ (by decide)] at pA pB
            have gv0 : v11 = M1 110 (M1 97 27 - 1).toNat := by rw [uv11, gv4, show (v1 - 1) = M1 97 27 - 1 by omega]
            have bb := bnd_lo (x := v11) (l := l) (by rw [uv11]; omega) (by omega)
            have siM23 : SI M23 F0 := SI.pop si1 (by omega) (by omega) CM23_110 CM23_111 (by omega) (Or.inl ⟨by omega, by rw [← gv0]; omega, by rw [← gv0]; omega⟩)
            have htM23 : HT M M23 F0 := fun z => HI.pop si1 (ht1 z) (by omega) (by omega) gv0 (by omega) pA pB CM23_110 CM23_111 (by omega)
            have loM23 : LO M M23 F0 := LO.tr lo1 (LO.em pA pB (by omega) (by omega))
            have bqM23 : l ≤ bnd (M 110 (M1 97 27 - 1).toNat) := by rw [← fr1 110 (by decide), ← gv0, uv11]; omega
            have sqM23 : STQ M M23 l := STQ.step sq1 (by omega) (by omega) bqM23
            have sxM23 : SX M M23 := SX.pop sx1 (by omega) (by omega) (by rw [← fr1 110 (by decide), ← gv0, uv11]; omega) (by omega)
            refine g_goto (tgt := 0) dX10_settle_98 rfl ?_
            refine g_sub [0, 1] rfl ?_
            exact ih _ (by omega) M23 iM23 fM23 q97_12_M23 q97_19_M23 q97_24_M23 q97_28_M23 q97_13_M23 q97_14_M23 q97_15_M23 q97_16_M23 q97_18_M23 siM23 htM23 loM23 sqM23 sxM23 rfl
          · refine g_aload_n (pc' := 64) 0 dX10_settle_63 rfl rfl ?_
            refine g_getR (pc' := 67) dX10_settle_64 rfl f_X10_49 rfl rfl ?_
            refine g_aload_n (pc' := 68) 0 dX10_settle_67 rfl rfl ?_
            refine g_getR (pc' := 71) dX10_settle_68 rfl f_X10_55 rfl rfl ?_
            refine g_aload_n (pc' := 72) 0 dX10_settle_71 rfl rfl ?_
            refine g_getI (pc' := 75) dX10_settle_72 rfl f_X10_194 rfl rfl (fun v24 ev24 rv24 => ?_)
            obtain rfl : v10 = v24 := ev10.trans ev24.symm
            refine g_iald (pc' := 76) dX10_settle_75 rfl rfl (by omega) (by omega) (fun v25 ev25 rv25 => ?_)
            have gv25 : v25 = M1 111 v10.toNat := by rw [ev25, hM9, mu_cell _ _ (by decide)]
            have dv25 := SI.at_ si1 (i := v10) (by omega) (by omega) (v := v4) (by rw [show v10 = (v1 - 1) by omega]; exact gv4) (by omega) gv25
            refine g_aload_n (pc' := 77) 0 dX10_settle_76 rfl rfl ?_
            refine g_getI (pc' := 80) dX10_settle_77 rfl f_X10_191 rfl rfl (fun v26 ev26 rv26 => ?_)
            refine g_iast (pc' := 81) dX10_settle_80 rfl rfl (by omega) (by omega) rv26 (fun M27 hM27 => ?_)
            have iM27 : IM M27 := IM.wr iM9 hM27 (by unfold okv; first | decide | omega)
            have fM27 : Fr (fun c => c = 97 ∨ c = 108 ∨ c = 109) M M27 := Fr.wr fM9 hM27 (by first | decide | omega | (dsimp only; omega))
            have q97_12_M27 : (M27 97 12 = M 97 12) := (show M27 97 12 = M9 97 12 by rw [hM27]; exact mu_ne _ _ (by first | decide | omega)).trans q97_12_M9
            have q97_19_M27 : (M27 97 19 = M 97 19) := (show M27 97 19 = M9 97 19 by rw [hM27]; exact mu_ne _ _ (by first | decide | omega)).trans q97_19_M9
            have q97_24_M27 : (M27 97 24 = M 97 24) := (show M27 97 24 = M9 97 24 by rw [hM27]; exact mu_ne _ _ (by first | decide | omega)).trans q97_24_M9
            have q97_28_M27 : (M27 97 28 = M 97 28) := (show M27 97 28 = M9 97 28 by rw [hM27]; exact mu_ne _ _ (by first | decide | omega)).trans q97_28_M9
            have q97_13_M27 : (M27 97 13 = M 97 13) := (show M27 97 13 = M9 97 13 by rw [hM27]; exact mu_ne _ _ (by first | decide | omega)).trans q97_13_M9
            have q97_14_M27 : (M27 97 14 = M 97 14) := (show M27 97 14 = M9 97 14 by rw [hM27]; exact mu_ne _ _ (by first | decide | omega)).trans q97_14_M9
            have q97_15_M27 : (M27 97 15 = M 97 15) := (show M27 97 15 = M9 97 15 by rw [hM27]; exact mu_ne _ _ (by first | decide | omega)).trans q97_15_M9
            have q97_16_M27 : (M27 97 16 = M 97 16) := (show M27 97 16 = M9 97 16 by rw [hM27]; exact mu_ne _ _ (by first | decide | omega)).trans q97_16_M9
            have q97_18_M27 : (M27 97 18 = M 97 18) := (show M27 97 18 = M9 97 18 by rw [hM27]; exact mu_ne _ _ (by first | decide | omega)).trans q97_18_M9
            have wM27_97_13 : M27 97 13 = M9 97 13 := by rw [hM27]; exact mu_ne _ _ (by first | decide | omega)
            have wM27_97_21 : M27 97 21 = M9 97 21 := by rw [hM27]; exact mu_ne _ _ (by first | decide | omega)
            have wM27_97_27 : M27 97 27 = M9 97 27 := by rw [hM27]; exact mu_ne _ _ (by first | decide | omega)
            have xM27_97_27 : M27 97 27 = v1 - 1 := (show M27 97 27 = M9 97 27 by rw [hM27]; exact mu_ne _ _ (by first | decide | omega)).trans xM9_97_27
            have CM27_108 : M27 108 = M1 108 := by rw [hM27, mu_cell _ _ (by decide), hM9, mu_cell _ _ (by decide)]
            have CM27_110 : M27 110 = M1 110 := by rw [hM27, mu_cell _ _ (by decide), hM9, mu_cell _ _ (by decide)]
            have CM27_111 : M27 111 = M1 111 := by rw [hM27, mu_cell _ _ (by decide), hM9, mu_cell _ _ (by decide)]
            have CM27_109 : M27 109 = ms (M1 109) v25.toNat v26 := by rw [hM27, mu_is, hM9, mu_cell _ _ (by decide)]
            have gv0 : v4 = M1 110 (M1 97 27 - 1).toNat := by rw [gv4, show (v1 - 1) = M1 97 27 - 1 by omega]
            have gw0 : v25 = M1 111 (M1 97 27 - 1).toNat := by rw [gv25, show v10 = M1 97 27 - 1 by omega]
            have siM27 : SI M27 F0 := SI.drop si1 (by omega) (by omega) CM27_110 CM27_111 (by omega) (by omega)
            have htM27 : HT M M27 F0 := fun z => HI.patch si1 (ht1 z) (by omega) (by omega) gv0 (by omega) CM27_108 gw0 (by omega) CM27_109 CM27_110 CM27_111 (by omega)
            have loM27 : LO M M27 F0 := LO.tr lo1 (LO.ar CM27_108 CM27_109 (by omega))
            have bqM27 : l ≤ bnd (M 110 (M1 97 27 - 1).toNat) := by rw [← fr1 110 (by decide), ← gv0]; omega
            have sqM27 : STQ M M27 l := STQ.step sq1 (by omega) (by omega) bqM27
            have sxM27 : SX M M27 := SX.drop sx1 (by omega) (by omega) (by omega)
            refine g_goto (tgt := 0) dX10_settle_81 rfl ?_
            refine g_sub [0, 1] rfl ?_
            exact ih _ (by omega) M27 iM27 fM27 q97_12_M27 q97_19_M27 q97_24_M27 q97_28_M27 q97_13_M27 q97_14_M27 q97_15_M27 q97_16_M27 q97_18_M27 siM27 htM27 loM27 sqM27 sxM27 rfl
set_option maxHeartbeats 4000000 in
set_option maxRecDepth 100000 in
theorem c_X10_settle (X : Cx) (M : Mm) (hi : IM M) (l : Int) (hl : inI l) (F0 : Int) (hs : SI M F0) (hl6 : 1 ≤ l ∧ l ≤ 6) : Con X 1 yX10_settle cX10_settle 2 none [vr X 97, vi l] M (Qv (fun M1 => IM M1 ∧ Fr (fun c => c = 97 ∨ c = 108 ∨ c = 109) M M1 ∧ M1 97 12 = M 97 12 ∧ M1 97 19 = M 97 19 ∧ M1 97 24 = M 97 24 ∧ M1 97 28 = M 97 28 ∧ M1 97 13 = M 97 13 ∧ M1 97 14 = M 97 14 ∧ M1 97 15 = M 97 15 ∧ M1 97 16 = M 97 16 ∧ M1 97 18 = M 97 18 ∧ (SI M1 F0 ∧ HT M M1 F0 ∧ LO M M1 F0 ∧ STP M M1 l ∧ SX M M1))) := by
  refine Con.ofG rfl (Nat.le_of_ble_eq_true rfl) ?_
  show G X 1 RX10 cX10_settle 2 none (Qv (fun M1 => IM M1 ∧ Fr (fun c => c = 97 ∨ c = 108 ∨ c = 109) M M1 ∧ M1 97 12 = M 97 12 ∧ M1 97 19 = M 97 19 ∧ M1 97 24 = M 97 24 ∧ M1 97 28 = M 97 28 ∧ M1 97 13 = M 97 13 ∧ M1 97 14 = M 97 14 ∧ M1 97 15 = M 97 15 ∧ M1 97 16 = M 97 16 ∧ M1 97 18 = M 97 18 ∧ (SI M1 F0 ∧ HT M M1 F0 ∧ LO M M1 F0 ∧ STP M M1 l ∧ SX M M1))) 0 [(0, vr X 97), (1, vi l)] [] M
  refine g_sub [0, 1] rfl ?_
  exact l_X10_settle_0 X M hi l hl F0 hs hl6 _ M hi Fr.rf rfl rfl rfl rfl rfl rfl rfl rfl rfl hs (fun z => z) (LO.rf _ _) (STQ.rf _ (hs.ar).2.1.1) (SX.rf _) rfl
set_option maxHeartbeats 4000000 in
set_option maxRecDepth 100000 in
theorem l_X10_inner_4 (X : Cx) (M : Mm) (hi : IM M) (F0 : Int) (hs : SI M F0) : ∀ (kk : Nat) (its : Int) (k : Int) (ip : INNp M its k) (h0 : 0 ≤ k ∧ k ≤ M 97 27) (h1 : -1 ≤ its ∧ its ≤ 31), (M 97 27 - k).toNat = kk → G X 0 RX10 cX10_inner 3 (some .int) (Qi (fun r M1 => M1 = M ∧ (INN M r ∧ (-1 ≤ r ∧ r ≤ 31)))) 4 [(1, vi its), (2, vi k), (0, vr X 97)] [] M := by
  intro kk
  induction kk using Nat.strongRecOn with
  | ind kk ih =>
    intro its k ip h0 h1 hmes
    have sa := hs.ar
    refine g_iload_n (pc' := 5) 1 dX10_inner_4 rfl rfl ?_
    refine g_aload_n (pc' := 6) 2 dX10_inner_5 rfl rfl ?_
    refine g_getI (pc' := 9) dX10_inner_6 rfl f_X10_194 rfl rfl (fun v1 ev1 rv1 => ?_)
    refine g_ic_ge (pc' := 12) (tgt := 40) ⟨by omega, by omega⟩ rv1 dX10_inner_9 rfl rfl (fun c2 => ?_) (fun c2 => ?_)
    · refine g_iload_n (pc' := 41) 0 dX10_inner_40 rfl rfl ?_
      refine g_ireturn dX10_inner_41 ?_
      exact ⟨rfl, (show INNp M its (M 97 27) from (show M 97 27 = k by omega) ▸ ip), by omega⟩
    · refine g_aload_n (pc' := 13) 2 dX10_inner_12 rfl rfl ?_
      refine g_getR (pc' := 16) dX10_inner_13 rfl f_X10_52 rfl rfl ?_
      refine g_iload_n (pc' := 17) 1 dX10_inner_16 rfl rfl ?_
      refine g_iald (pc' := 18) dX10_inner_17 rfl rfl (by omega) (by omega) (fun v3 ev3 rv3 => ?_)
      have dv3 := SI.pile hs (i := k) (by omega) (by omega) ev3
      refine g_bipush (pc' := 20) (v := 30) dX10_inner_18 rfl (by decide) ?_
      refine g_ic_lt (pc' := 23) (tgt := 32) rv3 (by decide) dX10_inner_20 rfl rfl (fun c4 => ?_) (fun c4 => ?_)
      · refine g_iload_n (pc' := 33) 0 dX10_inner_32 rfl rfl ?_
        refine g_istore_n (pc' := 34) (i := 1) (L' := [(1, vi its), (2, vi k), (0, vr X 97)]) dX10_inner_33 rfl rfl (by decide) rfl ?_
        refine g_iinc (pc' := 37) (L' := [(2, vi (k + 1)), (1, vi its), (0, vr X 97)]) 1 dX10_inner_34 rfl rfl (by decide) rfl ?_
        refine g_goto (tgt := 4) dX10_inner_37 rfl ?_
        refine g_sub [1, 0, 2] rfl ?_
        exact ih _ (by omega) its (k + 1) (INNp.old ip ev3 (by omega) (by omega)) (by omega) (by omega) rfl
      · refine g_aload_n (pc' := 24) 2 dX10_inner_23 rfl rfl ?_
        refine g_getR (pc' := 27) dX10_inner_24 rfl f_X10_52 rfl rfl ?_
        refine g_iload_n (pc' := 28) 1 dX10_inner_27 rfl rfl ?_
        refine g_iald (pc' := 29) dX10_inner_28 rfl rfl (by omega) (by omega) (fun v5 ev5 rv5 => ?_)
        obtain rfl : v3 = v5 := ev3.trans ev5.symm
        refine g_goto (tgt := 33) dX10_inner_29 rfl ?_
        refine g_istore_n (pc' := 34) (i := 1) (L' := [(1, vi v3), (2, vi k), (0, vr X 97)]) dX10_inner_33 rfl rfl (by decide) rfl ?_
        refine g_iinc (pc' := 37) (L' := [(2, vi (k + 1)), (1, vi v3), (0, vr X 97)]) 1 dX10_inner_34 rfl rfl (by decide) rfl ?_
        refine g_goto (tgt := 4) dX10_inner_37 rfl ?_
        refine g_sub [1, 0, 2] rfl ?_
        exact ih _ (by omega) v3 (k + 1) (INNp.new ev3 (by omega) (by omega)) (by omega) (by omega) rfl
set_option maxHeartbeats 4000000 in
set_option maxRecDepth 100000 in
theorem c_X10_inner (X : Cx) (M : Mm) (hi : IM M) (F0 : Int) (hs : SI M F0) : Con X 0 yX10_inner cX10_inner 3 (some .int) [vr X 97] M (Qi (fun r M1 => M1 = M ∧ (INN M r ∧ (-1 ≤ r ∧ r ≤ 31)))) := by
  refine Con.ofG rfl (Nat.le_of_ble_eq_true rfl) ?_
  show G X 0 RX10 cX10_inner 3 (some .int) (Qi (fun r M1 => M1 = M ∧ (INN M r ∧ (-1 ≤ r ∧ r ≤ 31)))) 0 [(0, vr X 97)] [] M
  have sa := hs.ar
  refine g_iconst (pc' := 1) dX10_inner_0 rfl ?_
  refine g_istore_n (pc' := 2) (i := 1) (L' := [(1, vi (-1)), (0, vr X 97)]) dX10_inner_1 rfl rfl (by decide) rfl ?_
  refine g_iconst (pc' := 3) dX10_inner_2 rfl ?_
  refine g_istore_n (pc' := 4) (i := 2) (L' := [(2, vi 0), (1, vi (-1)), (0, vr X 97)]) dX10_inner_3 rfl rfl (by decide) rfl ?_
  refine g_sub [1, 0, 2] rfl ?_
  exact l_X10_inner_4 X M hi F0 hs _ (-1) 0 (INNp.zero _) (by omega) (by omega) rfl
set_option maxHeartbeats 4000000 in
set_option maxRecDepth 100000 in
theorem l_X10_isCompared_7 (X : Cx) (M : Mm) (hi : IM M) (F0 : Int) (hs : SI M F0) : ∀ (kk : Nat) (k : Int) (h0 : -1 ≤ k ∧ k < M 97 27), (k + 1).toNat = kk → G X 1 RX10 cX10_isCompared 2 (some .boolean) (Qi (fun r M1 => M1 = M ∧ (r = 0 ∨ r = 1))) 7 [(1, vi k), (0, vr X 97)] [] M := by
  intro kk
  induction kk using Nat.strongRecOn with
  | ind kk ih =>
    intro k h0 hmes
    have sa := hs.ar
    refine g_iload_n (pc' := 8) 0 dX10_isCompared_7 rfl rfl ?_
    refine g_if_lt (pc' := 11) (tgt := 36) ⟨by omega, by omega⟩ dX10_isCompared_8 rfl rfl (fun c1 => ?_) (fun c1 => ?_)
    · refine g_iload_n (pc' := 37) 0 dX10_isCompared_36 rfl rfl ?_
      refine g_if_lt (pc' := 40) (tgt := 63) ⟨by omega, by omega⟩ dX10_isCompared_37 rfl rfl (fun c2 => ?_) (fun c2 => ?_)
      · refine g_iconst (pc' := 64) dX10_isCompared_63 rfl ?_
        refine g_zreturn dX10_isCompared_64 (by omega) ?_
        exact ⟨rfl, by omega⟩
      · refine g_aload_n (pc' := 41) 1 dX10_isCompared_40 rfl rfl ?_
        refine g_getR (pc' := 44) dX10_isCompared_41 rfl f_X10_52 rfl rfl ?_
        refine g_iload_n (pc' := 45) 0 dX10_isCompared_44 rfl rfl ?_
        refine g_iald (pc' := 46) dX10_isCompared_45 rfl rfl (by omega) (by omega) (fun v3 ev3 rv3 => ?_)
        refine g_i2l (pc' := 47) rv3 dX10_isCompared_46 rfl ?_
        refine g_ldc2 (pc' := 50) (v := 24) dX10_isCompared_47 rfl k_X10_208 ?_
        refine g_ldc2 (pc' := 53) (v := 26) dX10_isCompared_50 rfl k_X10_210 ?_
        refine g_callSip (pc' := 56) (As := [vl v3, vl 24, vl 26]) (S := []) dX10_isCompared_53 rfl m_X10_83 w_X10_in (c_X10_in X M v3 ⟨by omega, by omega⟩ 24 (by decide) 26 (by decide)) rfl (by decide) (by decide) rfl (Nat.le_of_ble_eq_true rfl) (fun z5 q4 => ?_)
        refine g_if_eq (pc' := 59) (tgt := 63) ⟨by omega, by omega⟩ dX10_isCompared_56 rfl rfl (fun c6 => ?_) (fun c6 => ?_)
        · replace q4 := q4.resolve_left (fun h => absurd (c6.symm.trans h.1) (by decide))
          refine g_iconst (pc' := 64) dX10_isCompared_63 rfl ?_
          refine g_zreturn dX10_isCompared_64 (by omega) ?_
          exact ⟨rfl, by omega⟩
        · replace q4 := q4.resolve_right (fun h => c6 h.1)
          refine g_iconst (pc' := 60) dX10_isCompared_59 rfl ?_
          refine g_goto (tgt := 64) dX10_isCompared_60 rfl ?_
          refine g_zreturn dX10_isCompared_64 (by omega) ?_
          exact ⟨rfl, by omega⟩
    · refine g_aload_n (pc' := 12) 1 dX10_isCompared_11 rfl rfl ?_
      refine g_getR (pc' := 15) dX10_isCompared_12 rfl f_X10_52 rfl rfl ?_
      refine g_iload_n (pc' := 16) 0 dX10_isCompared_15 rfl rfl ?_
      refine g_iald (pc' := 17) dX10_isCompared_16 rfl rfl (by omega) (by omega) (fun v7 ev7 rv7 => ?_)
      refine g_i2l (pc' := 18) rv7 dX10_isCompared_17 rfl ?_
      refine g_ldc2 (pc' := 21) (v := 20) dX10_isCompared_18 rfl k_X10_204 ?_
      refine g_ldc2 (pc' := 24) (v := 23) dX10_isCompared_21 rfl k_X10_206 ?_
      refine g_callSip (pc' := 27) (As := [vl v7, vl 20, vl 23]) (S := []) dX10_isCompared_24 rfl m_X10_83 w_X10_in (c_X10_in X M v7 ⟨by omega, by omega⟩ 20 (by decide) 23 (by decide)) rfl (by decide) (by decide) rfl (Nat.le_of_ble_eq_true rfl) (fun z9 q8 => ?_)
      refine g_if_eq (pc' := 30) (tgt := 36) ⟨by omega, by omega⟩ dX10_isCompared_27 rfl rfl (fun c10 => ?_) (fun c10 => ?_)
      · replace q8 := q8.resolve_left (fun h => absurd (c10.symm.trans h.1) (by decide))
        refine g_iload_n (pc' := 37) 0 dX10_isCompared_36 rfl rfl ?_
        refine g_if_lt (pc' := 40) (tgt := 63) ⟨by omega, by omega⟩ dX10_isCompared_37 rfl rfl (fun c11 => ?_) (fun c11 => ?_)
        · refine g_iconst (pc' := 64) dX10_isCompared_63 rfl ?_
          refine g_zreturn dX10_isCompared_64 (by omega) ?_
          exact ⟨rfl, by omega⟩
        · refine g_aload_n (pc' := 41) 1 dX10_isCompared_40 rfl rfl ?_
          refine g_getR (pc' := 44) dX10_isCompared_41 rfl f_X10_52 rfl rfl ?_
          refine g_iload_n (pc' := 45) 0 dX10_isCompared_44 rfl rfl ?_
          refine g_iald (pc' := 46) dX10_isCompared_45 rfl rfl (by omega) (by omega) (fun v12 ev12 rv12 => ?_)
          obtain rfl : v7 = v12 := ev7.trans ev12.symm
          refine g_i2l (pc' := 47) rv7 dX10_isCompared_46 rfl ?_
          refine g_ldc2 (pc' := 50) (v := 24) dX10_isCompared_47 rfl k_X10_208 ?_
          refine g_ldc2 (pc' := 53) (v := 26) dX10_isCompared_50 rfl k_X10_210 ?_
          refine g_callSip (pc' := 56) (As := [vl v7, vl 24, vl 26]) (S := []) dX10_isCompared_53 rfl m_X10_83 w_X10_in (c_X10_in X M v7 ⟨by omega, by omega⟩ 24 (by decide) 26 (by decide)) rfl (by decide) (by decide) rfl (Nat.le_of_ble_eq_true rfl) (fun z14 q13 => ?_)
          refine g_if_eq (pc' := 59) (tgt := 63) ⟨by omega, by omega⟩ dX10_isCompared_56 rfl rfl (fun c15 => ?_) (fun c15 => ?_)
          · replace q13 := q13.resolve_left (fun h => absurd (c15.symm.trans h.1) (by decide))
            refine g_iconst (pc' := 64) dX10_isCompared_63 rfl ?_
            refine g_zreturn dX10_isCompared_64 (by omega) ?_
            exact ⟨rfl, by omega⟩
          · replace q13 := q13.resolve_right (fun h => c15 h.1)
            refine g_iconst (pc' := 60) dX10_isCompared_59 rfl ?_
            refine g_goto (tgt := 64) dX10_isCompared_60 rfl ?_
            refine g_zreturn dX10_isCompared_64 (by omega) ?_
            exact ⟨rfl, by omega⟩
      · replace q8 := q8.resolve_right (fun h => c10 h.1)
        refine g_iinc (pc' := 33) (L' := [(1, vi (k + (-1))), (0, vr X 97)]) 0 dX10_isCompared_30 rfl rfl (by decide) rfl ?_
        refine g_goto (tgt := 7) dX10_isCompared_33 rfl ?_
        refine g_sub [0, 1] rfl ?_
        exact ih _ (by omega) (k + (-1)) (by omega) rfl
set_option maxHeartbeats 4000000 in
set_option maxRecDepth 100000 in
theorem c_X10_isCompared (X : Cx) (M : Mm) (hi : IM M) (F0 : Int) (hs : SI M F0) : Con X 1 yX10_isCompared cX10_isCompared 2 (some .boolean) [vr X 97] M (Qi (fun r M1 => M1 = M ∧ (r = 0 ∨ r = 1))) := by
  refine Con.ofG rfl (Nat.le_of_ble_eq_true rfl) ?_
  show G X 1 RX10 cX10_isCompared 2 (some .boolean) (Qi (fun r M1 => M1 = M ∧ (r = 0 ∨ r = 1))) 0 [(0, vr X 97)] [] M
  have sa := hs.ar
  refine g_aload_n (pc' := 1) 0 dX10_isCompared_0 rfl rfl ?_
  refine g_getI (pc' := 4) dX10_isCompared_1 rfl f_X10_194 rfl rfl (fun v1 ev1 rv1 => ?_)
  refine g_iconst (pc' := 5) dX10_isCompared_4 rfl ?_
  refine g_isub (pc' := 6) dX10_isCompared_5 rfl ?_
  obtain ⟨x2, ex2⟩ : ∃ z : Int, z = v1 - 1 := ⟨_, rfl⟩
  rw [← ex2]
  refine g_istore_n (pc' := 7) (i := 1) (L' := [(1, vi x2), (0, vr X 97)]) dX10_isCompared_6 rfl rfl (by decide) rfl ?_
  refine g_sub [0, 1] rfl ?_
  exact l_X10_isCompared_7 X M hi F0 hs _ x2 (by omega) rfl
set_option maxHeartbeats 4000000 in
set_option maxRecDepth 100000 in
theorem c_X10_readNumber (X : Cx) (M : Mm) (hi : IM M) (a : Int) (ha : inI a) (htk : (0 ≤ M 97 13 ∧ M 97 13 ≤ M 97 14 ∧ M 97 14 ≤ M 97 12) ∧ (0 ≤ M 97 15 ∧ M 97 15 ≤ 3) ∧ (M 97 15 ≠ 0 → M 97 13 < M 97 14) ∧ (M 97 15 = 2 → 0 ≤ M 97 16 ∧ M 97 16 ≤ 10000009)) (ha3 : 0 ≤ a ∧ a ≤ 1000) : Con X 3 yX10_readNumber cX10_readNumber 4 (some .int) [vr X 97, vi a] M (Qi (fun r M1 => IM M1 ∧ Fr (fun c => c = 97) M M1 ∧ M1 97 12 = M 97 12 ∧ M1 97 19 = M 97 19 ∧ M1 97 21 = M 97 21 ∧ M1 97 24 = M 97 24 ∧ M1 97 27 = M 97 27 ∧ M1 97 28 = M 97 28 ∧ (M 97 13 ≤ M1 97 13 ∧ (M 97 18 ≠ 0 → M1 97 18 ≠ 0) ∧ (M1 97 18 = 0 → M 97 18 = 0 ∧ M 97 13 < M1 97 13 ∧ 0 ≤ r ∧ r ≤ a) ∧ (0 ≤ r ∧ r ≤ 1000) ∧ (0 ≤ M1 97 13 ∧ M1 97 13 ≤ M1 97 14 ∧ M1 97 14 ≤ M1 97 12) ∧ (0 ≤ M1 97 15 ∧ M1 97 15 ≤ 3) ∧ (M1 97 15 ≠ 0 → M1 97 13 < M1 97 14) ∧ (M1 97 15 = 2 → 0 ≤ M1 97 16 ∧ M1 97 16 ≤ 10000009)))) := by
  refine Con.ofG rfl (Nat.le_of_ble_eq_true rfl) ?_
  show G X 3 RX10 cX10_readNumber 4 (some .int) (Qi (fun r M1 => IM M1 ∧ Fr (fun c => c = 97) M M1 ∧ M1 97 12 = M 97 12 ∧ M1 97 19 = M 97 19 ∧ M1 97 21 = M 97 21 ∧ M1 97 24 = M 97 24 ∧ M1 97 27 = M 97 27 ∧ M1 97 28 = M 97 28 ∧ (M 97 13 ≤ M1 97 13 ∧ (M 97 18 ≠ 0 → M1 97 18 ≠ 0) ∧ (M1 97 18 = 0 → M 97 18 = 0 ∧ M 97 13 < M1 97 13 ∧ 0 ≤ r ∧ r ≤ a) ∧ (0 ≤ r ∧ r ≤ 1000) ∧ (0 ≤ M1 97 13 ∧ M1 97 13 ≤ M1 97 14 ∧ M1 97 14 ≤ M1 97 12) ∧ (0 ≤ M1 97 15 ∧ M1 97 15 ≤ 3) ∧ (M1 97 15 ≠ 0 → M1 97 13 < M1 97 14) ∧ (M1 97 15 = 2 → 0 ≤ M1 97 16 ∧ M1 97 16 ≤ 10000009)))) 0 [(0, vr X 97), (1, vi a)] [] M
  have p12 := hi.2.2.2.1
  refine g_aload_n (pc' := 1) 0 dX10_readNumber_0 rfl rfl ?_
  refine g_getI (pc' := 4) dX10_readNumber_1 rfl f_X10_174 rfl rfl (fun v1 ev1 rv1 => ?_)
  refine g_iconst (pc' := 5) dX10_readNumber_4 rfl ?_
  refine g_ic_ne (pc' := 8) (tgt := 22) rv1 (by decide) dX10_readNumber_5 rfl rfl (fun c2 => ?_) (fun c2 => ?_)
  · refine g_iconst (pc' := 23) dX10_readNumber_22 rfl ?_
    refine g_istore_n (pc' := 24) (i := 2) (L' := [(2, vi 0), (0, vr X 97), (1, vi a)]) dX10_readNumber_23 rfl rfl (by decide) rfl ?_
    refine g_iload_n (pc' := 25) 0 dX10_readNumber_24 rfl rfl ?_
    refine g_if_eq (pc' := 28) (tgt := 36) (by decide) dX10_readNumber_25 rfl rfl (fun c3 => ?_) (fun c3 => ?_)
    · refine g_iconst (pc' := 37) dX10_readNumber_36 rfl ?_
      refine g_istore_n (pc' := 38) (i := 3) (L' := [(3, vi 0), (2, vi 0), (0, vr X 97), (1, vi a)]) dX10_readNumber_37 rfl rfl (by decide) rfl ?_
      refine g_aload_n (pc' := 39) 2 dX10_readNumber_38 rfl rfl ?_
      refine g_iload_n (pc' := 40) 1 dX10_readNumber_39 rfl rfl ?_
      refine g_callVv (pc' := 43) (As := [vi 0]) (b := 97) (S := []) dX10_readNumber_40 rfl m_X10_187 w_X10_must (c_X10_must X M hi 0 (by decide) (by omega)) rfl ⟨_, _, _, rfl, rfl, rfl⟩ (by decide) (by decide) rfl (Nat.le_of_ble_eq_true rfl) (fun M5 q4 => ?_)
      obtain ⟨iM5, fM50, eM5_97_12, eM5_97_19, eM5_97_21, eM5_97_24, eM5_97_27, eM5_97_28, pM5⟩ := q4
      have fM5 : Fr (fun c => c = 97) M M5 := Fr.tr Fr.rf fM50 (fun _ z => z)
      have q97_12_M5 : (M5 97 12 = M 97 12) := eM5_97_12
      have q97_19_M5 : (M5 97 19 = M 97 19) := eM5_97_19
      have q97_21_M5 : (M5 97 21 = M 97 21) := eM5_97_21
      have q97_24_M5 : (M5 97 24 = M 97 24) := eM5_97_24
      have q97_27_M5 : (M5 97 27 = M 97 27) := eM5_97_27
      have q97_28_M5 : (M5 97 28 = M 97 28) := eM5_97_28
      refine g_iload_n (pc' := 44) 0 dX10_readNumber_43 rfl rfl ?_
      refine g_ireturn dX10_readNumber_44 ?_
      exact ⟨iM5, fM5, q97_12_M5, q97_19_M5, q97_21_M5, q97_24_M5, q97_27_M5, q97_28_M5, by omega⟩
    · exact absurd c3 (by omega)
  · refine g_aload_n (pc' := 9) 0 dX10_readNumber_8 rfl rfl ?_
    refine g_getL (pc' := 12) dX10_readNumber_9 rfl f_X10_164 rfl rfl (fun v6 ev6 rv6 => ?_)
    refine g_iload_n (pc' := 13) 1 dX10_readNumber_12 rfl rfl ?_
    refine g_i2l (pc' := 14) ha dX10_readNumber_13 rfl ?_
    refine g_lc_gt (pc' := 18) (tgt := 22) rv6 ⟨by omega, by omega⟩ dX10_readNumber_14 dX10_readNumber_15 rfl rfl (fun c7 => ?_) (fun c7 => ?_)
    · refine g_iconst (pc' := 23) dX10_readNumber_22 rfl ?_
      refine g_istore_n (pc' := 24) (i := 2) (L' := [(2, vi 0), (0, vr X 97), (1, vi a)]) dX10_readNumber_23 rfl rfl (by decide) rfl ?_
      refine g_iload_n (pc' := 25) 0 dX10_readNumber_24 rfl rfl ?_
      refine g_if_eq (pc' := 28) (tgt := 36) (by decide) dX10_readNumber_25 rfl rfl (fun c8 => ?_) (fun c8 => ?_)
      · refine g_iconst (pc' := 37) dX10_readNumber_36 rfl ?_
        refine g_istore_n (pc' := 38) (i := 3) (L' := [(3, vi 0), (2, vi 0), (0, vr X 97), (1, vi a)]) dX10_readNumber_37 rfl rfl (by decide) rfl ?_
        refine g_aload_n (pc' := 39) 2 dX10_readNumber_38 rfl rfl ?_
        refine g_iload_n (pc' := 40) 1 dX10_readNumber_39 rfl rfl ?_
        refine g_callVv (pc' := 43) (As := [vi 0]) (b := 97) (S := []) dX10_readNumber_40 rfl m_X10_187 w_X10_must (c_X10_must X M hi 0 (by decide) (by omega)) rfl ⟨_, _, _, rfl, rfl, rfl⟩ (by decide) (by decide) rfl (Nat.le_of_ble_eq_true rfl) (fun M10 q9 => ?_)
        obtain ⟨iM10, fM100, eM10_97_12, eM10_97_19, eM10_97_21, eM10_97_24, eM10_97_27, eM10_97_28, pM10⟩ := q9
        have fM10 : Fr (fun c => c = 97) M M10 := Fr.tr Fr.rf fM100 (fun _ z => z)
        have q97_12_M10 : (M10 97 12 = M 97 12) := eM10_97_12
        have q97_19_M10 : (M10 97 19 = M 97 19) := eM10_97_19
        have q97_21_M10 : (M10 97 21 = M 97 21) := eM10_97_21
        have q97_24_M10 : (M10 97 24 = M 97 24) := eM10_97_24
        have q97_27_M10 : (M10 97 27 = M 97 27) := eM10_97_27
        have q97_28_M10 : (M10 97 28 = M 97 28) := eM10_97_28
        refine g_iload_n (pc' := 44) 0 dX10_readNumber_43 rfl rfl ?_
        refine g_ireturn dX10_readNumber_44 ?_
        exact ⟨iM10, fM10, q97_12_M10, q97_19_M10, q97_21_M10, q97_24_M10, q97_27_M10, q97_28_M10, by omega⟩
      · exact absurd c8 (by omega)
    · refine g_iconst (pc' := 19) dX10_readNumber_18 rfl ?_
      refine g_goto (tgt := 23) dX10_readNumber_19 rfl ?_
      refine g_istore_n (pc' := 24) (i := 2) (L' := [(2, vi 1), (0, vr X 97), (1, vi a)]) dX10_readNumber_23 rfl rfl (by decide) rfl ?_
      refine g_iload_n (pc' := 25) 0 dX10_readNumber_24 rfl rfl ?_
      refine g_if_eq (pc' := 28) (tgt := 36) (by decide) dX10_readNumber_25 rfl rfl (fun c11 => ?_) (fun c11 => ?_)
      · exact absurd c11 (by omega)
      · refine g_aload_n (pc' := 29) 1 dX10_readNumber_28 rfl rfl ?_
        refine g_getL (pc' := 32) dX10_readNumber_29 rfl f_X10_164 rfl rfl (fun v12 ev12 rv12 => ?_)
        obtain rfl : v6 = v12 := ev6.trans ev12.symm
        refine g_l2i (pc' := 33) dX10_readNumber_32 rfl ?_
        refine g_goto (tgt := 37) dX10_readNumber_33 rfl ?_
        refine g_istore_n (pc' := 38) (i := 3) (L' := [(3, vi v6), (2, vi 1), (0, vr X 97), (1, vi a)]) dX10_readNumber_37 rfl rfl (by decide) rfl ?_
        refine g_aload_n (pc' := 39) 2 dX10_readNumber_38 rfl rfl ?_
        refine g_iload_n (pc' := 40) 1 dX10_readNumber_39 rfl rfl ?_
        refine g_callVv (pc' := 43) (As := [vi 1]) (b := 97) (S := []) dX10_readNumber_40 rfl m_X10_187 w_X10_must (c_X10_must X M hi 1 (by decide) (by omega)) rfl ⟨_, _, _, rfl, rfl, rfl⟩ (by decide) (by decide) rfl (Nat.le_of_ble_eq_true rfl) (fun M14 q13 => ?_)
        obtain ⟨iM14, fM140, eM14_97_12, eM14_97_19, eM14_97_21, eM14_97_24, eM14_97_27, eM14_97_28, pM14⟩ := q13
        have fM14 : Fr (fun c => c = 97) M M14 := Fr.tr Fr.rf fM140 (fun _ z => z)
        have q97_12_M14 : (M14 97 12 = M 97 12) := eM14_97_12
        have q97_19_M14 : (M14 97 19 = M 97 19) := eM14_97_19
        have q97_21_M14 : (M14 97 21 = M 97 21) := eM14_97_21
        have q97_24_M14 : (M14 97 24 = M 97 24) := eM14_97_24
        have q97_27_M14 : (M14 97 27 = M 97 27) := eM14_97_27
        have q97_28_M14 : (M14 97 28 = M 97 28) := eM14_97_28
        refine g_iload_n (pc' := 44) 0 dX10_readNumber_43 rfl rfl ?_
        refine g_ireturn dX10_readNumber_44 ?_
        exact ⟨iM14, fM14, q97_12_M14, q97_19_M14, q97_21_M14, q97_24_M14, q97_27_M14, q97_28_M14, by omega⟩
