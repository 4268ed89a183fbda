set_option maxHeartbeats 4000000 in
set_option maxRecDepth 100000 in
theorem c_X10_tell_x (X : Cx) (M : Mm) (hi : IM M) (a : Int) (ha : inI a) (ha6 : -6 ≤ a) : Con X 0 yX10_tell cX10_tell 2 (some .int) [vr X 97, vi a] M (Qi (fun r M1 => IM M1 ∧ Fr (fun c => c = 97 ∨ c = 98) M M1 ∧ M1 99 0 = M 99 0 ∧ M1 99 1 = M 99 1 ∧ M1 99 2 = M 99 2 ∧ M1 99 3 = M 99 3 ∧ M1 100 0 = M 100 0 ∧ M1 100 1 = M 100 1 ∧ M1 100 2 = M 100 2 ∧ M1 100 3 = M 100 3 ∧ M1 100 49 = M 100 49 ∧ M1 100 50 = M 100 50 ∧ M1 100 51 = M 100 51 ∧ M1 100 52 = M 100 52 ∧ M1 103 0 = M 103 0 ∧ M1 103 1 = M 103 1 ∧ M1 97 12 = M 97 12 ∧ M1 97 17 = M 97 17 ∧ M1 97 33 = M 97 33 ∧ M1 97 10 = M 97 10 ∧ M1 97 44 = M 97 44 ∧ (r = a ∧ M1 97 1 = ngv a ∧ M1 98 = telF (M 98) a))) := by
  refine Con.ofG rfl (Nat.le_of_ble_eq_true rfl) ?_
  show G X 0 RX10 cX10_tell 2 (some .int) (Qi (fun r M1 => IM M1 ∧ Fr (fun c => c = 97 ∨ c = 98) M M1 ∧ M1 99 0 = M 99 0 ∧ M1 99 1 = M 99 1 ∧ M1 99 2 = M 99 2 ∧ M1 99 3 = M 99 3 ∧ M1 100 0 = M 100 0 ∧ M1 100 1 = M 100 1 ∧ M1 100 2 = M 100 2 ∧ M1 100 3 = M 100 3 ∧ M1 100 49 = M 100 49 ∧ M1 100 50 = M 100 50 ∧ M1 100 51 = M 100 51 ∧ M1 100 52 = M 100 52 ∧ M1 103 0 = M 103 0 ∧ M1 103 1 = M 103 1 ∧ M1 97 12 = M 97 12 ∧ M1 97 17 = M 97 17 ∧ M1 97 33 = M 97 33 ∧ M1 97 10 = M 97 10 ∧ M1 97 44 = M 97 44 ∧ (r = a ∧ M1 97 1 = ngv a ∧ M1 98 = telF (M 98) a))) 0 [(0, vr X 97), (1, vi a)] [] M
  refine g_aload_n (pc' := 1) 0 dX10_tell_0 rfl rfl ?_
  refine g_iload_n (pc' := 2) 1 dX10_tell_1 rfl rfl ?_
  refine g_if_ge (pc' := 5) (tgt := 9) ha dX10_tell_2 rfl rfl (fun c1 => ?_) (fun c1 => ?_)
  · refine g_iconst (pc' := 10) dX10_tell_9 rfl ?_
    refine g_putI (pc' := 13) dX10_tell_10 rfl p_X10_80 rfl rfl (by decide) (fun M2 hM2 => ?_)
    have iM2 : IM M2 := IM.wr hi hM2 (by unfold okv; first | decide | omega)
    have fM2 : Fr (fun c => c = 97 ∨ c = 98) M M2 := Fr.wr Fr.rf hM2 (by first | decide | omega | (dsimp only; omega))
    have q99_0_M2 : (M2 99 0 = M 99 0) := (show M2 99 0 = M 99 0 by rw [hM2]; exact mu_ne _ _ (by first | decide | omega))
    have q99_1_M2 : (M2 99 1 = M 99 1) := (show M2 99 1 = M 99 1 by rw [hM2]; exact mu_ne _ _ (by first | decide | omega))
    have q99_2_M2 : (M2 99 2 = M 99 2) := (show M2 99 2 = M 99 2 by rw [hM2]; exact mu_ne _ _ (by first | decide | omega))
    have q99_3_M2 : (M2 99 3 = M 99 3) := (show M2 99 3 = M 99 3 by rw [hM2]; exact mu_ne _ _ (by first | decide | omega))
    have q100_0_M2 : id (M2 100 0 = M 100 0) := (show M2 100 0 = M 100 0 by rw [hM2]; exact mu_ne _ _ (by first | decide | omega))
    have q100_1_M2 : id (M2 100 1 = M 100 1) := (show M2 100 1 = M 100 1 by rw [hM2]; exact mu_ne _ _ (by first | decide | omega))
    have q100_2_M2 : id (M2 100 2 = M 100 2) := (show M2 100 2 = M 100 2 by rw [hM2]; exact mu_ne _ _ (by first | decide | omega))
    have q100_3_M2 : id (M2 100 3 = M 100 3) := (show M2 100 3 = M 100 3 by rw [hM2]; exact mu_ne _ _ (by first | decide | omega))
    have q100_49_M2 : id (M2 100 49 = M 100 49) := (show M2 100 49 = M 100 49 by rw [hM2]; exact mu_ne _ _ (by first | decide | omega))
    have q100_50_M2 : id (M2 100 50 = M 100 50) := (show M2 100 50 = M 100 50 by rw [hM2]; exact mu_ne _ _ (by first | decide | omega))
    have q100_51_M2 : id (M2 100 51 = M 100 51) := (show M2 100 51 = M 100 51 by rw [hM2]; exact mu_ne _ _ (by first | decide | omega))
    have q100_52_M2 : id (M2 100 52 = M 100 52) := (show M2 100 52 = M 100 52 by rw [hM2]; exact mu_ne _ _ (by first | decide | omega))
    have q103_0_M2 : id (M2 103 0 = M 103 0) := (show M2 103 0 = M 103 0 by rw [hM2]; exact mu_ne _ _ (by first | decide | omega))
    have q103_1_M2 : id (M2 103 1 = M 103 1) := (show M2 103 1 = M 103 1 by rw [hM2]; exact mu_ne _ _ (by first | decide | omega))
    have q97_12_M2 : (M2 97 12 = M 97 12) := (show M2 97 12 = M 97 12 by rw [hM2]; exact mu_ne _ _ (by first | decide | omega))
    have q97_17_M2 : (M2 97 17 = M 97 17) := (show M2 97 17 = M 97 17 by rw [hM2]; exact mu_ne _ _ (by first | decide | omega))
    have q97_33_M2 : (M2 97 33 = M 97 33) := (show M2 97 33 = M 97 33 by rw [hM2]; exact mu_ne _ _ (by first | decide | omega))
    have q97_10_M2 : (M2 97 10 = M 97 10) := (show M2 97 10 = M 97 10 by rw [hM2]; exact mu_ne _ _ (by first | decide | omega))
    have q97_44_M2 : (M2 97 44 = M 97 44) := (show M2 97 44 = M 97 44 by rw [hM2]; exact mu_ne _ _ (by first | decide | omega))
    have xM2_97_1 : M2 97 1 = 0 := by rw [hM2]; exact mu_at _ _ _ _
    have c98M2 : M2 98 = M 98 := by rw [hM2]; exact mu_cell _ _ (by decide)
    refine g_iload_n (pc' := 14) 1 dX10_tell_13 rfl rfl ?_
    refine g_if_ge (pc' := 17) (tgt := 28) ha dX10_tell_14 rfl rfl (fun c3 => ?_) (fun c3 => ?_)
    · refine g_iload_n (pc' := 29) 1 dX10_tell_28 rfl rfl ?_
      refine g_ireturn dX10_tell_29 ?_
      first | exact False.elim (by omega) | exact ⟨iM2, fM2, q99_0_M2, q99_1_M2, q99_2_M2, q99_3_M2, q100_0_M2, q100_1_M2, q100_2_M2, q100_3_M2, q100_49_M2, q100_50_M2, q100_51_M2, q100_52_M2, q103_0_M2, q103_1_M2, q97_12_M2, q97_17_M2, q97_33_M2, q97_10_M2, q97_44_M2, rfl, (by unfold ngv; first | (rw [if_pos (by omega)]; omega) | (rw [if_neg (by omega)]; omega)), by unfold telF; rw [if_neg (by omega)]; exact c98M2⟩
    · refine g_aload_n (pc' := 18) 0 dX10_tell_17 rfl rfl ?_
      refine g_getR (pc' := 21) dX10_tell_18 rfl f_X10_7 rfl rfl ?_
      refine g_iload_n (pc' := 22) 1 dX10_tell_21 rfl rfl ?_
      refine g_ineg (pc' := 23) dX10_tell_22 rfl ?_
      refine g_dup2_11 (pc' := 24) dX10_tell_23 rfl rfl rfl ?_
      refine g_iald (pc' := 25) dX10_tell_24 rfl rfl (by omega) (by omega) (fun v4 ev4 rv4 => ?_)
      refine g_iconst (pc' := 26) dX10_tell_25 rfl ?_
      refine g_iadd (pc' := 27) dX10_tell_26 rfl ?_
      refine g_nrmI (fun n5 rn5 en5 => ?_)
      have bn5 : (-2147483648 ≤ v4 + 1 ∧ v4 + 1 ≤ 2147483647) → n5 = v4 + 1 := fun h => en5.trans (bm32 h)
      refine g_iast (pc' := 28) dX10_tell_27 rfl rfl (by omega) (by omega) rn5 (fun M6 hM6 => ?_)
      have iM6 : IM M6 := IM.wr iM2 hM6 (by unfold okv; first | decide | omega)
      have fM6 : Fr (fun c => c = 97 ∨ c = 98) M M6 := Fr.wr fM2 hM6 (by first | decide | omega | (dsimp only; omega))
      have q99_0_M6 : (M6 99 0 = M 99 0) := (show M6 99 0 = M2 99 0 by rw [hM6]; exact mu_ne _ _ (by first | decide | omega)).trans q99_0_M2
      have q99_1_M6 : (M6 99 1 = M 99 1) := (show M6 99 1 = M2 99 1 by rw [hM6]; exact mu_ne _ _ (by first | decide | omega)).trans q99_1_M2
      have q99_2_M6 : (M6 99 2 = M 99 2) := (show M6 99 2 = M2 99 2 by rw [hM6]; exact mu_ne _ _ (by first | decide | omega)).trans q99_2_M2
      have q99_3_M6 : (M6 99 3 = M 99 3) := (show M6 99 3 = M2 99 3 by rw [hM6]; exact mu_ne _ _ (by first | decide | omega)).trans q99_3_M2
      have q100_0_M6 : id (M6 100 0 = M 100 0) := (show M6 100 0 = M2 100 0 by rw [hM6]; exact mu_ne _ _ (by first | decide | omega)).trans q100_0_M2
      have q100_1_M6 : id (M6 100 1 = M 100 1) := (show M6 100 1 = M2 100 1 by rw [hM6]; exact mu_ne _ _ (by first | decide | omega)).trans q100_1_M2
      have q100_2_M6 : id (M6 100 2 = M 100 2) := (show M6 100 2 = M2 100 2 by rw [hM6]; exact mu_ne _ _ (by first | decide | omega)).trans q100_2_M2
      have q100_3_M6 : id (M6 100 3 = M 100 3) := (show M6 100 3 = M2 100 3 by rw [hM6]; exact mu_ne _ _ (by first | decide | omega)).trans q100_3_M2
      have q100_49_M6 : id (M6 100 49 = M 100 49) := (show M6 100 49 = M2 100 49 by rw [hM6]; exact mu_ne _ _ (by first | decide | omega)).trans q100_49_M2
      have q100_50_M6 : id (M6 100 50 = M 100 50) := (show M6 100 50 = M2 100 50 by rw [hM6]; exact mu_ne _ _ (by first | decide | omega)).trans q100_50_M2
      have q100_51_M6 : id (M6 100 51 = M 100 51) := (show M6 100 51 = M2 100 51 by rw [hM6]; exact mu_ne _ _ (by first | decide | omega)).trans q100_51_M2
      have q100_52_M6 : id (M6 100 52 = M 100 52) := (show M6 100 52 = M2 100 52 by rw [hM6]; exact mu_ne _ _ (by first | decide | omega)).trans q100_52_M2
      have q103_0_M6 : id (M6 103 0 = M 103 0) := (show M6 103 0 = M2 103 0 by rw [hM6]; exact mu_ne _ _ (by first | decide | omega)).trans q103_0_M2
      have q103_1_M6 : id (M6 103 1 = M 103 1) := (show M6 103 1 = M2 103 1 by rw [hM6]; exact mu_ne _ _ (by first | decide | omega)).trans q103_1_M2
      have q97_12_M6 : (M6 97 12 = M 97 12) := (show M6 97 12 = M2 97 12 by rw [hM6]; exact mu_ne _ _ (by first | decide | omega)).trans q97_12_M2
      have q97_17_M6 : (M6 97 17 = M 97 17) := (show M6 97 17 = M2 97 17 by rw [hM6]; exact mu_ne _ _ (by first | decide | omega)).trans q97_17_M2
      have q97_33_M6 : (M6 97 33 = M 97 33) := (show M6 97 33 = M2 97 33 by rw [hM6]; exact mu_ne _ _ (by first | decide | omega)).trans q97_33_M2
      have q97_10_M6 : (M6 97 10 = M 97 10) := (show M6 97 10 = M2 97 10 by rw [hM6]; exact mu_ne _ _ (by first | decide | omega)).trans q97_10_M2
      have q97_44_M6 : (M6 97 44 = M 97 44) := (show M6 97 44 = M2 97 44 by rw [hM6]; exact mu_ne _ _ (by first | decide | omega)).trans q97_44_M2
      have wM6_97_1 : M6 97 1 = M2 97 1 := by rw [hM6]; exact mu_ne _ _ (by first | decide | omega)
      have xM6_97_1 : M6 97 1 = 0 := (show M6 97 1 = M2 97 1 by rw [hM6]; exact mu_ne _ _ (by first | decide | omega)).trans xM2_97_1
      refine g_iload_n (pc' := 29) 1 dX10_tell_28 rfl rfl ?_
      refine g_ireturn dX10_tell_29 ?_
      first | exact False.elim (by omega) | exact ⟨iM6, fM6, q99_0_M6, q99_1_M6, q99_2_M6, q99_3_M6, q100_0_M6, q100_1_M6, q100_2_M6, q100_3_M6, q100_49_M6, q100_50_M6, q100_51_M6, q100_52_M6, q103_0_M6, q103_1_M6, q97_12_M6, q97_17_M6, q97_33_M6, q97_10_M6, q97_44_M6, rfl, (by unfold ngv; first | (rw [if_pos (by omega)]; omega) | (rw [if_neg (by omega)]; omega)), by unfold telF; rw [if_pos (by omega), hM6, mu_is, c98M2]; unfold inc; rw [← congrFun c98M2 _, ← ev4, ← en5]⟩
  · refine g_iload_n (pc' := 6) 1 dX10_tell_5 rfl rfl ?_
    refine g_goto (tgt := 10) dX10_tell_6 rfl ?_
    refine g_putI (pc' := 13) dX10_tell_10 rfl p_X10_80 rfl rfl ha (fun M7 hM7 => ?_)
    have iM7 : IM M7 := IM.wr hi hM7 (by unfold okv; first | decide | omega)
    have fM7 : Fr (fun c => c = 97 ∨ c = 98) M M7 := Fr.wr Fr.rf hM7 (by first | decide | omega | (dsimp only; omega))
    have q99_0_M7 : (M7 99 0 = M 99 0) := (show M7 99 0 = M 99 0 by rw [hM7]; exact mu_ne _ _ (by first | decide | omega))
    have q99_1_M7 : (M7 99 1 = M 99 1) := (show M7 99 1 = M 99 1 by rw [hM7]; exact mu_ne _ _ (by first | decide | omega))
    have q99_2_M7 : (M7 99 2 = M 99 2) := (show M7 99 2 = M 99 2 by rw [hM7]; exact mu_ne _ _ (by first | decide | omega))
    have q99_3_M7 : (M7 99 3 = M 99 3) := (show M7 99 3 = M 99 3 by rw [hM7]; exact mu_ne _ _ (by first | decide | omega))
    have q100_0_M7 : id (M7 100 0 = M 100 0) := (show M7 100 0 = M 100 0 by rw [hM7]; exact mu_ne _ _ (by first | decide | omega))
    have q100_1_M7 : id (M7 100 1 = M 100 1) := (show M7 100 1 = M 100 1 by rw [hM7]; exact mu_ne _ _ (by first | decide | omega))
    have q100_2_M7 : id (M7 100 2 = M 100 2) := (show M7 100 2 = M 100 2 by rw [hM7]; exact mu_ne _ _ (by first | decide | omega))
    have q100_3_M7 : id (M7 100 3 = M 100 3) := (show M7 100 3 = M 100 3 by rw [hM7]; exact mu_ne _ _ (by first | decide | omega))
    have q100_49_M7 : id (M7 100 49 = M 100 49) := (show M7 100 49 = M 100 49 by rw [hM7]; exact mu_ne _ _ (by first | decide | omega))
    have q100_50_M7 : id (M7 100 50 = M 100 50) := (show M7 100 50 = M 100 50 by rw [hM7]; exact mu_ne _ _ (by first | decide | omega))
    have q100_51_M7 : id (M7 100 51 = M 100 51) := (show M7 100 51 = M 100 51 by rw [hM7]; exact mu_ne _ _ (by first | decide | omega))
    have q100_52_M7 : id (M7 100 52 = M 100 52) := (show M7 100 52 = M 100 52 by rw [hM7]; exact mu_ne _ _ (by first | decide | omega))
    have q103_0_M7 : id (M7 103 0 = M 103 0) := (show M7 103 0 = M 103 0 by rw [hM7]; exact mu_ne _ _ (by first | decide | omega))
    have q103_1_M7 : id (M7 103 1 = M 103 1) := (show M7 103 1 = M 103 1 by rw [hM7]; exact mu_ne _ _ (by first | decide | omega))
    have q97_12_M7 : (M7 97 12 = M 97 12) := (show M7 97 12 = M 97 12 by rw [hM7]; exact mu_ne _ _ (by first | decide | omega))
    have q97_17_M7 : (M7 97 17 = M 97 17) := (show M7 97 17 = M 97 17 by rw [hM7]; exact mu_ne _ _ (by first | decide | omega))
    have q97_33_M7 : (M7 97 33 = M 97 33) := (show M7 97 33 = M 97 33 by rw [hM7]; exact mu_ne _ _ (by first | decide | omega))
    have q97_10_M7 : (M7 97 10 = M 97 10) := (show M7 97 10 = M 97 10 by rw [hM7]; exact mu_ne _ _ (by first | decide | omega))
    have q97_44_M7 : (M7 97 44 = M 97 44) := (show M7 97 44 = M 97 44 by rw [hM7]; exact mu_ne _ _ (by first | decide | omega))
    have xM7_97_1 : M7 97 1 = a := by rw [hM7]; exact mu_at _ _ _ _
    have c98M7 : M7 98 = M 98 := by rw [hM7]; exact mu_cell _ _ (by decide)
    refine g_iload_n (pc' := 14) 1 dX10_tell_13 rfl rfl ?_
    refine g_if_ge (pc' := 17) (tgt := 28) ha dX10_tell_14 rfl rfl (fun c8 => ?_) (fun c8 => ?_)
    · refine g_iload_n (pc' := 29) 1 dX10_tell_28 rfl rfl ?_
      refine g_ireturn dX10_tell_29 ?_
      first | exact False.elim (by omega) | exact ⟨iM7, fM7, q99_0_M7, q99_1_M7, q99_2_M7, q99_3_M7, q100_0_M7, q100_1_M7, q100_2_M7, q100_3_M7, q100_49_M7, q100_50_M7, q100_51_M7, q100_52_M7, q103_0_M7, q103_1_M7, q97_12_M7, q97_17_M7, q97_33_M7, q97_10_M7, q97_44_M7, rfl, (by unfold ngv; first | (rw [if_pos (by omega)]; omega) | (rw [if_neg (by omega)]; omega)), by unfold telF; rw [if_neg (by omega)]; exact c98M7⟩
    · refine g_aload_n (pc' := 18) 0 dX10_tell_17 rfl rfl ?_
      refine g_getR (pc' := 21) dX10_tell_18 rfl f_X10_7 rfl rfl ?_
      refine g_iload_n (pc' := 22) 1 dX10_tell_21 rfl rfl ?_
      refine g_ineg (pc' := 23) dX10_tell_22 rfl ?_
      refine g_dup2_11 (pc' := 24) dX10_tell_23 rfl rfl rfl ?_
      refine g_iald (pc' := 25) dX10_tell_24 rfl rfl (by omega) (by omega) (fun v9 ev9 rv9 => ?_)
      refine g_iconst (pc' := 26) dX10_tell_25 rfl ?_
      refine g_iadd (pc' := 27) dX10_tell_26 rfl ?_
      refine g_nrmI (fun n10 rn10 en10 => ?_)
      have bn10 : (-2147483648 ≤ v9 + 1 ∧ v9 + 1 ≤ 2147483647) → n10 = v9 + 1 := fun h => en10.trans (bm32 h)
      refine g_iast (pc' := 28) dX10_tell_27 rfl rfl (by omega) (by omega) rn10 (fun M11 hM11 => ?_)
      have iM11 : IM M11 := IM.wr iM7 hM11 (by unfold okv; first | decide | omega)
      have fM11 : Fr (fun c => c = 97 ∨ c = 98) M M11 := Fr.wr fM7 hM11 (by first | decide | omega | (dsimp only; omega))
      have q99_0_M11 : (M11 99 0 = M 99 0) := (show M11 99 0 = M7 99 0 by rw [hM11]; exact mu_ne _ _ (by first | decide | omega)).trans q99_0_M7
      have q99_1_M11 : (M11 99 1 = M 99 1) := (show M11 99 1 = M7 99 1 by rw [hM11]; exact mu_ne _ _ (by first | decide | omega)).trans q99_1_M7
      have q99_2_M11 : (M11 99 2 = M 99 2) := (show M11 99 2 = M7 99 2 by rw [hM11]; exact mu_ne _ _ (by first | decide | omega)).trans q99_2_M7
      have q99_3_M11 : (M11 99 3 = M 99 3) := (show M11 99 3 = M7 99 3 by rw [hM11]; exact mu_ne _ _ (by first | decide | omega)).trans q99_3_M7
      have q100_0_M11 : id (M11 100 0 = M 100 0) := (show M11 100 0 = M7 100 0 by rw [hM11]; exact mu_ne _ _ (by first | decide | omega)).trans q100_0_M7
      have q100_1_M11 : id (M11 100 1 = M 100 1) := (show M11 100 1 = M7 100 1 by rw [hM11]; exact mu_ne _ _ (by first | decide | omega)).trans q100_1_M7
      have q100_2_M11 : id (M11 100 2 = M 100 2) := (show M11 100 2 = M7 100 2 by rw [hM11]; exact mu_ne _ _ (by first | decide | omega)).trans q100_2_M7
      have q100_3_M11 : id (M11 100 3 = M 100 3) := (show M11 100 3 = M7 100 3 by rw [hM11]; exact mu_ne _ _ (by first | decide | omega)).trans q100_3_M7
      have q100_49_M11 : id (M11 100 49 = M 100 49) := (show M11 100 49 = M7 100 49 by rw [hM11]; exact mu_ne _ _ (by first | decide | omega)).trans q100_49_M7
      have q100_50_M11 : id (M11 100 50 = M 100 50) := (show M11 100 50 = M7 100 50 by rw [hM11]; exact mu_ne _ _ (by first | decide | omega)).trans q100_50_M7
      have q100_51_M11 : id (M11 100 51 = M 100 51) := (show M11 100 51 = M7 100 51 by rw [hM11]; exact mu_ne _ _ (by first | decide | omega)).trans q100_51_M7
      have q100_52_M11 : id (M11 100 52 = M 100 52) := (show M11 100 52 = M7 100 52 by rw [hM11]; exact mu_ne _ _ (by first | decide | omega)).trans q100_52_M7
      have q103_0_M11 : id (M11 103 0 = M 103 0) := (show M11 103 0 = M7 103 0 by rw [hM11]; exact mu_ne _ _ (by first | decide | omega)).trans q103_0_M7
      have q103_1_M11 : id (M11 103 1 = M 103 1) := (show M11 103 1 = M7 103 1 by rw [hM11]; exact mu_ne _ _ (by first | decide | omega)).trans q103_1_M7
      have q97_12_M11 : (M11 97 12 = M 97 12) := (show M11 97 12 = M7 97 12 by rw [hM11]; exact mu_ne _ _ (by first | decide | omega)).trans q97_12_M7
      have q97_17_M11 : (M11 97 17 = M 97 17) := (show M11 97 17 = M7 97 17 by rw [hM11]; exact mu_ne _ _ (by first | decide | omega)).trans q97_17_M7
      have q97_33_M11 : (M11 97 33 = M 97 33) := (show M11 97 33 = M7 97 33 by rw [hM11]; exact mu_ne _ _ (by first | decide | omega)).trans q97_33_M7
      have q97_10_M11 : (M11 97 10 = M 97 10) := (show M11 97 10 = M7 97 10 by rw [hM11]; exact mu_ne _ _ (by first | decide | omega)).trans q97_10_M7
      have q97_44_M11 : (M11 97 44 = M 97 44) := (show M11 97 44 = M7 97 44 by rw [hM11]; exact mu_ne _ _ (by first | decide | omega)).trans q97_44_M7
      have wM11_97_1 : M11 97 1 = M7 97 1 := by rw [hM11]; exact mu_ne _ _ (by first | decide | omega)
      have xM11_97_1 : M11 97 1 = a := (show M11 97 1 = M7 97 1 by rw [hM11]; exact mu_ne _ _ (by first | decide | omega)).trans xM7_97_1
      refine g_iload_n (pc' := 29) 1 dX10_tell_28 rfl rfl ?_
      refine g_ireturn dX10_tell_29 ?_
      first | exact False.elim (by omega) | exact ⟨iM11, fM11, q99_0_M11, q99_1_M11, q99_2_M11, q99_3_M11, q100_0_M11, q100_1_M11, q100_2_M11, q100_3_M11, q100_49_M11, q100_50_M11, q100_51_M11, q100_52_M11, q103_0_M11, q103_1_M11, q97_12_M11, q97_17_M11, q97_33_M11, q97_10_M11, q97_44_M11, rfl, (by unfold ngv; first | (rw [if_pos (by omega)]; omega) | (rw [if_neg (by omega)]; omega)), by unfold telF; rw [if_pos (by omega), hM11, mu_is, c98M7]; unfold inc; rw [← congrFun c98M7 _, ← ev9, ← en10]⟩
set_option maxHeartbeats 4000000 in
set_option maxRecDepth 100000 in
theorem c_X10_spoon_x (X : Cx) (M : Mm) (hi : IM M) (a : Int) (ha : inI a) (b : Int) (hb : inI b) (c : Int) (hc : inI c) : Con X 12 yX10_spoon cX10_spoon 5 (some .int) [vr X 97, vi a, vi b, vi c] M (Qi (fun r M1 => IM M1 ∧ Fr (fun c => c = 97 ∨ c = 98 ∨ c = 101 ∨ c = 104 ∨ c = 105) M M1 ∧ M1 99 0 = M 99 0 ∧ M1 99 1 = M 99 1 ∧ M1 99 2 = M 99 2 ∧ M1 99 3 = M 99 3 ∧ M1 100 0 = M 100 0 ∧ M1 100 1 = M 100 1 ∧ M1 100 2 = M 100 2 ∧ M1 100 3 = M 100 3 ∧ M1 100 49 = M 100 49 ∧ M1 100 50 = M 100 50 ∧ M1 100 51 = M 100 51 ∧ M1 100 52 = M 100 52 ∧ M1 103 0 = M 103 0 ∧ M1 103 1 = M 103 1 ∧ M1 97 12 = M 97 12 ∧ M1 97 17 = M 97 17 ∧ M1 97 33 = M 97 33 ∧ M1 97 10 = M 97 10 ∧ M1 97 44 = M 97 44 ∧ ((-6 ≤ r ∧ r ≤ 60) ∧ RSP (M 101) (fun j => M 99 (4 + j)) (M 99 0) a b c r (M1 101) ∧ M1 97 1 = ngv r ∧ M1 98 = telF (M 98) r))) := by
  refine Con.ofG rfl (Nat.le_of_ble_eq_true rfl) ?_
  show G X 12 RX10 cX10_spoon 5 (some .int) (Qi (fun r M1 => IM M1 ∧ Fr (fun c => c = 97 ∨ c = 98 ∨ c = 101 ∨ c = 104 ∨ c = 105) M M1 ∧ M1 99 0 = M 99 0 ∧ M1 99 1 = M 99 1 ∧ M1 99 2 = M 99 2 ∧ M1 99 3 = M 99 3 ∧ M1 100 0 = M 100 0 ∧ M1 100 1 = M 100 1 ∧ M1 100 2 = M 100 2 ∧ M1 100 3 = M 100 3 ∧ M1 100 49 = M 100 49 ∧ M1 100 50 = M 100 50 ∧ M1 100 51 = M 100 51 ∧ M1 100 52 = M 100 52 ∧ M1 103 0 = M 103 0 ∧ M1 103 1 = M 103 1 ∧ M1 97 12 = M 97 12 ∧ M1 97 17 = M 97 17 ∧ M1 97 33 = M 97 33 ∧ M1 97 10 = M 97 10 ∧ M1 97 44 = M 97 44 ∧ ((-6 ≤ r ∧ r ≤ 60) ∧ RSP (M 101) (fun j => M 99 (4 + j)) (M 99 0) a b c r (M1 101) ∧ M1 97 1 = ngv r ∧ M1 98 = telF (M 98) r))) 0 [(0, vr X 97), (1, vi a), (2, vi b), (3, vi c)] [] M
  have p0 := hi.1.1
  have p1 := hi.1.2.1
  have p2 := hi.1.2.2.1
  have p3 := hi.1.2.2.2.1
  have p12 := hi.2.2.2.1
  refine g_aload_n (pc' := 1) 0 dX10_spoon_0 rfl rfl ?_
  refine g_iconst (pc' := 2) dX10_spoon_1 rfl ?_
  refine g_putI (pc' := 5) dX10_spoon_2 rfl p_X10_77 rfl rfl (by decide) (fun M1 hM1 => ?_)
  have iM1 : IM M1 := IM.wr hi hM1 (by unfold okv; first | decide | omega)
  have fM1 : Fr (fun c => c = 97 ∨ c = 98 ∨ c = 101 ∨ c = 104 ∨ c = 105) M M1 := Fr.wr Fr.rf hM1 (by first | decide | omega | (dsimp only; omega))
  have q99_0_M1 : (M1 99 0 = M 99 0) := (show M1 99 0 = M 99 0 by rw [hM1]; exact mu_ne _ _ (by first | decide | omega))
  have q99_1_M1 : (M1 99 1 = M 99 1) := (show M1 99 1 = M 99 1 by rw [hM1]; exact mu_ne _ _ (by first | decide | omega))
  have q99_2_M1 : (M1 99 2 = M 99 2) := (show M1 99 2 = M 99 2 by rw [hM1]; exact mu_ne _ _ (by first | decide | omega))
  have q99_3_M1 : (M1 99 3 = M 99 3) := (show M1 99 3 = M 99 3 by rw [hM1]; exact mu_ne _ _ (by first | decide | omega))
  have q100_0_M1 : id (M1 100 0 = M 100 0) := (show M1 100 0 = M 100 0 by rw [hM1]; exact mu_ne _ _ (by first | decide | omega))
  have q100_1_M1 : id (M1 100 1 = M 100 1) := (show M1 100 1 = M 100 1 by rw [hM1]; exact mu_ne _ _ (by first | decide | omega))
  have q100_2_M1 : id (M1 100 2 = M 100 2) := (show M1 100 2 = M 100 2 by rw [hM1]; exact mu_ne _ _ (by first | decide | omega))
  have q100_3_M1 : id (M1 100 3 = M 100 3) := (show M1 100 3 = M 100 3 by rw [hM1]; exact mu_ne _ _ (by first | decide | omega))
  have q100_49_M1 : id (M1 100 49 = M 100 49) := (show M1 100 49 = M 100 49 by rw [hM1]; exact mu_ne _ _ (by first | decide | omega))
  have q100_50_M1 : id (M1 100 50 = M 100 50) := (show M1 100 50 = M 100 50 by rw [hM1]; exact mu_ne _ _ (by first | decide | omega))
  have q100_51_M1 : id (M1 100 51 = M 100 51) := (show M1 100 51 = M 100 51 by rw [hM1]; exact mu_ne _ _ (by first | decide | omega))
  have q100_52_M1 : id (M1 100 52 = M 100 52) := (show M1 100 52 = M 100 52 by rw [hM1]; exact mu_ne _ _ (by first | decide | omega))
  have q103_0_M1 : id (M1 103 0 = M 103 0) := (show M1 103 0 = M 103 0 by rw [hM1]; exact mu_ne _ _ (by first | decide | omega))
  have q103_1_M1 : id (M1 103 1 = M 103 1) := (show M1 103 1 = M 103 1 by rw [hM1]; exact mu_ne _ _ (by first | decide | omega))
  have q97_12_M1 : (M1 97 12 = M 97 12) := (show M1 97 12 = M 97 12 by rw [hM1]; exact mu_ne _ _ (by first | decide | omega))
  have q97_17_M1 : (M1 97 17 = M 97 17) := (show M1 97 17 = M 97 17 by rw [hM1]; exact mu_ne _ _ (by first | decide | omega))
  have q97_33_M1 : (M1 97 33 = M 97 33) := (show M1 97 33 = M 97 33 by rw [hM1]; exact mu_ne _ _ (by first | decide | omega))
  have q97_10_M1 : (M1 97 10 = M 97 10) := (show M1 97 10 = M 97 10 by rw [hM1]; exact mu_ne _ _ (by first | decide | omega))
  have q97_44_M1 : (M1 97 44 = M 97 44) := (show M1 97 44 = M 97 44 by rw [hM1]; exact mu_ne _ _ (by first | decide | omega))
  have q97_1_M1 : (M1 97 1 = M 97 1) := (show M1 97 1 = M 97 1 by rw [hM1]; exact mu_ne _ _ (by first | decide | omega))
  have wM1_97_1 : M1 97 1 = M 97 1 := by rw [hM1]; exact mu_ne _ _ (by first | decide | omega)
  have xM1_97_0 : M1 97 0 = 0 := by rw [hM1]; exact mu_at _ _ _ _
  have c98M1 : M1 98 = M 98 := (by rw [hM1]; exact mu_cell _ _ (by decide))
  have c99M1 : M1 99 = M 99 := (by rw [hM1]; exact mu_cell _ _ (by decide))
  have c101M1 : M1 101 = M 101 := (by rw [hM1]; exact mu_cell _ _ (by decide))
  refine g_iload_n (pc' := 6) 3 dX10_spoon_5 rfl rfl ?_
  refine g_callSip (pc' := 9) (As := [vi c]) (S := []) dX10_spoon_6 rfl m_X10_95 w_X10_isAmount (c_X10_isAmount X M1 c hc) rfl (by decide) (by decide) rfl (Nat.le_of_ble_eq_true rfl) (fun z3 q2 => ?_)
  refine g_if_ne (pc' := 12) (tgt := 18) ⟨by omega, by omega⟩ dX10_spoon_9 rfl rfl (fun c4 => ?_) (fun c4 => ?_)
  · replace q2 := q2.resolve_right (fun h => c4 h.1)
    refine g_aload_n (pc' := 19) 0 dX10_spoon_18 rfl rfl ?_
    refine g_iload_n (pc' := 20) 1 dX10_spoon_19 rfl rfl ?_
    refine g_callVip (pc' := 23) (As := [vi a]) (b := 97) (S := []) dX10_spoon_20 rfl m_X10_102 w_X10_isGlass (c_X10_isGlass X M1 iM1 a ha) rfl ⟨_, _, _, rfl, rfl, rfl⟩ (by decide) (by decide) rfl (Nat.le_of_ble_eq_true rfl) (fun z6 q5 => ?_)
    refine g_if_eq (pc' := 26) (tgt := 34) ⟨by omega, by omega⟩ dX10_spoon_23 rfl rfl (fun c7 => ?_) (fun c7 => ?_)
    · replace q5 := q5.resolve_left (fun h => absurd (c7.symm.trans h.1) (by decide))
      refine g_aload_n (pc' := 35) 0 dX10_spoon_34 rfl rfl ?_
      refine g_bipush (pc' := 37) (v := (-2)) dX10_spoon_35 rfl (by decide) ?_
      refine g_callVi (pc' := 40) (As := [vi (-2)]) (b := 97) (S := []) dX10_spoon_37 rfl m_X10_87 w_X10_tell (c_X10_tell_x X M1 iM1 (-2) (by decide) (by omega)) rfl ⟨_, _, _, rfl, rfl, rfl⟩ (by decide) (by decide) rfl (Nat.le_of_ble_eq_true rfl) (fun z9 M10 q8 => ?_)
      obtain ⟨iM10, fM100, eM10_99_0, eM10_99_1, eM10_99_2, eM10_99_3, eM10_100_0, eM10_100_1, eM10_100_2, eM10_100_3, eM10_100_49, eM10_100_50, eM10_100_51, eM10_100_52, eM10_103_0, eM10_103_1, eM10_97_12, eM10_97_17, eM10_97_33, eM10_97_10, eM10_97_44, pM10⟩ := q8
      have fM10 : Fr (fun c => c = 97 ∨ c = 98 ∨ c = 101 ∨ c = 104 ∨ c = 105) M M10 := Fr.tr fM1 fM100 fi_33
      have q99_0_M10 : (M10 99 0 = M 99 0) := eM10_99_0.trans q99_0_M1
      have q99_1_M10 : (M10 99 1 = M 99 1) := eM10_99_1.trans q99_1_M1
      have q99_2_M10 : (M10 99 2 = M 99 2) := eM10_99_2.trans q99_2_M1
      have q99_3_M10 : (M10 99 3 = M 99 3) := eM10_99_3.trans q99_3_M1
      have q100_0_M10 : id (M10 100 0 = M 100 0) := eM10_100_0.trans q100_0_M1
      have q100_1_M10 : id (M10 100 1 = M 100 1) := eM10_100_1.trans q100_1_M1
      have q100_2_M10 : id (M10 100 2 = M 100 2) := eM10_100_2.trans q100_2_M1
      have q100_3_M10 : id (M10 100 3 = M 100 3) := eM10_100_3.trans q100_3_M1
      have q100_49_M10 : id (M10 100 49 = M 100 49) := eM10_100_49.trans q100_49_M1
      have q100_50_M10 : id (M10 100 50 = M 100 50) := eM10_100_50.trans q100_50_M1
      have q100_51_M10 : id (M10 100 51 = M 100 51) := eM10_100_51.trans q100_51_M1
      have q100_52_M10 : id (M10 100 52 = M 100 52) := eM10_100_52.trans q100_52_M1
      have q103_0_M10 : id (M10 103 0 = M 103 0) := eM10_103_0.trans q103_0_M1
      have q103_1_M10 : id (M10 103 1 = M 103 1) := eM10_103_1.trans q103_1_M1
      have q97_12_M10 : (M10 97 12 = M 97 12) := eM10_97_12.trans q97_12_M1
      have q97_17_M10 : (M10 97 17 = M 97 17) := eM10_97_17.trans q97_17_M1
      have q97_33_M10 : (M10 97 33 = M 97 33) := eM10_97_33.trans q97_33_M1
      have q97_10_M10 : (M10 97 10 = M 97 10) := eM10_97_10.trans q97_10_M1
      have q97_44_M10 : (M10 97 44 = M 97 44) := eM10_97_44.trans q97_44_M1
      clear eM10_100_0 eM10_100_1 eM10_100_2 eM10_100_3 eM10_100_49 eM10_100_50 eM10_100_51 eM10_100_52 eM10_103_0 eM10_103_1
      have c99M10 : M10 99 = M 99 := (fM100 99 (by decide)).trans c99M1
      have c101M10 : M10 101 = M 101 := (fM100 101 (by decide)).trans c101M1
      obtain ⟨anM10, asM10, a98M10⟩ := pM10
      rw [c98M1] at a98M10
      subst anM10
      have e101 : M10 101 = M1 101 := fM100 101 (by decide)
      refine g_ireturn dX10_spoon_40 ?_
      exact ⟨iM10, fM10, q99_0_M10, q99_1_M10, q99_2_M10, q99_3_M10, q100_0_M10, q100_1_M10, q100_2_M10, q100_3_M10, q100_49_M10, q100_50_M10, q100_51_M10, q100_52_M10, q103_0_M10, q103_1_M10, q97_12_M10, q97_17_M10, q97_33_M10, q97_10_M10, q97_44_M10, by omega, by rw [(e101.trans c101M1)]; exact ⟨fun q => by first | exact ⟨by omega, fun _ _ => rfl⟩ | exact absurd q (by omega), fun q1 q2 => by first | exact ⟨by omega, fun _ _ => rfl⟩ | exact absurd q2 (by omega) | exact absurd q1 (by omega), fun q1 q2 => by first | exact absurd q2 (by omega) | exact absurd q1 (by omega)⟩, asM10, a98M10⟩
    · replace q5 := q5.resolve_right (fun h => c7 h.1)
      refine g_aload_n (pc' := 27) 0 dX10_spoon_26 rfl rfl ?_
      refine g_iload_n (pc' := 28) 2 dX10_spoon_27 rfl rfl ?_
      refine g_callVip (pc' := 31) (As := [vi b]) (b := 97) (S := []) dX10_spoon_28 rfl m_X10_102 w_X10_isGlass (c_X10_isGlass X M1 iM1 b hb) rfl ⟨_, _, _, rfl, rfl, rfl⟩ (by decide) (by decide) rfl (Nat.le_of_ble_eq_true rfl) (fun z12 q11 => ?_)
      refine g_if_ne (pc' := 34) (tgt := 41) ⟨by omega, by omega⟩ dX10_spoon_31 rfl rfl (fun c13 => ?_) (fun c13 => ?_)
      · replace q11 := q11.resolve_right (fun h => c13 h.1)
        refine g_aload_n (pc' := 42) 0 dX10_spoon_41 rfl rfl ?_
        refine g_iload_n (pc' := 43) 1 dX10_spoon_42 rfl rfl ?_
        refine g_iload_n (pc' := 44) 2 dX10_spoon_43 rfl rfl ?_
        refine g_iload_n (pc' := 45) 3 dX10_spoon_44 rfl rfl ?_
        refine g_callVi (pc' := 48) (As := [vi a, vi b, vi c]) (b := 97) (S := []) dX10_spoon_45 rfl m_X10_139 w_X10_spooned (c_X10_spooned_x X M1 iM1 a ha b hb c hc (by omega) (by omega) (by omega)) rfl ⟨_, _, _, rfl, rfl, rfl⟩ (by decide) (by decide) rfl (Nat.le_of_ble_eq_true rfl) (fun z15 M16 q14 => ?_)
        obtain ⟨iM16, fM160, pM16⟩ := q14
        have fM16 : Fr (fun c => c = 97 ∨ c = 98 ∨ c = 101 ∨ c = 104 ∨ c = 105) M M16 := Fr.tr fM1 fM160 fi_34
        have q99_0_M16 : (M16 99 0 = M 99 0) := (congrFun (fM160 99 (by first | decide | omega | (dsimp only; omega))) 0).trans q99_0_M1
        have q99_1_M16 : (M16 99 1 = M 99 1) := (congrFun (fM160 99 (by first | decide | omega | (dsimp only; omega))) 1).trans q99_1_M1
        have q99_2_M16 : (M16 99 2 = M 99 2) := (congrFun (fM160 99 (by first | decide | omega | (dsimp only; omega))) 2).trans q99_2_M1
        have q99_3_M16 : (M16 99 3 = M 99 3) := (congrFun (fM160 99 (by first | decide | omega | (dsimp only; omega))) 3).trans q99_3_M1
        have q100_0_M16 : id (M16 100 0 = M 100 0) := (congrFun (fM160 100 (by first | decide | omega | (dsimp only; omega))) 0).trans q100_0_M1
        have q100_1_M16 : id (M16 100 1 = M 100 1) := (congrFun (fM160 100 (by first | decide | omega | (dsimp only; omega))) 1).trans q100_1_M1
        have q100_2_M16 : id (M16 100 2 = M 100 2) := (congrFun (fM160 100 (by first | decide | omega | (dsimp only; omega))) 2).trans q100_2_M1
        have q100_3_M16 : id (M16 100 3 = M 100 3) := (congrFun (fM160 100 (by first | decide | omega | (dsimp only; omega))) 3).trans q100_3_M1
        have q100_49_M16 : id (M16 100 49 = M 100 49) := (congrFun (fM160 100 (by first | decide | omega | (dsimp only; omega))) 49).trans q100_49_M1
        have q100_50_M16 : id (M16 100 50 = M 100 50) := (congrFun (fM160 100 (by first | decide | omega | (dsimp only; omega))) 50).trans q100_50_M1
        have q100_51_M16 : id (M16 100 51 = M 100 51) := (congrFun (fM160 100 (by first | decide | omega | (dsimp only; omega))) 51).trans q100_51_M1
        have q100_52_M16 : id (M16 100 52 = M 100 52) := (congrFun (fM160 100 (by first | decide | omega | (dsimp only; omega))) 52).trans q100_52_M1
        have q103_0_M16 : id (M16 103 0 = M 103 0) := (congrFun (fM160 103 (by first | decide | omega | (dsimp only; omega))) 0).trans q103_0_M1
        have q103_1_M16 : id (M16 103 1 = M 103 1) := (congrFun (fM160 103 (by first | decide | omega | (dsimp only; omega))) 1).trans q103_1_M1
        have q97_12_M16 : (M16 97 12 = M 97 12) := (congrFun (fM160 97 (by first | decide | omega | (dsimp only; omega))) 12).trans q97_12_M1
        have q97_17_M16 : (M16 97 17 = M 97 17) := (congrFun (fM160 97 (by first | decide | omega | (dsimp only; omega))) 17).trans q97_17_M1
        have q97_33_M16 : (M16 97 33 = M 97 33) := (congrFun (fM160 97 (by first | decide | omega | (dsimp only; omega))) 33).trans q97_33_M1
        have q97_10_M16 : (M16 97 10 = M 97 10) := (congrFun (fM160 97 (by first | decide | omega | (dsimp only; omega))) 10).trans q97_10_M1
        have q97_44_M16 : (M16 97 44 = M 97 44) := (congrFun (fM160 97 (by first | decide | omega | (dsimp only; omega))) 44).trans q97_44_M1
        have q97_1_M16 : (M16 97 1 = M 97 1) := (congrFun (fM160 97 (by first | decide | omega | (dsimp only; omega))) 1).trans q97_1_M1
        have wM16_97_1 : M16 97 1 = M1 97 1 := (congrFun (fM160 97 (by first | decide | omega | (dsimp only; omega))) 1)
        have xM16_97_0 : M16 97 0 = 0 := (congrFun (fM160 97 (by first | decide | omega | (dsimp only; omega))) 0).trans xM1_97_0
        have c98M16 : M16 98 = M 98 := (fM160 98 (by decide)).trans c98M1
        have c99M16 : M16 99 = M 99 := (fM160 99 (by decide)).trans c99M1
        obtain ⟨spM16, kuM16⟩ := pM16
        rw [c101M1, c99M1] at spM16
        have rrM16 := spM16.r
        refine g_istore (pc' := 50) (L' := [(4, vi z15), (0, vr X 97), (1, vi a), (2, vi b), (3, vi c)]) dX10_spoon_48 rfl (by decide) rfl ?_
        refine g_aload_n (pc' := 51) 1 dX10_spoon_50 rfl rfl ?_
        refine g_iload (pc' := 53) 0 dX10_spoon_51 rfl rfl ?_
        refine g_if_ge (pc' := 56) (tgt := 61) ⟨by omega, by omega⟩ dX10_spoon_53 rfl rfl (fun c17 => ?_) (fun c17 => ?_)
        · refine g_aload_n (pc' := 62) 1 dX10_spoon_61 rfl rfl ?_
          refine g_iload_n (pc' := 63) 3 dX10_spoon_62 rfl rfl ?_
          refine g_callVip (pc' := 66) (As := [vi b]) (b := 97) (S := [vr X 97]) dX10_spoon_63 rfl m_X10_99 w_X10_full (c_X10_full X M16 iM16 b hb ⟨by omega, by omega⟩) rfl ⟨_, _, _, rfl, rfl, rfl⟩ (by decide) (by decide) rfl (Nat.le_of_ble_eq_true rfl) (fun z19 q18 => ?_)
          have flz19 : flm (M16 101) (b).toNat = z19 := flm_at iM16.2.1.1.1 (by unfold sm4; exact q18.2.symm)
          have fbz19 := q18.1
          refine g_callVi (pc' := 69) (As := [vi z19]) (b := 97) (S := []) dX10_spoon_66 rfl m_X10_87 w_X10_tell (c_X10_tell_x X M16 iM16 z19 ⟨by omega, by omega⟩ (by omega)) rfl ⟨_, _, _, rfl, rfl, rfl⟩ (by decide) (by decide) rfl (Nat.le_of_ble_eq_true rfl) (fun z21 M22 q20 => ?_)
          obtain ⟨iM22, fM220, eM22_99_0, eM22_99_1, eM22_99_2, eM22_99_3, eM22_100_0, eM22_100_1, eM22_100_2, eM22_100_3, eM22_100_49, eM22_100_50, eM22_100_51, eM22_100_52, eM22_103_0, eM22_103_1, eM22_97_12, eM22_97_17, eM22_97_33, eM22_97_10, eM22_97_44, pM22⟩ := q20
          have fM22 : Fr (fun c => c = 97 ∨ c = 98 ∨ c = 101 ∨ c = 104 ∨ c = 105) M M22 := Fr.tr fM16 fM220 fi_33
          have q99_0_M22 : (M22 99 0 = M 99 0) := eM22_99_0.trans q99_0_M16
          have q99_1_M22 : (M22 99 1 = M 99 1) := eM22_99_1.trans q99_1_M16
          have q99_2_M22 : (M22 99 2 = M 99 2) := eM22_99_2.trans q99_2_M16
          have q99_3_M22 : (M22 99 3 = M 99 3) := eM22_99_3.trans q99_3_M16
          have q100_0_M22 : id (M22 100 0 = M 100 0) := eM22_100_0.trans q100_0_M16
          have q100_1_M22 : id (M22 100 1 = M 100 1) := eM22_100_1.trans q100_1_M16
          have q100_2_M22 : id (M22 100 2 = M 100 2) := eM22_100_2.trans q100_2_M16
          have q100_3_M22 : id (M22 100 3 = M 100 3) := eM22_100_3.trans q100_3_M16
          have q100_49_M22 : id (M22 100 49 = M 100 49) := eM22_100_49.trans q100_49_M16
          have q100_50_M22 : id (M22 100 50 = M 100 50) := eM22_100_50.trans q100_50_M16
          have q100_51_M22 : id (M22 100 51 = M 100 51) := eM22_100_51.trans q100_51_M16
          have q100_52_M22 : id (M22 100 52 = M 100 52) := eM22_100_52.trans q100_52_M16
          have q103_0_M22 : id (M22 103 0 = M 103 0) := eM22_103_0.trans q103_0_M16
          have q103_1_M22 : id (M22 103 1 = M 103 1) := eM22_103_1.trans q103_1_M16
          have q97_12_M22 : (M22 97 12 = M 97 12) := eM22_97_12.trans q97_12_M16
          have q97_17_M22 : (M22 97 17 = M 97 17) := eM22_97_17.trans q97_17_M16
          have q97_33_M22 : (M22 97 33 = M 97 33) := eM22_97_33.trans q97_33_M16
          have q97_10_M22 : (M22 97 10 = M 97 10) := eM22_97_10.trans q97_10_M16
          have q97_44_M22 : (M22 97 44 = M 97 44) := eM22_97_44.trans q97_44_M16
          clear eM22_100_0 eM22_100_1 eM22_100_2 eM22_100_3 eM22_100_49 eM22_100_50 eM22_100_51 eM22_100_52 eM22_103_0 eM22_103_1
          have c99M22 : M22 99 = M 99 := (fM220 99 (by decide)).trans c99M16
          obtain ⟨anM22, asM22, a98M22⟩ := pM22
          rw [c98M16] at a98M22
          subst anM22
          have e101 : M22 101 = M16 101 := fM220 101 (by decide)
          refine g_ireturn dX10_spoon_69 ?_
          exact ⟨iM22, fM22, q99_0_M22, q99_1_M22, q99_2_M22, q99_3_M22, q100_0_M22, q100_1_M22, q100_2_M22, q100_3_M22, q100_49_M22, q100_50_M22, q100_51_M22, q100_52_M22, q103_0_M22, q103_1_M22, q97_12_M22, q97_17_M22, q97_33_M22, q97_10_M22, q97_44_M22, by omega, by rw [e101]; exact ⟨fun q => absurd q (by omega), fun q1 q2 => absurd q2 (by omega), fun q1 q2 => ⟨_, spM16, Or.inr ⟨by omega, by rw [flz19]⟩⟩⟩, asM22, a98M22⟩
        · refine g_iload (pc' := 58) 0 dX10_spoon_56 rfl rfl ?_
          refine g_goto (tgt := 66) dX10_spoon_58 rfl ?_
          refine g_callVi (pc' := 69) (As := [vi z15]) (b := 97) (S := []) dX10_spoon_66 rfl m_X10_87 w_X10_tell (c_X10_tell_x X M16 iM16 z15 ⟨by omega, by omega⟩ (by omega)) rfl ⟨_, _, _, rfl, rfl, rfl⟩ (by decide) (by decide) rfl (Nat.le_of_ble_eq_true rfl) (fun z24 M25 q23 => ?_)
          obtain ⟨iM25, fM250, eM25_99_0, eM25_99_1, eM25_99_2, eM25_99_3, eM25_100_0, eM25_100_1, eM25_100_2, eM25_100_3, eM25_100_49, eM25_100_50, eM25_100_51, eM25_100_52, eM25_103_0, eM25_103_1, eM25_97_12, eM25_97_17, eM25_97_33, eM25_97_10, eM25_97_44, pM25⟩ := q23
          have fM25 : Fr (fun c => c = 97 ∨ c = 98 ∨ c = 101 ∨ c = 104 ∨ c = 105) M M25 := Fr.tr fM16 fM250 fi_33
          have q99_0_M25 : (M25 99 0 = M 99 0) := eM25_99_0.trans q99_0_M16
          have q99_1_M25 : (M25 99 1 = M 99 1) := eM25_99_1.trans q99_1_M16
          have q99_2_M25 : (M25 99 2 = M 99 2) := eM25_99_2.trans q99_2_M16
          have q99_3_M25 : (M25 99 3 = M 99 3) := eM25_99_3.trans q99_3_M16
          have q100_0_M25 : id (M25 100 0 = M 100 0) := eM25_100_0.trans q100_0_M16
          have q100_1_M25 : id (M25 100 1 = M 100 1) := eM25_100_1.trans q100_1_M16
          have q100_2_M25 : id (M25 100 2 = M 100 2) := eM25_100_2.trans q100_2_M16
          have q100_3_M25 : id (M25 100 3 = M 100 3) := eM25_100_3.trans q100_3_M16
          have q100_49_M25 : id (M25 100 49 = M 100 49) := eM25_100_49.trans q100_49_M16
          have q100_50_M25 : id (M25 100 50 = M 100 50) := eM25_100_50.trans q100_50_M16
          have q100_51_M25 : id (M25 100 51 = M 100 51) := eM25_100_51.trans q100_51_M16
          have q100_52_M25 : id (M25 100 52 = M 100 52) := eM25_100_52.trans q100_52_M16
          have q103_0_M25 : id (M25 103 0 = M 103 0) := eM25_103_0.trans q103_0_M16
          have q103_1_M25 : id (M25 103 1 = M 103 1) := eM25_103_1.trans q103_1_M16
          have q97_12_M25 : (M25 97 12 = M 97 12) := eM25_97_12.trans q97_12_M16
          have q97_17_M25 : (M25 97 17 = M 97 17) := eM25_97_17.trans q97_17_M16
          have q97_33_M25 : (M25 97 33 = M 97 33) := eM25_97_33.trans q97_33_M16
          have q97_10_M25 : (M25 97 10 = M 97 10) := eM25_97_10.trans q97_10_M16
          have q97_44_M25 : (M25 97 44 = M 97 44) := eM25_97_44.trans q97_44_M16
          clear eM25_100_0 eM25_100_1 eM25_100_2 eM25_100_3 eM25_100_49 eM25_100_50 eM25_100_51 eM25_100_52 eM25_103_0 eM25_103_1
          have c99M25 : M25 99 = M 99 := (fM250 99 (by decide)).trans c99M16
          obtain ⟨anM25, asM25, a98M25⟩ := pM25
          rw [c98M16] at a98M25
          subst anM25
          have e101 : M25 101 = M16 101 := fM250 101 (by decide)
          refine g_ireturn dX10_spoon_69 ?_
          exact ⟨iM25, fM25, q99_0_M25, q99_1_M25, q99_2_M25, q99_3_M25, q100_0_M25, q100_1_M25, q100_2_M25, q100_3_M25, q100_49_M25, q100_50_M25, q100_51_M25, q100_52_M25, q103_0_M25, q103_1_M25, q97_12_M25, q97_17_M25, q97_33_M25, q97_10_M25, q97_44_M25, by omega, by rw [e101]; exact ⟨fun q => absurd q (by omega), fun q1 q2 => absurd q2 (by omega), fun q1 q2 => ⟨_, spM16, Or.inl ⟨by omega, by omega⟩⟩⟩, asM25, a98M25⟩
      · replace q11 := q11.resolve_left (fun h => absurd (c13.symm.trans h.1) (by decide))
        refine g_aload_n (pc' := 35) 0 dX10_spoon_34 rfl rfl ?_
        refine g_bipush (pc' := 37) (v := (-2)) dX10_spoon_35 rfl (by decide) ?_
        refine g_callVi (pc' := 40) (As := [vi (-2)]) (b := 97) (S := []) dX10_spoon_37 rfl m_X10_87 w_X10_tell (c_X10_tell_x X M1 iM1 (-2) (by decide) (by omega)) rfl ⟨_, _, _, rfl, rfl, rfl⟩ (by decide) (by decide) rfl (Nat.le_of_ble_eq_true rfl) (fun z27 M28 q26 => ?_)
        obtain ⟨iM28, fM280, eM28_99_0, eM28_99_1, eM28_99_2, eM28_99_3, eM28_100_0, eM28_100_1, eM28_100_2, eM28_100_3, eM28_100_49, eM28_100_50, eM28_100_51, eM28_100_52, eM28_103_0, eM28_103_1, eM28_97_12, eM28_97_17, eM28_97_33, eM28_97_10, eM28_97_44, pM28⟩ := q26
        have fM28 : Fr (fun c => c = 97 ∨ c = 98 ∨ c = 101 ∨ c = 104 ∨ c = 105) M M28 := Fr.tr fM1 fM280 fi_33
        have q99_0_M28 : (M28 99 0 = M 99 0) := eM28_99_0.trans q99_0_M1
        have q99_1_M28 : (M28 99 1 = M 99 1) := eM28_99_1.trans q99_1_M1
        have q99_2_M28 : (M28 99 2 = M 99 2) := eM28_99_2.trans q99_2_M1
        have q99_3_M28 : (M28 99 3 = M 99 3) := eM28_99_3.trans q99_3_M1
        have q100_0_M28 : id (M28 100 0 = M 100 0) := eM28_100_0.trans q100_0_M1
        have q100_1_M28 : id (M28 100 1 = M 100 1) := eM28_100_1.trans q100_1_M1
        have q100_2_M28 : id (M28 100 2 = M 100 2) := eM28_100_2.trans q100_2_M1
        have q100_3_M28 : id (M28 100 3 = M 100 3) := eM28_100_3.trans q100_3_M1
        have q100_49_M28 : id (M28 100 49 = M 100 49) := eM28_100_49.trans q100_49_M1
        have q100_50_M28 : id (M28 100 50 = M 100 50) := eM28_100_50.trans q100_50_M1
        have q100_51_M28 : id (M28 100 51 = M 100 51) := eM28_100_51.trans q100_51_M1
        have q100_52_M28 : id (M28 100 52 = M 100 52) := eM28_100_52.trans q100_52_M1
        have q103_0_M28 : id (M28 103 0 = M 103 0) := eM28_103_0.trans q103_0_M1
        have q103_1_M28 : id (M28 103 1 = M 103 1) := eM28_103_1.trans q103_1_M1
        have q97_12_M28 : (M28 97 12 = M 97 12) := eM28_97_12.trans q97_12_M1
        have q97_17_M28 : (M28 97 17 = M 97 17) := eM28_97_17.trans q97_17_M1
        have q97_33_M28 : (M28 97 33 = M 97 33) := eM28_97_33.trans q97_33_M1
        have q97_10_M28 : (M28 97 10 = M 97 10) := eM28_97_10.trans q97_10_M1
        have q97_44_M28 : (M28 97 44 = M 97 44) := eM28_97_44.trans q97_44_M1
        clear eM28_100_0 eM28_100_1 eM28_100_2 eM28_100_3 eM28_100_49 eM28_100_50 eM28_100_51 eM28_100_52 eM28_103_0 eM28_103_1
        have c99M28 : M28 99 = M 99 := (fM280 99 (by decide)).trans c99M1
        have c101M28 : M28 101 = M 101 := (fM280 101 (by decide)).trans c101M1
        obtain ⟨anM28, asM28, a98M28⟩ := pM28
        rw [c98M1] at a98M28
        subst anM28
        have e101 : M28 101 = M1 101 := fM280 101 (by decide)
        refine g_ireturn dX10_spoon_40 ?_
        exact ⟨iM28, fM28, q99_0_M28, q99_1_M28, q99_2_M28, q99_3_M28, q100_0_M28, q100_1_M28, q100_2_M28, q100_3_M28, q100_49_M28, q100_50_M28, q100_51_M28, q100_52_M28, q103_0_M28, q103_1_M28, q97_12_M28, q97_17_M28, q97_33_M28, q97_10_M28, q97_44_M28, by omega, by rw [(e101.trans c101M1)]; exact ⟨fun q => by first | exact ⟨by omega, fun _ _ => rfl⟩ | exact absurd q (by omega), fun q1 q2 => by first | exact ⟨by omega, fun _ _ => rfl⟩ | exact absurd q2 (by omega) | exact absurd q1 (by omega), fun q1 q2 => by first | exact absurd q2 (by omega) | exact absurd q1 (by omega)⟩, asM28, a98M28⟩
  · replace q2 := q2.resolve_left (fun h => absurd (c4.symm.trans h.1) (by decide))
    refine g_aload_n (pc' := 13) 0 dX10_spoon_12 rfl rfl ?_
    refine g_iconst (pc' := 14) dX10_spoon_13 rfl ?_
    refine g_callVi (pc' := 17) (As := [vi (-1)]) (b := 97) (S := []) dX10_spoon_14 rfl m_X10_87 w_X10_tell (c_X10_tell_x X M1 iM1 (-1) (by decide) (by omega)) rfl ⟨_, _, _, rfl, rfl, rfl⟩ (by decide) (by decide) rfl (Nat.le_of_ble_eq_true rfl) (fun z30 M31 q29 => ?_)
    obtain ⟨iM31, fM310, eM31_99_0, eM31_99_1, eM31_99_2, eM31_99_3, eM31_100_0, eM31_100_1, eM31_100_2, eM31_100_3, eM31_100_49, eM31_100_50, eM31_100_51, eM31_100_52, eM31_103_0, eM31_103_1, eM31_97_12, eM31_97_17, eM31_97_33, eM31_97_10, eM31_97_44, pM31⟩ := q29
    have fM31 : Fr (fun c => c = 97 ∨ c = 98 ∨ c = 101 ∨ c = 104 ∨ c = 105) M M31 := Fr.tr fM1 fM310 fi_33
    have q99_0_M31 : (M31 99 0 = M 99 0) := eM31_99_0.trans q99_0_M1
    have q99_1_M31 : (M31 99 1 = M 99 1) := eM31_99_1.trans q99_1_M1
    have q99_2_M31 : (M31 99 2 = M 99 2) := eM31_99_2.trans q99_2_M1
    have q99_3_M31 : (M31 99 3 = M 99 3) := eM31_99_3.trans q99_3_M1
    have q100_0_M31 : id (M31 100 0 = M 100 0) := eM31_100_0.trans q100_0_M1
    have q100_1_M31 : id (M31 100 1 = M 100 1) := eM31_100_1.trans q100_1_M1
    have q100_2_M31 : id (M31 100 2 = M 100 2) := eM31_100_2.trans q100_2_M1
    have q100_3_M31 : id (M31 100 3 = M 100 3) := eM31_100_3.trans q100_3_M1
    have q100_49_M31 : id (M31 100 49 = M 100 49) := eM31_100_49.trans q100_49_M1
    have q100_50_M31 : id (M31 100 50 = M 100 50) := eM31_100_50.trans q100_50_M1
    have q100_51_M31 : id (M31 100 51 = M 100 51) := eM31_100_51.trans q100_51_M1
    have q100_52_M31 : id (M31 100 52 = M 100 52) := eM31_100_52.trans q100_52_M1
    have q103_0_M31 : id (M31 103 0 = M 103 0) := eM31_103_0.trans q103_0_M1
    have q103_1_M31 : id (M31 103 1 = M 103 1) := eM31_103_1.trans q103_1_M1
    have q97_12_M31 : (M31 97 12 = M 97 12) := eM31_97_12.trans q97_12_M1
    have q97_17_M31 : (M31 97 17 = M 97 17) := eM31_97_17.trans q97_17_M1
    have q97_33_M31 : (M31 97 33 = M 97 33) := eM31_97_33.trans q97_33_M1
    have q97_10_M31 : (M31 97 10 = M 97 10) := eM31_97_10.trans q97_10_M1
    have q97_44_M31 : (M31 97 44 = M 97 44) := eM31_97_44.trans q97_44_M1
    clear eM31_100_0 eM31_100_1 eM31_100_2 eM31_100_3 eM31_100_49 eM31_100_50 eM31_100_51 eM31_100_52 eM31_103_0 eM31_103_1
    have c99M31 : M31 99 = M 99 := (fM310 99 (by decide)).trans c99M1
    have c101M31 : M31 101 = M 101 := (fM310 101 (by decide)).trans c101M1
    obtain ⟨anM31, asM31, a98M31⟩ := pM31
    rw [c98M1] at a98M31
    subst anM31
    have e101 : M31 101 = M1 101 := fM310 101 (by decide)
    refine g_ireturn dX10_spoon_17 ?_
    exact ⟨iM31, fM31, q99_0_M31, q99_1_M31, q99_2_M31, q99_3_M31, q100_0_M31, q100_1_M31, q100_2_M31, q100_3_M31, q100_49_M31, q100_50_M31, q100_51_M31, q100_52_M31, q103_0_M31, q103_1_M31, q97_12_M31, q97_17_M31, q97_33_M31, q97_10_M31, q97_44_M31, by omega, by rw [(e101.trans c101M1)]; exact ⟨fun q => by first | exact ⟨by omega, fun _ _ => rfl⟩ | exact absurd q (by omega), fun q1 q2 => by first | exact ⟨by omega, fun _ _ => rfl⟩ | exact absurd q2 (by omega) | exact absurd q1 (by omega), fun q1 q2 => by first | exact absurd q2 (by omega) | exact absurd q1 (by omega)⟩, asM31, a98M31⟩
set_option maxHeartbeats 4000000 in
set_option maxRecDepth 100000 in
theorem c_X10_lick_x (X : Cx) (M : Mm) (hi : IM M) (a : Int) (ha : inI a) (b : Int) (hb : inI b) : Con X 12 yX10_lick cX10_lick 4 (some .int) [vr X 97, vi a, vi b] M (Qi (fun r M1 => IM M1 ∧ Fr (fun c => c = 97 ∨ c = 98 ∨ c = 101 ∨ c = 104 ∨ c = 105) M M1 ∧ M1 99 0 = M 99 0 ∧ M1 99 1 = M 99 1 ∧ M1 99 2 = M 99 2 ∧ M1 99 3 = M 99 3 ∧ M1 100 0 = M 100 0 ∧ M1 100 1 = M 100 1 ∧ M1 100 2 = M 100 2 ∧ M1 100 3 = M 100 3 ∧ M1 100 49 = M 100 49 ∧ M1 100 50 = M 100 50 ∧ M1 100 51 = M 100 51 ∧ M1 100 52 = M 100 52 ∧ M1 103 0 = M 103 0 ∧ M1 103 1 = M 103 1 ∧ M1 97 12 = M 97 12 ∧ M1 97 17 = M 97 17 ∧ M1 97 33 = M 97 33 ∧ M1 97 10 = M 97 10 ∧ M1 97 44 = M 97 44 ∧ ((-6 ≤ r ∧ r ≤ 60) ∧ RLK (M 101) (fun j => M 99 (4 + j)) (M 99 0) a b r (M1 101) ∧ M1 97 1 = ngv r ∧ M1 98 = telF (M 98) r))) := by
  refine Con.ofG rfl (Nat.le_of_ble_eq_true rfl) ?_
  show G X 12 RX10 cX10_lick 4 (some .int) (Qi (fun r M1 => IM M1 ∧ Fr (fun c => c = 97 ∨ c = 98 ∨ c = 101 ∨ c = 104 ∨ c = 105) M M1 ∧ M1 99 0 = M 99 0 ∧ M1 99 1 = M 99 1 ∧ M1 99 2 = M 99 2 ∧ M1 99 3 = M 99 3 ∧ M1 100 0 = M 100 0 ∧ M1 100 1 = M 100 1 ∧ M1 100 2 = M 100 2 ∧ M1 100 3 = M 100 3 ∧ M1 100 49 = M 100 49 ∧ M1 100 50 = M 100 50 ∧ M1 100 51 = M 100 51 ∧ M1 100 52 = M 100 52 ∧ M1 103 0 = M 103 0 ∧ M1 103 1 = M 103 1 ∧ M1 97 12 = M 97 12 ∧ M1 97 17 = M 97 17 ∧ M1 97 33 = M 97 33 ∧ M1 97 10 = M 97 10 ∧ M1 97 44 = M 97 44 ∧ ((-6 ≤ r ∧ r ≤ 60) ∧ RLK (M 101) (fun j => M 99 (4 + j)) (M 99 0) a b r (M1 101) ∧ M1 97 1 = ngv r ∧ M1 98 = telF (M 98) r))) 0 [(0, vr X 97), (1, vi a), (2, vi b)] [] M
  have p0 := hi.1.1
  have p1 := hi.1.2.1
  have p2 := hi.1.2.2.1
  have p3 := hi.1.2.2.2.1
  have p12 := hi.2.2.2.1
  refine g_aload_n (pc' := 1) 0 dX10_lick_0 rfl rfl ?_
  refine g_iconst (pc' := 2) dX10_lick_1 rfl ?_
  refine g_putI (pc' := 5) dX10_lick_2 rfl p_X10_77 rfl rfl (by decide) (fun M1 hM1 => ?_)
  have iM1 : IM M1 := IM.wr hi hM1 (by unfold okv; first | decide | omega)
  have fM1 : Fr (fun c => c = 97 ∨ c = 98 ∨ c = 101 ∨ c = 104 ∨ c = 105) M M1 := Fr.wr Fr.rf hM1 (by first | decide | omega | (dsimp only; omega))
  have q99_0_M1 : (M1 99 0 = M 99 0) := (show M1 99 0 = M 99 0 by rw [hM1]; exact mu_ne _ _ (by first | decide | omega))
  have q99_1_M1 : (M1 99 1 = M 99 1) := (show M1 99 1 = M 99 1 by rw [hM1]; exact mu_ne _ _ (by first | decide | omega))
  have q99_2_M1 : (M1 99 2 = M 99 2) := (show M1 99 2 = M 99 2 by rw [hM1]; exact mu_ne _ _ (by first | decide | omega))
  have q99_3_M1 : (M1 99 3 = M 99 3) := (show M1 99 3 = M 99 3 by rw [hM1]; exact mu_ne _ _ (by first | decide | omega))
  have q100_0_M1 : id (M1 100 0 = M 100 0) := (show M1 100 0 = M 100 0 by rw [hM1]; exact mu_ne _ _ (by first | decide | omega))
  have q100_1_M1 : id (M1 100 1 = M 100 1) := (show M1 100 1 = M 100 1 by rw [hM1]; exact mu_ne _ _ (by first | decide | omega))
  have q100_2_M1 : id (M1 100 2 = M 100 2) := (show M1 100 2 = M 100 2 by rw [hM1]; exact mu_ne _ _ (by first | decide | omega))
  have q100_3_M1 : id (M1 100 3 = M 100 3) := (show M1 100 3 = M 100 3 by rw [hM1]; exact mu_ne _ _ (by first | decide | omega))
  have q100_49_M1 : id (M1 100 49 = M 100 49) := (show M1 100 49 = M 100 49 by rw [hM1]; exact mu_ne _ _ (by first | decide | omega))
  have q100_50_M1 : id (M1 100 50 = M 100 50) := (show M1 100 50 = M 100 50 by rw [hM1]; exact mu_ne _ _ (by first | decide | omega))
  have q100_51_M1 : id (M1 100 51 = M 100 51) := (show M1 100 51 = M 100 51 by rw [hM1]; exact mu_ne _ _ (by first | decide | omega))
  have q100_52_M1 : id (M1 100 52 = M 100 52) := (show M1 100 52 = M 100 52 by rw [hM1]; exact mu_ne _ _ (by first | decide | omega))
  have q103_0_M1 : id (M1 103 0 = M 103 0) := (show M1 103 0 = M 103 0 by rw [hM1]; exact mu_ne _ _ (by first | decide | omega))
  have q103_1_M1 : id (M1 103 1 = M 103 1) := (show M1 103 1 = M 103 1 by rw [hM1]; exact mu_ne _ _ (by first | decide | omega))
  have q97_12_M1 : (M1 97 12 = M 97 12) := (show M1 97 12 = M 97 12 by rw [hM1]; exact mu_ne _ _ (by first | decide | omega))
  have q97_17_M1 : (M1 97 17 = M 97 17) := (show M1 97 17 = M 97 17 by rw [hM1]; exact mu_ne _ _ (by first | decide | omega))
  have q97_33_M1 : (M1 97 33 = M 97 33) := (show M1 97 33 = M 97 33 by rw [hM1]; exact mu_ne _ _ (by first | decide | omega))
  have q97_10_M1 : (M1 97 10 = M 97 10) := (show M1 97 10 = M 97 10 by rw [hM1]; exact mu_ne _ _ (by first | decide | omega))
  have q97_44_M1 : (M1 97 44 = M 97 44) := (show M1 97 44 = M 97 44 by rw [hM1]; exact mu_ne _ _ (by first | decide | omega))
  have q97_1_M1 : (M1 97 1 = M 97 1) := (show M1 97 1 = M 97 1 by rw [hM1]; exact mu_ne _ _ (by first | decide | omega))
  have wM1_97_1 : M1 97 1 = M 97 1 := by rw [hM1]; exact mu_ne _ _ (by first | decide | omega)
  have xM1_97_0 : M1 97 0 = 0 := by rw [hM1]; exact mu_at _ _ _ _
  have c98M1 : M1 98 = M 98 := (by rw [hM1]; exact mu_cell _ _ (by decide))
  have c99M1 : M1 99 = M 99 := (by rw [hM1]; exact mu_cell _ _ (by decide))
  have c101M1 : M1 101 = M 101 := (by rw [hM1]; exact mu_cell _ _ (by decide))
  refine g_iload_n (pc' := 6) 2 dX10_lick_5 rfl rfl ?_
  refine g_callSip (pc' := 9) (As := [vi b]) (S := []) dX10_lick_6 rfl m_X10_95 w_X10_isAmount (c_X10_isAmount X M1 b hb) rfl (by decide) (by decide) rfl (Nat.le_of_ble_eq_true rfl) (fun z3 q2 => ?_)
  refine g_if_ne (pc' := 12) (tgt := 18) ⟨by omega, by omega⟩ dX10_lick_9 rfl rfl (fun c4 => ?_) (fun c4 => ?_)
  · replace q2 := q2.resolve_right (fun h => c4 h.1)
    refine g_aload_n (pc' := 19) 0 dX10_lick_18 rfl rfl ?_
    refine g_iload_n (pc' := 20) 1 dX10_lick_19 rfl rfl ?_
    refine g_callVip (pc' := 23) (As := [vi a]) (b := 97) (S := []) dX10_lick_20 rfl m_X10_102 w_X10_isGlass (c_X10_isGlass X M1 iM1 a ha) rfl ⟨_, _, _, rfl, rfl, rfl⟩ (by decide) (by decide) rfl (Nat.le_of_ble_eq_true rfl) (fun z6 q5 => ?_)
    refine g_if_ne (pc' := 26) (tgt := 33) ⟨by omega, by omega⟩ dX10_lick_23 rfl rfl (fun c7 => ?_) (fun c7 => ?_)
    · replace q5 := q5.resolve_right (fun h => c7 h.1)
      refine g_aload_n (pc' := 34) 0 dX10_lick_33 rfl rfl ?_
      refine g_iload_n (pc' := 35) 1 dX10_lick_34 rfl rfl ?_
      refine g_iconst (pc' := 36) dX10_lick_35 rfl ?_
      refine g_iload_n (pc' := 37) 2 dX10_lick_36 rfl rfl ?_
      refine g_callVi (pc' := 40) (As := [vi a, vi (-1), vi b]) (b := 97) (S := []) dX10_lick_37 rfl m_X10_139 w_X10_spooned (c_X10_spooned_x X M1 iM1 a ha (-1) (by decide) b hb (by omega) (by omega) (by omega)) rfl ⟨_, _, _, rfl, rfl, rfl⟩ (by decide) (by decide) rfl (Nat.le_of_ble_eq_true rfl) (fun z9 M10 q8 => ?_)
      obtain ⟨iM10, fM100, pM10⟩ := q8
      have fM10 : Fr (fun c => c = 97 ∨ c = 98 ∨ c = 101 ∨ c = 104 ∨ c = 105) M M10 := Fr.tr fM1 fM100 fi_34
      have q99_0_M10 : (M10 99 0 = M 99 0) := (congrFun (fM100 99 (by first | decide | omega | (dsimp only; omega))) 0).trans q99_0_M1
      have q99_1_M10 : (M10 99 1 = M 99 1) := (congrFun (fM100 99 (by first | decide | omega | (dsimp only; omega))) 1).trans q99_1_M1
      have q99_2_M10 : (M10 99 2 = M 99 2) := (congrFun (fM100 99 (by first | decide | omega | (dsimp only; omega))) 2).trans q99_2_M1
      have q99_3_M10 : (M10 99 3 = M 99 3) := (congrFun (fM100 99 (by first | decide | omega | (dsimp only; omega))) 3).trans q99_3_M1
      have q100_0_M10 : id (M10 100 0 = M 100 0) := (congrFun (fM100 100 (by first | decide | omega | (dsimp only; omega))) 0).trans q100_0_M1
      have q100_1_M10 : id (M10 100 1 = M 100 1) := (congrFun (fM100 100 (by first | decide | omega | (dsimp only; omega))) 1).trans q100_1_M1
      have q100_2_M10 : id (M10 100 2 = M 100 2) := (congrFun (fM100 100 (by first | decide | omega | (dsimp only; omega))) 2).trans q100_2_M1
      have q100_3_M10 : id (M10 100 3 = M 100 3) := (congrFun (fM100 100 (by first | decide | omega | (dsimp only; omega))) 3).trans q100_3_M1
      have q100_49_M10 : id (M10 100 49 = M 100 49) := (congrFun (fM100 100 (by first | decide | omega | (dsimp only; omega))) 49).trans q100_49_M1
      have q100_50_M10 : id (M10 100 50 = M 100 50) := (congrFun (fM100 100 (by first | decide | omega | (dsimp only; omega))) 50).trans q100_50_M1
      have q100_51_M10 : id (M10 100 51 = M 100 51) := (congrFun (fM100 100 (by first | decide | omega | (dsimp only; omega))) 51).trans q100_51_M1
      have q100_52_M10 : id (M10 100 52 = M 100 52) := (congrFun (fM100 100 (by first | decide | omega | (dsimp only; omega))) 52).trans q100_52_M1
      have q103_0_M10 : id (M10 103 0 = M 103 0) := (congrFun (fM100 103 (by first | decide | omega | (dsimp only; omega))) 0).trans q103_0_M1
      have q103_1_M10 : id (M10 103 1 = M 103 1) := (congrFun (fM100 103 (by first | decide | omega | (dsimp only; omega))) 1).trans q103_1_M1
      have q97_12_M10 : (M10 97 12 = M 97 12) := (congrFun (fM100 97 (by first | decide | omega | (dsimp only; omega))) 12).trans q97_12_M1
      have q97_17_M10 : (M10 97 17 = M 97 17) := (congrFun (fM100 97 (by first | decide | omega | (dsimp only; omega))) 17).trans q97_17_M1
      have q97_33_M10 : (M10 97 33 = M 97 33) := (congrFun (fM100 97 (by first | decide | omega | (dsimp only; omega))) 33).trans q97_33_M1
      have q97_10_M10 : (M10 97 10 = M 97 10) := (congrFun (fM100 97 (by first | decide | omega | (dsimp only; omega))) 10).trans q97_10_M1
      have q97_44_M10 : (M10 97 44 = M 97 44) := (congrFun (fM100 97 (by first | decide | omega | (dsimp only; omega))) 44).trans q97_44_M1
      have q97_1_M10 : (M10 97 1 = M 97 1) := (congrFun (fM100 97 (by first | decide | omega | (dsimp only; omega))) 1).trans q97_1_M1
      have wM10_97_1 : M10 97 1 = M1 97 1 := (congrFun (fM100 97 (by first | decide | omega | (dsimp only; omega))) 1)
      have xM10_97_0 : M10 97 0 = 0 := (congrFun (fM100 97 (by first | decide | omega | (dsimp only; omega))) 0).trans xM1_97_0
      have c98M10 : M10 98 = M 98 := (fM100 98 (by decide)).trans c98M1
      have c99M10 : M10 99 = M 99 := (fM100 99 (by decide)).trans c99M1
      obtain ⟨spM10, kuM10⟩ := pM10
      rw [c101M1, c99M1] at spM10
      have rrM10 := spM10.r
      refine g_istore_n (pc' := 41) (i := 3) (L' := [(3, vi z9), (0, vr X 97), (1, vi a), (2, vi b)]) dX10_lick_40 rfl rfl (by decide) rfl ?_
      refine g_aload_n (pc' := 42) 1 dX10_lick_41 rfl rfl ?_
      refine g_iload_n (pc' := 43) 0 dX10_lick_42 rfl rfl ?_
      refine g_if_ge (pc' := 46) (tgt := 50) ⟨by omega, by omega⟩ dX10_lick_43 rfl rfl (fun c11 => ?_) (fun c11 => ?_)
      · refine g_aload_n (pc' := 51) 1 dX10_lick_50 rfl rfl ?_
        refine g_iload_n (pc' := 52) 2 dX10_lick_51 rfl rfl ?_
        refine g_callVip (pc' := 55) (As := [vi a]) (b := 97) (S := [vr X 97]) dX10_lick_52 rfl m_X10_99 w_X10_full (c_X10_full X M10 iM10 a ha ⟨by omega, by omega⟩) rfl ⟨_, _, _, rfl, rfl, rfl⟩ (by decide) (by decide) rfl (Nat.le_of_ble_eq_true rfl) (fun z13 q12 => ?_)
        have flz13 : flm (M10 101) (a).toNat = z13 := flm_at iM10.2.1.1.1 (by unfold sm4; exact q12.2.symm)
        have fbz13 := q12.1
        refine g_callVi (pc' := 58) (As := [vi z13]) (b := 97) (S := []) dX10_lick_55 rfl m_X10_87 w_X10_tell (c_X10_tell_x X M10 iM10 z13 ⟨by omega, by omega⟩ (by omega)) rfl ⟨_, _, _, rfl, rfl, rfl⟩ (by decide) (by decide) rfl (Nat.le_of_ble_eq_true rfl) (fun z15 M16 q14 => ?_)
        obtain ⟨iM16, fM160, eM16_99_0, eM16_99_1, eM16_99_2, eM16_99_3, eM16_100_0, eM16_100_1, eM16_100_2, eM16_100_3, eM16_100_49, eM16_100_50, eM16_100_51, eM16_100_52, eM16_103_0, eM16_103_1, eM16_97_12, eM16_97_17, eM16_97_33, eM16_97_10, eM16_97_44, pM16⟩ := q14
        have fM16 : Fr (fun c => c = 97 ∨ c = 98 ∨ c = 101 ∨ c = 104 ∨ c = 105) M M16 := Fr.tr fM10 fM160 fi_33
        have q99_0_M16 : (M16 99 0 = M 99 0) := eM16_99_0.trans q99_0_M10
        have q99_1_M16 : (M16 99 1 = M 99 1) := eM16_99_1.trans q99_1_M10
        have q99_2_M16 : (M16 99 2 = M 99 2) := eM16_99_2.trans q99_2_M10
        have q99_3_M16 : (M16 99 3 = M 99 3) := eM16_99_3.trans q99_3_M10
        have q100_0_M16 : id (M16 100 0 = M 100 0) := eM16_100_0.trans q100_0_M10
        have q100_1_M16 : id (M16 100 1 = M 100 1) := eM16_100_1.trans q100_1_M10
        have q100_2_M16 : id (M16 100 2 = M 100 2) := eM16_100_2.trans q100_2_M10
        have q100_3_M16 : id (M16 100 3 = M 100 3) := eM16_100_3.trans q100_3_M10
        have q100_49_M16 : id (M16 100 49 = M 100 49) := eM16_100_49.trans q100_49_M10
        have q100_50_M16 : id (M16 100 50 = M 100 50) := eM16_100_50.trans q100_50_M10
        have q100_51_M16 : id (M16 100 51 = M 100 51) := eM16_100_51.trans q100_51_M10
        have q100_52_M16 : id (M16 100 52 = M 100 52) := eM16_100_52.trans q100_52_M10
        have q103_0_M16 : id (M16 103 0 = M 103 0) := eM16_103_0.trans q103_0_M10
        have q103_1_M16 : id (M16 103 1 = M 103 1) := eM16_103_1.trans q103_1_M10
        have q97_12_M16 : (M16 97 12 = M 97 12) := eM16_97_12.trans q97_12_M10
        have q97_17_M16 : (M16 97 17 = M 97 17) := eM16_97_17.trans q97_17_M10
        have q97_33_M16 : (M16 97 33 = M 97 33) := eM16_97_33.trans q97_33_M10
        have q97_10_M16 : (M16 97 10 = M 97 10) := eM16_97_10.trans q97_10_M10
        have q97_44_M16 : (M16 97 44 = M 97 44) := eM16_97_44.trans q97_44_M10
        clear eM16_100_0 eM16_100_1 eM16_100_2 eM16_100_3 eM16_100_49 eM16_100_50 eM16_100_51 eM16_100_52 eM16_103_0 eM16_103_1
        have c99M16 : M16 99 = M 99 := (fM160 99 (by decide)).trans c99M10
        obtain ⟨anM16, asM16, a98M16⟩ := pM16
        rw [c98M10] at a98M16
        subst anM16
        have e101 : M16 101 = M10 101 := fM160 101 (by decide)
        refine g_ireturn dX10_lick_58 ?_
        exact ⟨iM16, fM16, q99_0_M16, q99_1_M16, q99_2_M16, q99_3_M16, q100_0_M16, q100_1_M16, q100_2_M16, q100_3_M16, q100_49_M16, q100_50_M16, q100_51_M16, q100_52_M16, q103_0_M16, q103_1_M16, q97_12_M16, q97_17_M16, q97_33_M16, q97_10_M16, q97_44_M16, by omega, by rw [e101]; exact ⟨fun q => absurd q (by omega), fun q1 q2 => absurd q2 (by omega), fun q1 q2 => ⟨_, spM10, Or.inr ⟨by omega, by rw [flz13]⟩⟩⟩, asM16, a98M16⟩
      · refine g_iload_n (pc' := 47) 0 dX10_lick_46 rfl rfl ?_
        refine g_goto (tgt := 55) dX10_lick_47 rfl ?_
        refine g_callVi (pc' := 58) (As := [vi z9]) (b := 97) (S := []) dX10_lick_55 rfl m_X10_87 w_X10_tell (c_X10_tell_x X M10 iM10 z9 ⟨by omega, by omega⟩ (by omega)) rfl ⟨_, _, _, rfl, rfl, rfl⟩ (by decide) (by decide) rfl (Nat.le_of_ble_eq_true rfl) (fun z18 M19 q17 => ?_)
        obtain ⟨iM19, fM190, eM19_99_0, eM19_99_1, eM19_99_2, eM19_99_3, eM19_100_0, eM19_100_1, eM19_100_2, eM19_100_3, eM19_100_49, eM19_100_50, eM19_100_51, eM19_100_52, eM19_103_0, eM19_103_1, eM19_97_12, eM19_97_17, eM19_97_33, eM19_97_10, eM19_97_44, pM19⟩ := q17
        have fM19 : Fr (fun c => c = 97 ∨ c = 98 ∨ c = 101 ∨ c = 104 ∨ c = 105) M M19 := Fr.tr fM10 fM190 fi_33
        have q99_0_M19 : (M19 99 0 = M 99 0) := eM19_99_0.trans q99_0_M10
        have q99_1_M19 : (M19 99 1 = M 99 1) := eM19_99_1.trans q99_1_M10
        have q99_2_M19 : (M19 99 2 = M 99 2) := eM19_99_2.trans q99_2_M10
        have q99_3_M19 : (M19 99 3 = M 99 3) := eM19_99_3.trans q99_3_M10
        have q100_0_M19 : id (M19 100 0 = M 100 0) := eM19_100_0.trans q100_0_M10
        have q100_1_M19 : id (M19 100 1 = M 100 1) := eM19_100_1.trans q100_1_M10
        have q100_2_M19 : id (M19 100 2 = M 100 2) := eM19_100_2.trans q100_2_M10
        have q100_3_M19 : id (M19 100 3 = M 100 3) := eM19_100_3.trans q100_3_M10
        have q100_49_M19 : id (M19 100 49 = M 100 49) := eM19_100_49.trans q100_49_M10
        have q100_50_M19 : id (M19 100 50 = M 100 50) := eM19_100_50.trans q100_50_M10
        have q100_51_M19 : id (M19 100 51 = M 100 51) := eM19_100_51.trans q100_51_M10
        have q100_52_M19 : id (M19 100 52 = M 100 52) := eM19_100_52.trans q100_52_M10
        have q103_0_M19 : id (M19 103 0 = M 103 0) := eM19_103_0.trans q103_0_M10
        have q103_1_M19 : id (M19 103 1 = M 103 1) := eM19_103_1.trans q103_1_M10
        have q97_12_M19 : (M19 97 12 = M 97 12) := eM19_97_12.trans q97_12_M10
        have q97_17_M19 : (M19 97 17 = M 97 17) := eM19_97_17.trans q97_17_M10
        have q97_33_M19 : (M19 97 33 = M 97 33) := eM19_97_33.trans q97_33_M10
        have q97_10_M19 : (M19 97 10 = M 97 10) := eM19_97_10.trans q97_10_M10
        have q97_44_M19 : (M19 97 44 = M 97 44) := eM19_97_44.trans q97_44_M10
        clear eM19_100_0 eM19_100_1 eM19_100_2 eM19_100_3 eM19_100_49 eM19_100_50 eM19_100_51 eM19_100_52 eM19_103_0 eM19_103_1
        have c99M19 : M19 99 = M 99 := (fM190 99 (by decide)).trans c99M10
        obtain ⟨anM19, asM19, a98M19⟩ := pM19
        rw [c98M10] at a98M19
        subst anM19
        have e101 : M19 101 = M10 101 := fM190 101 (by decide)
        refine g_ireturn dX10_lick_58 ?_
        exact ⟨iM19, fM19, q99_0_M19, q99_1_M19, q99_2_M19, q99_3_M19, q100_0_M19, q100_1_M19, q100_2_M19, q100_3_M19, q100_49_M19, q100_50_M19, q100_51_M19, q100_52_M19, q103_0_M19, q103_1_M19, q97_12_M19, q97_17_M19, q97_33_M19, q97_10_M19, q97_44_M19, by omega, by rw [e101]; exact ⟨fun q => absurd q (by omega), fun q1 q2 => absurd q2 (by omega), fun q1 q2 => ⟨_, spM10, Or.inl ⟨by omega, by omega⟩⟩⟩, asM19, a98M19⟩
    · replace q5 := q5.resolve_left (fun h => absurd (c7.symm.trans h.1) (by decide))
      refine g_aload_n (pc' := 27) 0 dX10_lick_26 rfl rfl ?_
      refine g_bipush (pc' := 29) (v := (-2)) dX10_lick_27 rfl (by decide) ?_
      refine g_callVi (pc' := 32) (As := [vi (-2)]) (b := 97) (S := []) dX10_lick_29 rfl m_X10_87 w_X10_tell (c_X10_tell_x X M1 iM1 (-2) (by decide) (by omega)) rfl ⟨_, _, _, rfl, rfl, rfl⟩ (by decide) (by decide) rfl (Nat.le_of_ble_eq_true rfl) (fun z21 M22 q20 => ?_)
      obtain ⟨iM22, fM220, eM22_99_0, eM22_99_1, eM22_99_2, eM22_99_3, eM22_100_0, eM22_100_1, eM22_100_2, eM22_100_3, eM22_100_49, eM22_100_50, eM22_100_51, eM22_100_52, eM22_103_0, eM22_103_1, eM22_97_12, eM22_97_17, eM22_97_33, eM22_97_10, eM22_97_44, pM22⟩ := q20
      have fM22 : Fr (fun c => c = 97 ∨ c = 98 ∨ c = 101 ∨ c = 104 ∨ c = 105) M M22 := Fr.tr fM1 fM220 fi_33
      have q99_0_M22 : (M22 99 0 = M 99 0) := eM22_99_0.trans q99_0_M1
      have q99_1_M22 : (M22 99 1 = M 99 1) := eM22_99_1.trans q99_1_M1
      have q99_2_M22 : (M22 99 2 = M 99 2) := eM22_99_2.trans q99_2_M1
      have q99_3_M22 : (M22 99 3 = M 99 3) := eM22_99_3.trans q99_3_M1
      have q100_0_M22 : id (M22 100 0 = M 100 0) := eM22_100_0.trans q100_0_M1
      have q100_1_M22 : id (M22 100 1 = M 100 1) := eM22_100_1.trans q100_1_M1
      have q100_2_M22 : id (M22 100 2 = M 100 2) := eM22_100_2.trans q100_2_M1
      have q100_3_M22 : id (M22 100 3 = M 100 3) := eM22_100_3.trans q100_3_M1
      have q100_49_M22 : id (M22 100 49 = M 100 49) := eM22_100_49.trans q100_49_M1
      have q100_50_M22 : id (M22 100 50 = M 100 50) := eM22_100_50.trans q100_50_M1
      have q100_51_M22 : id (M22 100 51 = M 100 51) := eM22_100_51.trans q100_51_M1
      have q100_52_M22 : id (M22 100 52 = M 100 52) := eM22_100_52.trans q100_52_M1
      have q103_0_M22 : id (M22 103 0 = M 103 0) := eM22_103_0.trans q103_0_M1
      have q103_1_M22 : id (M22 103 1 = M 103 1) := eM22_103_1.trans q103_1_M1
      have q97_12_M22 : (M22 97 12 = M 97 12) := eM22_97_12.trans q97_12_M1
      have q97_17_M22 : (M22 97 17 = M 97 17) := eM22_97_17.trans q97_17_M1
      have q97_33_M22 : (M22 97 33 = M 97 33) := eM22_97_33.trans q97_33_M1
      have q97_10_M22 : (M22 97 10 = M 97 10) := eM22_97_10.trans q97_10_M1
      have q97_44_M22 : (M22 97 44 = M 97 44) := eM22_97_44.trans q97_44_M1
      clear eM22_100_0 eM22_100_1 eM22_100_2 eM22_100_3 eM22_100_49 eM22_100_50 eM22_100_51 eM22_100_52 eM22_103_0 eM22_103_1
      have c99M22 : M22 99 = M 99 := (fM220 99 (by decide)).trans c99M1
      have c101M22 : M22 101 = M 101 := (fM220 101 (by decide)).trans c101M1
      obtain ⟨anM22, asM22, a98M22⟩ := pM22
      rw [c98M1] at a98M22
      subst anM22
      have e101 : M22 101 = M1 101 := fM220 101 (by decide)
      refine g_ireturn dX10_lick_32 ?_
      exact ⟨iM22, fM22, q99_0_M22, q99_1_M22, q99_2_M22, q99_3_M22, q100_0_M22, q100_1_M22, q100_2_M22, q100_3_M22, q100_49_M22, q100_50_M22, q100_51_M22, q100_52_M22, q103_0_M22, q103_1_M22, q97_12_M22, q97_17_M22, q97_33_M22, q97_10_M22, q97_44_M22, by omega, by rw [(e101.trans c101M1)]; exact ⟨fun q => by first | exact ⟨by omega, fun _ _ => rfl⟩ | exact absurd q (by omega), fun q1 q2 => by first | exact ⟨by omega, fun _ _ => rfl⟩ | exact absurd q2 (by omega) | exact absurd q1 (by omega), fun q1 q2 => by first | exact absurd q2 (by omega) | exact absurd q1 (by omega)⟩, asM22, a98M22⟩
  · replace q2 := q2.resolve_left (fun h => absurd (c4.symm.trans h.1) (by decide))
    refine g_aload_n (pc' := 13) 0 dX10_lick_12 rfl rfl ?_
    refine g_iconst (pc' := 14) dX10_lick_13 rfl ?_
    refine g_callVi (pc' := 17) (As := [vi (-1)]) (b := 97) (S := []) dX10_lick_14 rfl m_X10_87 w_X10_tell (c_X10_tell_x X M1 iM1 (-1) (by decide) (by omega)) rfl ⟨_, _, _, rfl, rfl, rfl⟩ (by decide) (by decide) rfl (Nat.le_of_ble_eq_true rfl) (fun z24 M25 q23 => ?_)
    obtain ⟨iM25, fM250, eM25_99_0, eM25_99_1, eM25_99_2, eM25_99_3, eM25_100_0, eM25_100_1, eM25_100_2, eM25_100_3, eM25_100_49, eM25_100_50, eM25_100_51, eM25_100_52, eM25_103_0, eM25_103_1, eM25_97_12, eM25_97_17, eM25_97_33, eM25_97_10, eM25_97_44, pM25⟩ := q23
    have fM25 : Fr (fun c => c = 97 ∨ c = 98 ∨ c = 101 ∨ c = 104 ∨ c = 105) M M25 := Fr.tr fM1 fM250 fi_33
    have q99_0_M25 : (M25 99 0 = M 99 0) := eM25_99_0.trans q99_0_M1
    have q99_1_M25 : (M25 99 1 = M 99 1) := eM25_99_1.trans q99_1_M1
    have q99_2_M25 : (M25 99 2 = M 99 2) := eM25_99_2.trans q99_2_M1
    have q99_3_M25 : (M25 99 3 = M 99 3) := eM25_99_3.trans q99_3_M1
    have q100_0_M25 : id (M25 100 0 = M 100 0) := eM25_100_0.trans q100_0_M1
    have q100_1_M25 : id (M25 100 1 = M 100 1) := eM25_100_1.trans q100_1_M1
    have q100_2_M25 : id (M25 100 2 = M 100 2) := eM25_100_2.trans q100_2_M1
    have q100_3_M25 : id (M25 100 3 = M 100 3) := eM25_100_3.trans q100_3_M1
    have q100_49_M25 : id (M25 100 49 = M 100 49) := eM25_100_49.trans q100_49_M1
    have q100_50_M25 : id (M25 100 50 = M 100 50) := eM25_100_50.trans q100_50_M1
    have q100_51_M25 : id (M25 100 51 = M 100 51) := eM25_100_51.trans q100_51_M1
    have q100_52_M25 : id (M25 100 52 = M 100 52) := eM25_100_52.trans q100_52_M1
    have q103_0_M25 : id (M25 103 0 = M 103 0) := eM25_103_0.trans q103_0_M1
    have q103_1_M25 : id (M25 103 1 = M 103 1) := eM25_103_1.trans q103_1_M1
    have q97_12_M25 : (M25 97 12 = M 97 12) := eM25_97_12.trans q97_12_M1
    have q97_17_M25 : (M25 97 17 = M 97 17) := eM25_97_17.trans q97_17_M1
    have q97_33_M25 : (M25 97 33 = M 97 33) := eM25_97_33.trans q97_33_M1
    have q97_10_M25 : (M25 97 10 = M 97 10) := eM25_97_10.trans q97_10_M1
    have q97_44_M25 : (M25 97 44 = M 97 44) := eM25_97_44.trans q97_44_M1
    clear eM25_100_0 eM25_100_1 eM25_100_2 eM25_100_3 eM25_100_49 eM25_100_50 eM25_100_51 eM25_100_52 eM25_103_0 eM25_103_1
    have c99M25 : M25 99 = M 99 := (fM250 99 (by decide)).trans c99M1
    have c101M25 : M25 101 = M 101 := (fM250 101 (by decide)).trans c101M1
    obtain ⟨anM25, asM25, a98M25⟩ := pM25
    rw [c98M1] at a98M25
    subst anM25
    have e101 : M25 101 = M1 101 := fM250 101 (by decide)
    refine g_ireturn dX10_lick_17 ?_
    exact ⟨iM25, fM25, q99_0_M25, q99_1_M25, q99_2_M25, q99_3_M25, q100_0_M25, q100_1_M25, q100_2_M25, q100_3_M25, q100_49_M25, q100_50_M25, q100_51_M25, q100_52_M25, q103_0_M25, q103_1_M25, q97_12_M25, q97_17_M25, q97_33_M25, q97_10_M25, q97_44_M25, by omega, by rw [(e101.trans c101M1)]; exact ⟨fun q => by first | exact ⟨by omega, fun _ _ => rfl⟩ | exact absurd q (by omega), fun q1 q2 => by first | exact ⟨by omega, fun _ _ => rfl⟩ | exact absurd q2 (by omega) | exact absurd q1 (by omega), fun q1 q2 => by first | exact absurd q2 (by omega) | exact absurd q1 (by omega)⟩, asM25, a98M25⟩
set_option maxHeartbeats 4000000 in
set_option maxRecDepth 100000 in
theorem c_X10_fill_x (X : Cx) (M : Mm) (hi : IM M) (a : Int) (ha : inI a) (b : Int) (hb : inI b) (c : Int) (hc : inI c) : Con X 12 yX10_fill cX10_fill 4 (some .int) [vr X 97, vi a, vi b, vi c] M (Qi (fun r M1 => IM M1 ∧ Fr (fun c => c = 97 ∨ c = 98 ∨ c = 101) M M1 ∧ M1 99 0 = M 99 0 ∧ M1 99 1 = M 99 1 ∧ M1 99 2 = M 99 2 ∧ M1 99 3 = M 99 3 ∧ M1 100 0 = M 100 0 ∧ M1 100 1 = M 100 1 ∧ M1 100 2 = M 100 2 ∧ M1 100 3 = M 100 3 ∧ M1 100 49 = M 100 49 ∧ M1 100 50 = M 100 50 ∧ M1 100 51 = M 100 51 ∧ M1 100 52 = M 100 52 ∧ M1 103 0 = M 103 0 ∧ M1 103 1 = M 103 1 ∧ M1 97 12 = M 97 12 ∧ M1 97 17 = M 97 17 ∧ M1 97 33 = M 97 33 ∧ M1 97 10 = M 97 10 ∧ M1 97 44 = M 97 44 ∧ ((-6 ≤ r ∧ r ≤ 60) ∧ RFI (M 101) (fun j => M 99 (4 + j)) (M 99 0) a b c r (M1 101) ∧ M1 97 1 = ngv r ∧ M1 98 = telF (M 98) r))) := by
  refine Con.ofG rfl (Nat.le_of_ble_eq_true rfl) ?_
  show G X 12 RX10 cX10_fill 4 (some .int) (Qi (fun r M1 => IM M1 ∧ Fr (fun c => c = 97 ∨ c = 98 ∨ c = 101) M M1 ∧ M1 99 0 = M 99 0 ∧ M1 99 1 = M 99 1 ∧ M1 99 2 = M 99 2 ∧ M1 99 3 = M 99 3 ∧ M1 100 0 = M 100 0 ∧ M1 100 1 = M 100 1 ∧ M1 100 2 = M 100 2 ∧ M1 100 3 = M 100 3 ∧ M1 100 49 = M 100 49 ∧ M1 100 50 = M 100 50 ∧ M1 100 51 = M 100 51 ∧ M1 100 52 = M 100 52 ∧ M1 103 0 = M 103 0 ∧ M1 103 1 = M 103 1 ∧ M1 97 12 = M 97 12 ∧ M1 97 17 = M 97 17 ∧ M1 97 33 = M 97 33 ∧ M1 97 10 = M 97 10 ∧ M1 97 44 = M 97 44 ∧ ((-6 ≤ r ∧ r ≤ 60) ∧ RFI (M 101) (fun j => M 99 (4 + j)) (M 99 0) a b c r (M1 101) ∧ M1 97 1 = ngv r ∧ M1 98 = telF (M 98) r))) 0 [(0, vr X 97), (1, vi a), (2, vi b), (3, vi c)] [] M
  have p0 := hi.1.1
  have p1 := hi.1.2.1
  have p2 := hi.1.2.2.1
  have p3 := hi.1.2.2.2.1
  have p12 := hi.2.2.2.1
  refine g_aload_n (pc' := 1) 0 dX10_fill_0 rfl rfl ?_
  refine g_iconst (pc' := 2) dX10_fill_1 rfl ?_
  refine g_putI (pc' := 5) dX10_fill_2 rfl p_X10_77 rfl rfl (by decide) (fun M1 hM1 => ?_)
  have iM1 : IM M1 := IM.wr hi hM1 (by unfold okv; first | decide | omega)
  have fM1 : Fr (fun c => c = 97 ∨ c = 98 ∨ c = 101) M M1 := Fr.wr Fr.rf hM1 (by first | decide | omega | (dsimp only; omega))
  have q99_0_M1 : (M1 99 0 = M 99 0) := (show M1 99 0 = M 99 0 by rw [hM1]; exact mu_ne _ _ (by first | decide | omega))
  have q99_1_M1 : (M1 99 1 = M 99 1) := (show M1 99 1 = M 99 1 by rw [hM1]; exact mu_ne _ _ (by first | decide | omega))
  have q99_2_M1 : (M1 99 2 = M 99 2) := (show M1 99 2 = M 99 2 by rw [hM1]; exact mu_ne _ _ (by first | decide | omega))
  have q99_3_M1 : (M1 99 3 = M 99 3) := (show M1 99 3 = M 99 3 by rw [hM1]; exact mu_ne _ _ (by first | decide | omega))
  have q100_0_M1 : id (M1 100 0 = M 100 0) := (show M1 100 0 = M 100 0 by rw [hM1]; exact mu_ne _ _ (by first | decide | omega))
  have q100_1_M1 : id (M1 100 1 = M 100 1) := (show M1 100 1 = M 100 1 by rw [hM1]; exact mu_ne _ _ (by first | decide | omega))
  have q100_2_M1 : id (M1 100 2 = M 100 2) := (show M1 100 2 = M 100 2 by rw [hM1]; exact mu_ne _ _ (by first | decide | omega))
  have q100_3_M1 : id (M1 100 3 = M 100 3) := (show M1 100 3 = M 100 3 by rw [hM1]; exact mu_ne _ _ (by first | decide | omega))
  have q100_49_M1 : id (M1 100 49 = M 100 49) := (show M1 100 49 = M 100 49 by rw [hM1]; exact mu_ne _ _ (by first | decide | omega))
  have q100_50_M1 : id (M1 100 50 = M 100 50) := (show M1 100 50 = M 100 50 by rw [hM1]; exact mu_ne _ _ (by first | decide | omega))
  have q100_51_M1 : id (M1 100 51 = M 100 51) := (show M1 100 51 = M 100 51 by rw [hM1]; exact mu_ne _ _ (by first | decide | omega))
  have q100_52_M1 : id (M1 100 52 = M 100 52) := (show M1 100 52 = M 100 52 by rw [hM1]; exact mu_ne _ _ (by first | decide | omega))
  have q103_0_M1 : id (M1 103 0 = M 103 0) := (show M1 103 0 = M 103 0 by rw [hM1]; exact mu_ne _ _ (by first | decide | omega))
  have q103_1_M1 : id (M1 103 1 = M 103 1) := (show M1 103 1 = M 103 1 by rw [hM1]; exact mu_ne _ _ (by first | decide | omega))
  have q97_12_M1 : (M1 97 12 = M 97 12) := (show M1 97 12 = M 97 12 by rw [hM1]; exact mu_ne _ _ (by first | decide | omega))
  have q97_17_M1 : (M1 97 17 = M 97 17) := (show M1 97 17 = M 97 17 by rw [hM1]; exact mu_ne _ _ (by first | decide | omega))
  have q97_33_M1 : (M1 97 33 = M 97 33) := (show M1 97 33 = M 97 33 by rw [hM1]; exact mu_ne _ _ (by first | decide | omega))
  have q97_10_M1 : (M1 97 10 = M 97 10) := (show M1 97 10 = M 97 10 by rw [hM1]; exact mu_ne _ _ (by first | decide | omega))
  have q97_44_M1 : (M1 97 44 = M 97 44) := (show M1 97 44 = M 97 44 by rw [hM1]; exact mu_ne _ _ (by first | decide | omega))
  have q97_1_M1 : (M1 97 1 = M 97 1) := (show M1 97 1 = M 97 1 by rw [hM1]; exact mu_ne _ _ (by first | decide | omega))
  have wM1_97_1 : M1 97 1 = M 97 1 := by rw [hM1]; exact mu_ne _ _ (by first | decide | omega)
  have xM1_97_0 : M1 97 0 = 0 := by rw [hM1]; exact mu_at _ _ _ _
  have c98M1 : M1 98 = M 98 := (by rw [hM1]; exact mu_cell _ _ (by decide))
  have c99M1 : M1 99 = M 99 := (by rw [hM1]; exact mu_cell _ _ (by decide))
  have c101M1 : M1 101 = M 101 := (by rw [hM1]; exact mu_cell _ _ (by decide))
  refine g_iload_n (pc' := 6) 2 dX10_fill_5 rfl rfl ?_
  refine g_callSip (pc' := 9) (As := [vi b]) (S := []) dX10_fill_6 rfl m_X10_105 w_X10_isStuff (c_X10_isStuff X M1 b hb) rfl (by decide) (by decide) rfl (Nat.le_of_ble_eq_true rfl) (fun z3 q2 => ?_)
  refine g_if_eq (pc' := 12) (tgt := 19) ⟨by omega, by omega⟩ dX10_fill_9 rfl rfl (fun c4 => ?_) (fun c4 => ?_)
  · replace q2 := q2.resolve_left (fun h => absurd (c4.symm.trans h.1) (by decide))
    refine g_aload_n (pc' := 20) 0 dX10_fill_19 rfl rfl ?_
    refine g_iconst (pc' := 21) dX10_fill_20 rfl ?_
    refine g_callVi (pc' := 24) (As := [vi (-1)]) (b := 97) (S := []) dX10_fill_21 rfl m_X10_87 w_X10_tell (c_X10_tell_x X M1 iM1 (-1) (by decide) (by omega)) rfl ⟨_, _, _, rfl, rfl, rfl⟩ (by decide) (by decide) rfl (Nat.le_of_ble_eq_true rfl) (fun z6 M7 q5 => ?_)
    obtain ⟨iM7, fM70, eM7_99_0, eM7_99_1, eM7_99_2, eM7_99_3, eM7_100_0, eM7_100_1, eM7_100_2, eM7_100_3, eM7_100_49, eM7_100_50, eM7_100_51, eM7_100_52, eM7_103_0, eM7_103_1, eM7_97_12, eM7_97_17, eM7_97_33, eM7_97_10, eM7_97_44, pM7⟩ := q5
    have fM7 : Fr (fun c => c = 97 ∨ c = 98 ∨ c = 101) M M7 := Fr.tr fM1 fM70 fi_31
    have q99_0_M7 : (M7 99 0 = M 99 0) := eM7_99_0.trans q99_0_M1
    have q99_1_M7 : (M7 99 1 = M 99 1) := eM7_99_1.trans q99_1_M1
    have q99_2_M7 : (M7 99 2 = M 99 2) := eM7_99_2.trans q99_2_M1
    have q99_3_M7 : (M7 99 3 = M 99 3) := eM7_99_3.trans q99_3_M1
    have q100_0_M7 : id (M7 100 0 = M 100 0) := eM7_100_0.trans q100_0_M1
    have q100_1_M7 : id (M7 100 1 = M 100 1) := eM7_100_1.trans q100_1_M1
    have q100_2_M7 : id (M7 100 2 = M 100 2) := eM7_100_2.trans q100_2_M1
    have q100_3_M7 : id (M7 100 3 = M 100 3) := eM7_100_3.trans q100_3_M1
    have q100_49_M7 : id (M7 100 49 = M 100 49) := eM7_100_49.trans q100_49_M1
    have q100_50_M7 : id (M7 100 50 = M 100 50) := eM7_100_50.trans q100_50_M1
    have q100_51_M7 : id (M7 100 51 = M 100 51) := eM7_100_51.trans q100_51_M1
    have q100_52_M7 : id (M7 100 52 = M 100 52) := eM7_100_52.trans q100_52_M1
    have q103_0_M7 : id (M7 103 0 = M 103 0) := eM7_103_0.trans q103_0_M1
    have q103_1_M7 : id (M7 103 1 = M 103 1) := eM7_103_1.trans q103_1_M1
    have q97_12_M7 : (M7 97 12 = M 97 12) := eM7_97_12.trans q97_12_M1
    have q97_17_M7 : (M7 97 17 = M 97 17) := eM7_97_17.trans q97_17_M1
    have q97_33_M7 : (M7 97 33 = M 97 33) := eM7_97_33.trans q97_33_M1
    have q97_10_M7 : (M7 97 10 = M 97 10) := eM7_97_10.trans q97_10_M1
    have q97_44_M7 : (M7 97 44 = M 97 44) := eM7_97_44.trans q97_44_M1
    clear eM7_100_0 eM7_100_1 eM7_100_2 eM7_100_3 eM7_100_49 eM7_100_50 eM7_100_51 eM7_100_52 eM7_103_0 eM7_103_1
    have c99M7 : M7 99 = M 99 := (fM70 99 (by decide)).trans c99M1
    have c101M7 : M7 101 = M 101 := (fM70 101 (by decide)).trans c101M1
    obtain ⟨anM7, asM7, a98M7⟩ := pM7
    rw [c98M1] at a98M7
    subst anM7
    have e101 : M7 101 = M1 101 := fM70 101 (by decide)
    refine g_ireturn dX10_fill_24 ?_
    exact ⟨iM7, fM7, q99_0_M7, q99_1_M7, q99_2_M7, q99_3_M7, q100_0_M7, q100_1_M7, q100_2_M7, q100_3_M7, q100_49_M7, q100_50_M7, q100_51_M7, q100_52_M7, q103_0_M7, q103_1_M7, q97_12_M7, q97_17_M7, q97_33_M7, q97_10_M7, q97_44_M7, by omega, by rw [(e101.trans c101M1)]; exact ⟨fun q => by first | exact ⟨by omega, fun _ _ => rfl⟩ | exact absurd q (by omega), fun q1 q2 => by first | exact ⟨by omega, fun _ _ => rfl⟩ | exact absurd q2 (by omega) | exact absurd q1 (by omega), fun q1 q2 => by first | exact absurd q2 (by omega) | exact absurd q1 (by omega)⟩, asM7, a98M7⟩
  · replace q2 := q2.resolve_right (fun h => c4 h.1)
    refine g_iload_n (pc' := 13) 3 dX10_fill_12 rfl rfl ?_
    refine g_callSip (pc' := 16) (As := [vi c]) (S := []) dX10_fill_13 rfl m_X10_95 w_X10_isAmount (c_X10_isAmount X M1 c hc) rfl (by decide) (by decide) rfl (Nat.le_of_ble_eq_true rfl) (fun z9 q8 => ?_)
    refine g_if_ne (pc' := 19) (tgt := 25) ⟨by omega, by omega⟩ dX10_fill_16 rfl rfl (fun c10 => ?_) (fun c10 => ?_)
    · replace q8 := q8.resolve_right (fun h => c10 h.1)
      refine g_aload_n (pc' := 26) 0 dX10_fill_25 rfl rfl ?_
      refine g_iload_n (pc' := 27) 1 dX10_fill_26 rfl rfl ?_
      refine g_callVip (pc' := 30) (As := [vi a]) (b := 97) (S := []) dX10_fill_27 rfl m_X10_102 w_X10_isGlass (c_X10_isGlass X M1 iM1 a ha) rfl ⟨_, _, _, rfl, rfl, rfl⟩ (by decide) (by decide) rfl (Nat.le_of_ble_eq_true rfl) (fun z12 q11 => ?_)
      refine g_if_ne (pc' := 33) (tgt := 40) ⟨by omega, by omega⟩ dX10_fill_30 rfl rfl (fun c13 => ?_) (fun c13 => ?_)
      · replace q11 := q11.resolve_right (fun h => c13 h.1)
        refine g_aload_n (pc' := 41) 0 dX10_fill_40 rfl rfl ?_
        refine g_aload_n (pc' := 42) 0 dX10_fill_41 rfl rfl ?_
        refine g_iload_n (pc' := 43) 1 dX10_fill_42 rfl rfl ?_
        refine g_iload_n (pc' := 44) 2 dX10_fill_43 rfl rfl ?_
        refine g_iload_n (pc' := 45) 3 dX10_fill_44 rfl rfl ?_
        refine g_callVi (pc' := 48) (As := [vi a, vi b, vi c]) (b := 97) (S := [vr X 97]) dX10_fill_45 rfl m_X10_135 w_X10_filled (c_X10_filled_x X M1 iM1 a ha b hb c hc (by omega) (by omega) (by omega)) rfl ⟨_, _, _, rfl, rfl, rfl⟩ (by decide) (by decide) rfl (Nat.le_of_ble_eq_true rfl) (fun z15 M16 q14 => ?_)
        obtain ⟨iM16, fM160, pM16⟩ := q14
        have fM16 : Fr (fun c => c = 97 ∨ c = 98 ∨ c = 101) M M16 := Fr.tr fM1 fM160 fi_32
        have q99_0_M16 : (M16 99 0 = M 99 0) := (congrFun (fM160 99 (by first | decide | omega | (dsimp only; omega))) 0).trans q99_0_M1
        have q99_1_M16 : (M16 99 1 = M 99 1) := (congrFun (fM160 99 (by first | decide | omega | (dsimp only; omega))) 1).trans q99_1_M1
        have q99_2_M16 : (M16 99 2 = M 99 2) := (congrFun (fM160 99 (by first | decide | omega | (dsimp only; omega))) 2).trans q99_2_M1
        have q99_3_M16 : (M16 99 3 = M 99 3) := (congrFun (fM160 99 (by first | decide | omega | (dsimp only; omega))) 3).trans q99_3_M1
        have q100_0_M16 : id (M16 100 0 = M 100 0) := (congrFun (fM160 100 (by first | decide | omega | (dsimp only; omega))) 0).trans q100_0_M1
        have q100_1_M16 : id (M16 100 1 = M 100 1) := (congrFun (fM160 100 (by first | decide | omega | (dsimp only; omega))) 1).trans q100_1_M1
        have q100_2_M16 : id (M16 100 2 = M 100 2) := (congrFun (fM160 100 (by first | decide | omega | (dsimp only; omega))) 2).trans q100_2_M1
        have q100_3_M16 : id (M16 100 3 = M 100 3) := (congrFun (fM160 100 (by first | decide | omega | (dsimp only; omega))) 3).trans q100_3_M1
        have q100_49_M16 : id (M16 100 49 = M 100 49) := (congrFun (fM160 100 (by first | decide | omega | (dsimp only; omega))) 49).trans q100_49_M1
        have q100_50_M16 : id (M16 100 50 = M 100 50) := (congrFun (fM160 100 (by first | decide | omega | (dsimp only; omega))) 50).trans q100_50_M1
        have q100_51_M16 : id (M16 100 51 = M 100 51) := (congrFun (fM160 100 (by first | decide | omega | (dsimp only; omega))) 51).trans q100_51_M1
        have q100_52_M16 : id (M16 100 52 = M 100 52) := (congrFun (fM160 100 (by first | decide | omega | (dsimp only; omega))) 52).trans q100_52_M1
        have q103_0_M16 : id (M16 103 0 = M 103 0) := (congrFun (fM160 103 (by first | decide | omega | (dsimp only; omega))) 0).trans q103_0_M1
        have q103_1_M16 : id (M16 103 1 = M 103 1) := (congrFun (fM160 103 (by first | decide | omega | (dsimp only; omega))) 1).trans q103_1_M1
        have q97_12_M16 : (M16 97 12 = M 97 12) := (congrFun (fM160 97 (by first | decide | omega | (dsimp only; omega))) 12).trans q97_12_M1
        have q97_17_M16 : (M16 97 17 = M 97 17) := (congrFun (fM160 97 (by first | decide | omega | (dsimp only; omega))) 17).trans q97_17_M1
        have q97_33_M16 : (M16 97 33 = M 97 33) := (congrFun (fM160 97 (by first | decide | omega | (dsimp only; omega))) 33).trans q97_33_M1
        have q97_10_M16 : (M16 97 10 = M 97 10) := (congrFun (fM160 97 (by first | decide | omega | (dsimp only; omega))) 10).trans q97_10_M1
        have q97_44_M16 : (M16 97 44 = M 97 44) := (congrFun (fM160 97 (by first | decide | omega | (dsimp only; omega))) 44).trans q97_44_M1
        have q97_1_M16 : (M16 97 1 = M 97 1) := (congrFun (fM160 97 (by first | decide | omega | (dsimp only; omega))) 1).trans q97_1_M1
        have wM16_97_1 : M16 97 1 = M1 97 1 := (congrFun (fM160 97 (by first | decide | omega | (dsimp only; omega))) 1)
        have xM16_97_0 : M16 97 0 = 0 := (congrFun (fM160 97 (by first | decide | omega | (dsimp only; omega))) 0).trans xM1_97_0
        have c98M16 : M16 98 = M 98 := (fM160 98 (by decide)).trans c98M1
        have c99M16 : M16 99 = M 99 := (fM160 99 (by decide)).trans c99M1
        have spM16 := pM16
        rw [c101M1, c99M1] at spM16
        have rrM16 := spM16.r
        refine g_if_ge (pc' := 51) (tgt := 56) ⟨by omega, by omega⟩ dX10_fill_48 rfl rfl (fun c17 => ?_) (fun c17 => ?_)
        · refine g_aload_n (pc' := 57) 0 dX10_fill_56 rfl rfl ?_
          refine g_iload_n (pc' := 58) 1 dX10_fill_57 rfl rfl ?_
          refine g_callVip (pc' := 61) (As := [vi a]) (b := 97) (S := [vr X 97]) dX10_fill_58 rfl m_X10_99 w_X10_full (c_X10_full X M16 iM16 a ha ⟨by omega, by omega⟩) rfl ⟨_, _, _, rfl, rfl, rfl⟩ (by decide) (by decide) rfl (Nat.le_of_ble_eq_true rfl) (fun z19 q18 => ?_)
          have flz19 : flm (M16 101) (a).toNat = z19 := flm_at iM16.2.1.1.1 (by unfold sm4; exact q18.2.symm)
          have fbz19 := q18.1
          refine g_callVi (pc' := 64) (As := [vi z19]) (b := 97) (S := []) dX10_fill_61 rfl m_X10_87 w_X10_tell (c_X10_tell_x X M16 iM16 z19 ⟨by omega, by omega⟩ (by omega)) rfl ⟨_, _, _, rfl, rfl, rfl⟩ (by decide) (by decide) rfl (Nat.le_of_ble_eq_true rfl) (fun z21 M22 q20 => ?_)
          obtain ⟨iM22, fM220, eM22_99_0, eM22_99_1, eM22_99_2, eM22_99_3, eM22_100_0, eM22_100_1, eM22_100_2, eM22_100_3, eM22_100_49, eM22_100_50, eM22_100_51, eM22_100_52, eM22_103_0, eM22_103_1, eM22_97_12, eM22_97_17, eM22_97_33, eM22_97_10, eM22_97_44, pM22⟩ := q20
          have fM22 : Fr (fun c => c = 97 ∨ c = 98 ∨ c = 101) M M22 := Fr.tr fM16 fM220 fi_31
          have q99_0_M22 : (M22 99 0 = M 99 0) := eM22_99_0.trans q99_0_M16
          have q99_1_M22 : (M22 99 1 = M 99 1) := eM22_99_1.trans q99_1_M16
          have q99_2_M22 : (M22 99 2 = M 99 2) := eM22_99_2.trans q99_2_M16
          have q99_3_M22 : (M22 99 3 = M 99 3) := eM22_99_3.trans q99_3_M16
          have q100_0_M22 : id (M22 100 0 = M 100 0) := eM22_100_0.trans q100_0_M16
          have q100_1_M22 : id (M22 100 1 = M 100 1) := eM22_100_1.trans q100_1_M16
          have q100_2_M22 : id (M22 100 2 = M 100 2) := eM22_100_2.trans q100_2_M16
          have q100_3_M22 : id (M22 100 3 = M 100 3) := eM22_100_3.trans q100_3_M16
          have q100_49_M22 : id (M22 100 49 = M 100 49) := eM22_100_49.trans q100_49_M16
          have q100_50_M22 : id (M22 100 50 = M 100 50) := eM22_100_50.trans q100_50_M16
          have q100_51_M22 : id (M22 100 51 = M 100 51) := eM22_100_51.trans q100_51_M16
          have q100_52_M22 : id (M22 100 52 = M 100 52) := eM22_100_52.trans q100_52_M16
          have q103_0_M22 : id (M22 103 0 = M 103 0) := eM22_103_0.trans q103_0_M16
          have q103_1_M22 : id (M22 103 1 = M 103 1) := eM22_103_1.trans q103_1_M16
          have q97_12_M22 : (M22 97 12 = M 97 12) := eM22_97_12.trans q97_12_M16
          have q97_17_M22 : (M22 97 17 = M 97 17) := eM22_97_17.trans q97_17_M16
          have q97_33_M22 : (M22 97 33 = M 97 33) := eM22_97_33.trans q97_33_M16
          have q97_10_M22 : (M22 97 10 = M 97 10) := eM22_97_10.trans q97_10_M16
          have q97_44_M22 : (M22 97 44 = M 97 44) := eM22_97_44.trans q97_44_M16
          clear eM22_100_0 eM22_100_1 eM22_100_2 eM22_100_3 eM22_100_49 eM22_100_50 eM22_100_51 eM22_100_52 eM22_103_0 eM22_103_1
          have c99M22 : M22 99 = M 99 := (fM220 99 (by decide)).trans c99M16
          obtain ⟨anM22, asM22, a98M22⟩ := pM22
          rw [c98M16] at a98M22
          subst anM22
          have e101 : M22 101 = M16 101 := fM220 101 (by decide)
          refine g_ireturn dX10_fill_64 ?_
          exact ⟨iM22, fM22, q99_0_M22, q99_1_M22, q99_2_M22, q99_3_M22, q100_0_M22, q100_1_M22, q100_2_M22, q100_3_M22, q100_49_M22, q100_50_M22, q100_51_M22, q100_52_M22, q103_0_M22, q103_1_M22, q97_12_M22, q97_17_M22, q97_33_M22, q97_10_M22, q97_44_M22, by omega, by rw [e101]; exact ⟨fun q => absurd q (by omega), fun q1 q2 => absurd q2 (by omega), fun q1 q2 => ⟨_, spM16, Or.inr ⟨by omega, by rw [flz19]⟩⟩⟩, asM22, a98M22⟩
        · refine g_bipush (pc' := 53) (v := (-3)) dX10_fill_51 rfl (by decide) ?_
          refine g_goto (tgt := 61) dX10_fill_53 rfl ?_
          refine g_callVi (pc' := 64) (As := [vi (-3)]) (b := 97) (S := []) dX10_fill_61 rfl m_X10_87 w_X10_tell (c_X10_tell_x X M16 iM16 (-3) (by decide) (by omega)) rfl ⟨_, _, _, rfl, rfl, rfl⟩ (by decide) (by decide) rfl (Nat.le_of_ble_eq_true rfl) (fun z24 M25 q23 => ?_)
          obtain ⟨iM25, fM250, eM25_99_0, eM25_99_1, eM25_99_2, eM25_99_3, eM25_100_0, eM25_100_1, eM25_100_2, eM25_100_3, eM25_100_49, eM25_100_50, eM25_100_51, eM25_100_52, eM25_103_0, eM25_103_1, eM25_97_12, eM25_97_17, eM25_97_33, eM25_97_10, eM25_97_44, pM25⟩ := q23
          have fM25 : Fr (fun c => c = 97 ∨ c = 98 ∨ c = 101) M M25 := Fr.tr fM16 fM250 fi_31
          have q99_0_M25 : (M25 99 0 = M 99 0) := eM25_99_0.trans q99_0_M16
          have q99_1_M25 : (M25 99 1 = M 99 1) := eM25_99_1.trans q99_1_M16
          have q99_2_M25 : (M25 99 2 = M 99 2) := eM25_99_2.trans q99_2_M16
          have q99_3_M25 : (M25 99 3 = M 99 3) := eM25_99_3.trans q99_3_M16
          have q100_0_M25 : id (M25 100 0 = M 100 0) := eM25_100_0.trans q100_0_M16
          have q100_1_M25 : id (M25 100 1 = M 100 1) := eM25_100_1.trans q100_1_M16
          have q100_2_M25 : id (M25 100 2 = M 100 2) := eM25_100_2.trans q100_2_M16
          have q100_3_M25 : id (M25 100 3 = M 100 3) := eM25_100_3.trans q100_3_M16
          have q100_49_M25 : id (M25 100 49 = M 100 49) := eM25_100_49.trans q100_49_M16
          have q100_50_M25 : id (M25 100 50 = M 100 50) := eM25_100_50.trans q100_50_M16
          have q100_51_M25 : id (M25 100 51 = M 100 51) := eM25_100_51.trans q100_51_M16
          have q100_52_M25 : id (M25 100 52 = M 100 52) := eM25_100_52.trans q100_52_M16
          have q103_0_M25 : id (M25 103 0 = M 103 0) := eM25_103_0.trans q103_0_M16
          have q103_1_M25 : id (M25 103 1 = M 103 1) := eM25_103_1.trans q103_1_M16
          have q97_12_M25 : (M25 97 12 = M 97 12) := eM25_97_12.trans q97_12_M16
          have q97_17_M25 : (M25 97 17 = M 97 17) := eM25_97_17.trans q97_17_M16
          have q97_33_M25 : (M25 97 33 = M 97 33) := eM25_97_33.trans q97_33_M16
          have q97_10_M25 : (M25 97 10 = M 97 10) := eM25_97_10.trans q97_10_M16
          have q97_44_M25 : (M25 97 44 = M 97 44) := eM25_97_44.trans q97_44_M16
          clear eM25_100_0 eM25_100_1 eM25_100_2 eM25_100_3 eM25_100_49 eM25_100_50 eM25_100_51 eM25_100_52 eM25_103_0 eM25_103_1
          have c99M25 : M25 99 = M 99 := (fM250 99 (by decide)).trans c99M16
          obtain ⟨anM25, asM25, a98M25⟩ := pM25
          rw [c98M16] at a98M25
          subst anM25
          have e101 : M25 101 = M16 101 := fM250 101 (by decide)
          refine g_ireturn dX10_fill_64 ?_
          exact ⟨iM25, fM25, q99_0_M25, q99_1_M25, q99_2_M25, q99_3_M25, q100_0_M25, q100_1_M25, q100_2_M25, q100_3_M25, q100_49_M25, q100_50_M25, q100_51_M25, q100_52_M25, q103_0_M25, q103_1_M25, q97_12_M25, q97_17_M25, q97_33_M25, q97_10_M25, q97_44_M25, by omega, by rw [e101]; exact ⟨fun q => absurd q (by omega), fun q1 q2 => absurd q2 (by omega), fun q1 q2 => ⟨_, spM16, Or.inl ⟨by omega, by omega⟩⟩⟩, asM25, a98M25⟩
      · replace q11 := q11.resolve_left (fun h => absurd (c13.symm.trans h.1) (by decide))
        refine g_aload_n (pc' := 34) 0 dX10_fill_33 rfl rfl ?_
        refine g_bipush (pc' := 36) (v := (-2)) dX10_fill_34 rfl (by decide) ?_
        refine g_callVi (pc' := 39) (As := [vi (-2)]) (b := 97) (S := []) dX10_fill_36 rfl m_X10_87 w_X10_tell (c_X10_tell_x X M1 iM1 (-2) (by decide) (by omega)) rfl ⟨_, _, _, rfl, rfl, rfl⟩ (by decide) (by decide) rfl (Nat.le_of_ble_eq_true rfl) (fun z27 M28 q26 => ?_)
        obtain ⟨iM28, fM280, eM28_99_0, eM28_99_1, eM28_99_2, eM28_99_3, eM28_100_0, eM28_100_1, eM28_100_2, eM28_100_3, eM28_100_49, eM28_100_50, eM28_100_51, eM28_100_52, eM28_103_0, eM28_103_1, eM28_97_12, eM28_97_17, eM28_97_33, eM28_97_10, eM28_97_44, pM28⟩ := q26
        have fM28 : Fr (fun c => c = 97 ∨ c = 98 ∨ c = 101) M M28 := Fr.tr fM1 fM280 fi_31
        have q99_0_M28 : (M28 99 0 = M 99 0) := eM28_99_0.trans q99_0_M1
        have q99_1_M28 : (M28 99 1 = M 99 1) := eM28_99_1.trans q99_1_M1
        have q99_2_M28 : (M28 99 2 = M 99 2) := eM28_99_2.trans q99_2_M1
        have q99_3_M28 : (M28 99 3 = M 99 3) := eM28_99_3.trans q99_3_M1
        have q100_0_M28 : id (M28 100 0 = M 100 0) := eM28_100_0.trans q100_0_M1
        have q100_1_M28 : id (M28 100 1 = M 100 1) := eM28_100_1.trans q100_1_M1
        have q100_2_M28 : id (M28 100 2 = M 100 2) := eM28_100_2.trans q100_2_M1
        have q100_3_M28 : id (M28 100 3 = M 100 3) := eM28_100_3.trans q100_3_M1
        have q100_49_M28 : id (M28 100 49 = M 100 49) := eM28_100_49.trans q100_49_M1
        have q100_50_M28 : id (M28 100 50 = M 100 50) := eM28_100_50.trans q100_50_M1
        have q100_51_M28 : id (M28 100 51 = M 100 51) := eM28_100_51.trans q100_51_M1
        have q100_52_M28 : id (M28 100 52 = M 100 52) := eM28_100_52.trans q100_52_M1
        have q103_0_M28 : id (M28 103 0 = M 103 0) := eM28_103_0.trans q103_0_M1
        have q103_1_M28 : id (M28 103 1 = M 103 1) := eM28_103_1.trans q103_1_M1
        have q97_12_M28 : (M28 97 12 = M 97 12) := eM28_97_12.trans q97_12_M1
        have q97_17_M28 : (M28 97 17 = M 97 17) := eM28_97_17.trans q97_17_M1
        have q97_33_M28 : (M28 97 33 = M 97 33) := eM28_97_33.trans q97_33_M1
        have q97_10_M28 : (M28 97 10 = M 97 10) := eM28_97_10.trans q97_10_M1
        have q97_44_M28 : (M28 97 44 = M 97 44) := eM28_97_44.trans q97_44_M1
        clear eM28_100_0 eM28_100_1 eM28_100_2 eM28_100_3 eM28_100_49 eM28_100_50 eM28_100_51 eM28_100_52 eM28_103_0 eM28_103_1
        have c99M28 : M28 99 = M 99 := (fM280 99 (by decide)).trans c99M1
        have c101M28 : M28 101 = M 101 := (fM280 101 (by decide)).trans c101M1
        obtain ⟨anM28, asM28, a98M28⟩ := pM28
        rw [c98M1] at a98M28
        subst anM28
        have e101 : M28 101 = M1 101 := fM280 101 (by decide)
        refine g_ireturn dX10_fill_39 ?_
        exact ⟨iM28, fM28, q99_0_M28, q99_1_M28, q99_2_M28, q99_3_M28, q100_0_M28, q100_1_M28, q100_2_M28, q100_3_M28, q100_49_M28, q100_50_M28, q100_51_M28, q100_52_M28, q103_0_M28, q103_1_M28, q97_12_M28, q97_17_M28, q97_33_M28, q97_10_M28, q97_44_M28, by omega, by rw [(e101.trans c101M1)]; exact ⟨fun q => by first | exact ⟨by omega, fun _ _ => rfl⟩ | exact absurd q (by omega), fun q1 q2 => by first | exact ⟨by omega, fun _ _ => rfl⟩ | exact absurd q2 (by omega) | exact absurd q1 (by omega), fun q1 q2 => by first | exact absurd q2 (by omega) | exact absurd q1 (by omega)⟩, asM28, a98M28⟩
    · replace q8 := q8.resolve_left (fun h => absurd (c10.symm.trans h.1) (by decide))
      refine g_aload_n (pc' := 20) 0 dX10_fill_19 rfl rfl ?_
      refine g_iconst (pc' := 21) dX10_fill_20 rfl ?_
      refine g_callVi (pc' := 24) (As := [vi (-1)]) (b := 97) (S := []) dX10_fill_21 rfl m_X10_87 w_X10_tell (c_X10_tell_x X M1 iM1 (-1) (by decide) (by omega)) rfl ⟨_, _, _, rfl, rfl, rfl⟩ (by decide) (by decide) rfl (Nat.le_of_ble_eq_true rfl) (fun z30 M31 q29 => ?_)
      obtain ⟨iM31, fM310, eM31_99_0, eM31_99_1, eM31_99_2, eM31_99_3, eM31_100_0, eM31_100_1, eM31_100_2, eM31_100_3, eM31_100_49, eM31_100_50, eM31_100_51, eM31_100_52, eM31_103_0, eM31_103_1, eM31_97_12, eM31_97_17, eM31_97_33, eM31_97_10, eM31_97_44, pM31⟩ := q29
      have fM31 : Fr (fun c => c = 97 ∨ c = 98 ∨ c = 101) M M31 := Fr.tr fM1 fM310 fi_31
      have q99_0_M31 : (M31 99 0 = M 99 0) := eM31_99_0.trans q99_0_M1
      have q99_1_M31 : (M31 99 1 = M 99 1) := eM31_99_1.trans q99_1_M1
      have q99_2_M31 : (M31 99 2 = M 99 2) := eM31_99_2.trans q99_2_M1
      have q99_3_M31 : (M31 99 3 = M 99 3) := eM31_99_3.trans q99_3_M1
      have q100_0_M31 : id (M31 100 0 = M 100 0) := eM31_100_0.trans q100_0_M1
      have q100_1_M31 : id (M31 100 1 = M 100 1) := eM31_100_1.trans q100_1_M1
      have q100_2_M31 : id (M31 100 2 = M 100 2) := eM31_100_2.trans q100_2_M1
      have q100_3_M31 : id (M31 100 3 = M 100 3) := eM31_100_3.trans q100_3_M1
      have q100_49_M31 : id (M31 100 49 = M 100 49) := eM31_100_49.trans q100_49_M1
      have q100_50_M31 : id (M31 100 50 = M 100 50) := eM31_100_50.trans q100_50_M1
      have q100_51_M31 : id (M31 100 51 = M 100 51) := eM31_100_51.trans q100_51_M1
      have q100_52_M31 : id (M31 100 52 = M 100 52) := eM31_100_52.trans q100_52_M1
      have q103_0_M31 : id (M31 103 0 = M 103 0) := eM31_103_0.trans q103_0_M1
      have q103_1_M31 : id (M31 103 1 = M 103 1) := eM31_103_1.trans q103_1_M1
      have q97_12_M31 : (M31 97 12 = M 97 12) := eM31_97_12.trans q97_12_M1
      have q97_17_M31 : (M31 97 17 = M 97 17) := eM31_97_17.trans q97_17_M1
      have q97_33_M31 : (M31 97 33 = M 97 33) := eM31_97_33.trans q97_33_M1
      have q97_10_M31 : (M31 97 10 = M 97 10) := eM31_97_10.trans q97_10_M1
      have q97_44_M31 : (M31 97 44 = M 97 44) := eM31_97_44.trans q97_44_M1
      clear eM31_100_0 eM31_100_1 eM31_100_2 eM31_100_3 eM31_100_49 eM31_100_50 eM31_100_51 eM31_100_52 eM31_103_0 eM31_103_1
      have c99M31 : M31 99 = M 99 := (fM310 99 (by decide)).trans c99M1
      have c101M31 : M31 101 = M 101 := (fM310 101 (by decide)).trans c101M1
      obtain ⟨anM31, asM31, a98M31⟩ := pM31
      rw [c98M1] at a98M31
      subst anM31
      have e101 : M31 101 = M1 101 := fM310 101 (by decide)
      refine g_ireturn dX10_fill_24 ?_
      exact ⟨iM31, fM31, q99_0_M31, q99_1_M31, q99_2_M31, q99_3_M31, q100_0_M31, q100_1_M31, q100_2_M31, q100_3_M31, q100_49_M31, q100_50_M31, q100_51_M31, q100_52_M31, q103_0_M31, q103_1_M31, q97_12_M31, q97_17_M31, q97_33_M31, q97_10_M31, q97_44_M31, by omega, by rw [(e101.trans c101M1)]; exact ⟨fun q => by first | exact ⟨by omega, fun _ _ => rfl⟩ | exact absurd q (by omega), fun q1 q2 => by first | exact ⟨by omega, fun _ _ => rfl⟩ | exact absurd q2 (by omega) | exact absurd q1 (by omega), fun q1 q2 => by first | exact absurd q2 (by omega) | exact absurd q1 (by omega)⟩, asM31, a98M31⟩
set_option maxHeartbeats 4000000 in
set_option maxRecDepth 100000 in
theorem c_X10_empty_x (X : Cx) (M : Mm) (hi : IM M) (a : Int) (ha : inI a) : Con X 12 yX10_empty cX10_empty 4 (some .int) [vr X 97, vi a] M (Qi (fun r M1 => IM M1 ∧ Fr (fun c => c = 97 ∨ c = 98 ∨ c = 101) M M1 ∧ M1 99 0 = M 99 0 ∧ M1 99 1 = M 99 1 ∧ M1 99 2 = M 99 2 ∧ M1 99 3 = M 99 3 ∧ M1 100 0 = M 100 0 ∧ M1 100 1 = M 100 1 ∧ M1 100 2 = M 100 2 ∧ M1 100 3 = M 100 3 ∧ M1 100 49 = M 100 49 ∧ M1 100 50 = M 100 50 ∧ M1 100 51 = M 100 51 ∧ M1 100 52 = M 100 52 ∧ M1 103 0 = M 103 0 ∧ M1 103 1 = M 103 1 ∧ M1 97 12 = M 97 12 ∧ M1 97 17 = M 97 17 ∧ M1 97 33 = M 97 33 ∧ M1 97 10 = M 97 10 ∧ M1 97 44 = M 97 44 ∧ ((-6 ≤ r ∧ r ≤ 60) ∧ REM (M 101) (M 99 0) a r (M1 101) ∧ M1 97 1 = ngv r ∧ M1 98 = telF (M 98) r))) := by
  refine Con.ofG rfl (Nat.le_of_ble_eq_true rfl) ?_
  show G X 12 RX10 cX10_empty 4 (some .int) (Qi (fun r M1 => IM M1 ∧ Fr (fun c => c = 97 ∨ c = 98 ∨ c = 101) M M1 ∧ M1 99 0 = M 99 0 ∧ M1 99 1 = M 99 1 ∧ M1 99 2 = M 99 2 ∧ M1 99 3 = M 99 3 ∧ M1 100 0 = M 100 0 ∧ M1 100 1 = M 100 1 ∧ M1 100 2 = M 100 2 ∧ M1 100 3 = M 100 3 ∧ M1 100 49 = M 100 49 ∧ M1 100 50 = M 100 50 ∧ M1 100 51 = M 100 51 ∧ M1 100 52 = M 100 52 ∧ M1 103 0 = M 103 0 ∧ M1 103 1 = M 103 1 ∧ M1 97 12 = M 97 12 ∧ M1 97 17 = M 97 17 ∧ M1 97 33 = M 97 33 ∧ M1 97 10 = M 97 10 ∧ M1 97 44 = M 97 44 ∧ ((-6 ≤ r ∧ r ≤ 60) ∧ REM (M 101) (M 99 0) a r (M1 101) ∧ M1 97 1 = ngv r ∧ M1 98 = telF (M 98) r))) 0 [(0, vr X 97), (1, vi a)] [] M
  have p0 := hi.1.1
  have p1 := hi.1.2.1
  have p2 := hi.1.2.2.1
  have p3 := hi.1.2.2.2.1
  have p12 := hi.2.2.2.1
  refine g_aload_n (pc' := 1) 0 dX10_empty_0 rfl rfl ?_
  refine g_iconst (pc' := 2) dX10_empty_1 rfl ?_
  refine g_putI (pc' := 5) dX10_empty_2 rfl p_X10_77 rfl rfl (by decide) (fun M1 hM1 => ?_)
  have iM1 : IM M1 := IM.wr hi hM1 (by unfold okv; first | decide | omega)
  have fM1 : Fr (fun c => c = 97 ∨ c = 98 ∨ c = 101) M M1 := Fr.wr Fr.rf hM1 (by first | decide | omega | (dsimp only; omega))
  have q99_0_M1 : (M1 99 0 = M 99 0) := (show M1 99 0 = M 99 0 by rw [hM1]; exact mu_ne _ _ (by first | decide | omega))
  have q99_1_M1 : (M1 99 1 = M 99 1) := (show M1 99 1 = M 99 1 by rw [hM1]; exact mu_ne _ _ (by first | decide | omega))
  have q99_2_M1 : (M1 99 2 = M 99 2) := (show M1 99 2 = M 99 2 by rw [hM1]; exact mu_ne _ _ (by first | decide | omega))
  have q99_3_M1 : (M1 99 3 = M 99 3) := (show M1 99 3 = M 99 3 by rw [hM1]; exact mu_ne _ _ (by first | decide | omega))
  have q100_0_M1 : id (M1 100 0 = M 100 0) := (show M1 100 0 = M 100 0 by rw [hM1]; exact mu_ne _ _ (by first | decide | omega))
  have q100_1_M1 : id (M1 100 1 = M 100 1) := (show M1 100 1 = M 100 1 by rw [hM1]; exact mu_ne _ _ (by first | decide | omega))
  have q100_2_M1 : id (M1 100 2 = M 100 2) := (show M1 100 2 = M 100 2 by rw [hM1]; exact mu_ne _ _ (by first | decide | omega))
  have q100_3_M1 : id (M1 100 3 = M 100 3) := (show M1 100 3 = M 100 3 by rw [hM1]; exact mu_ne _ _ (by first | decide | omega))
  have q100_49_M1 : id (M1 100 49 = M 100 49) := (show M1 100 49 = M 100 49 by rw [hM1]; exact mu_ne _ _ (by first | decide | omega))
  have q100_50_M1 : id (M1 100 50 = M 100 50) := (show M1 100 50 = M 100 50 by rw [hM1]; exact mu_ne _ _ (by first | decide | omega))
  have q100_51_M1 : id (M1 100 51 = M 100 51) := (show M1 100 51 = M 100 51 by rw [hM1]; exact mu_ne _ _ (by first | decide | omega))
  have q100_52_M1 : id (M1 100 52 = M 100 52) := (show M1 100 52 = M 100 52 by rw [hM1]; exact mu_ne _ _ (by first | decide | omega))
  have q103_0_M1 : id (M1 103 0 = M 103 0) := (show M1 103 0 = M 103 0 by rw [hM1]; exact mu_ne _ _ (by first | decide | omega))
  have q103_1_M1 : id (M1 103 1 = M 103 1) := (show M1 103 1 = M 103 1 by rw [hM1]; exact mu_ne _ _ (by first | decide | omega))
  have q97_12_M1 : (M1 97 12 = M 97 12) := (show M1 97 12 = M 97 12 by rw [hM1]; exact mu_ne _ _ (by first | decide | omega))
  have q97_17_M1 : (M1 97 17 = M 97 17) := (show M1 97 17 = M 97 17 by rw [hM1]; exact mu_ne _ _ (by first | decide | omega))
  have q97_33_M1 : (M1 97 33 = M 97 33) := (show M1 97 33 = M 97 33 by rw [hM1]; exact mu_ne _ _ (by first | decide | omega))
  have q97_10_M1 : (M1 97 10 = M 97 10) := (show M1 97 10 = M 97 10 by rw [hM1]; exact mu_ne _ _ (by first | decide | omega))
  have q97_44_M1 : (M1 97 44 = M 97 44) := (show M1 97 44 = M 97 44 by rw [hM1]; exact mu_ne _ _ (by first | decide | omega))
  have q97_1_M1 : (M1 97 1 = M 97 1) := (show M1 97 1 = M 97 1 by rw [hM1]; exact mu_ne _ _ (by first | decide | omega))
  have wM1_97_1 : M1 97 1 = M 97 1 := by rw [hM1]; exact mu_ne _ _ (by first | decide | omega)
  have xM1_97_0 : M1 97 0 = 0 := by rw [hM1]; exact mu_at _ _ _ _
  have c98M1 : M1 98 = M 98 := (by rw [hM1]; exact mu_cell _ _ (by decide))
  have c99M1 : M1 99 = M 99 := (by rw [hM1]; exact mu_cell _ _ (by decide))
  have c101M1 : M1 101 = M 101 := (by rw [hM1]; exact mu_cell _ _ (by decide))
  refine g_aload_n (pc' := 6) 0 dX10_empty_5 rfl rfl ?_
  refine g_iload_n (pc' := 7) 1 dX10_empty_6 rfl rfl ?_
  refine g_callVip (pc' := 10) (As := [vi a]) (b := 97) (S := []) dX10_empty_7 rfl m_X10_102 w_X10_isGlass (c_X10_isGlass X M1 iM1 a ha) rfl ⟨_, _, _, rfl, rfl, rfl⟩ (by decide) (by decide) rfl (Nat.le_of_ble_eq_true rfl) (fun z3 q2 => ?_)
  refine g_if_ne (pc' := 13) (tgt := 20) ⟨by omega, by omega⟩ dX10_empty_10 rfl rfl (fun c4 => ?_) (fun c4 => ?_)
  · replace q2 := q2.resolve_right (fun h => c4 h.1)
    refine g_aload_n (pc' := 21) 0 dX10_empty_20 rfl rfl ?_
    refine g_iload_n (pc' := 22) 1 dX10_empty_21 rfl rfl ?_
    refine g_callVip (pc' := 25) (As := [vi a]) (b := 97) (S := []) dX10_empty_22 rfl m_X10_99 w_X10_full (c_X10_full X M1 iM1 a ha ⟨by omega, by omega⟩) rfl ⟨_, _, _, rfl, rfl, rfl⟩ (by decide) (by decide) rfl (Nat.le_of_ble_eq_true rfl) (fun z6 q5 => ?_)
    have flz6 : flm (M1 101) (a).toNat = z6 := flm_at iM1.2.1.1.1 (by unfold sm4; exact q5.2.symm)
    have fbz6 := q5.1
    have cb101 : M1 101 = M 101 := c101M1
    refine g_istore_n (pc' := 26) (i := 2) (L' := [(2, vi z6), (0, vr X 97), (1, vi a)]) dX10_empty_25 rfl rfl (by decide) rfl ?_
    refine g_iconst (pc' := 27) dX10_empty_26 rfl ?_
    refine g_istore_n (pc' := 28) (i := 3) (L' := [(3, vi 0), (2, vi z6), (0, vr X 97), (1, vi a)]) dX10_empty_27 rfl rfl (by decide) rfl ?_
    refine g_iload_n (pc' := 29) 0 dX10_empty_28 rfl rfl ?_
    refine g_iconst (pc' := 30) dX10_empty_29 rfl ?_
    refine g_ic_ge (pc' := 33) (tgt := 50) (by decide) (by decide) dX10_empty_30 rfl rfl (fun c7 => ?_) (fun c7 => ?_)
    · exact absurd c7 (by omega)
    · refine g_aload_n (pc' := 34) 2 dX10_empty_33 rfl rfl ?_
      refine g_getR (pc' := 37) dX10_empty_34 rfl f_X10_19 rfl rfl ?_
      refine g_iconst (pc' := 38) dX10_empty_37 rfl ?_
      refine g_iload_n (pc' := 39) 3 dX10_empty_38 rfl rfl ?_
      refine g_imul (pc' := 40) dX10_empty_39 rfl ?_
      refine g_iload_n (pc' := 41) 0 dX10_empty_40 rfl rfl ?_
      refine g_iadd (pc' := 42) dX10_empty_41 rfl ?_
      refine g_lconst (pc' := 43) (v := 0) dX10_empty_42 rfl (by decide) ?_
      refine g_last (pc' := 44) dX10_empty_43 rfl rfl (by omega) (by omega) (by decide) (fun M8 hM8 => ?_)
      have fM8 : Fr (fun c => c = 97 ∨ c = 98 ∨ c = 101) M M8 := Fr.wr fM1 hM8 (by first | decide | omega | (dsimp only; omega))
      have q99_0_M8 : (M8 99 0 = M 99 0) := (show M8 99 0 = M1 99 0 by rw [hM8]; exact mu_ne _ _ (by first | decide | omega)).trans q99_0_M1
      have q99_1_M8 : (M8 99 1 = M 99 1) := (show M8 99 1 = M1 99 1 by rw [hM8]; exact mu_ne _ _ (by first | decide | omega)).trans q99_1_M1
      have q99_2_M8 : (M8 99 2 = M 99 2) := (show M8 99 2 = M1 99 2 by rw [hM8]; exact mu_ne _ _ (by first | decide | omega)).trans q99_2_M1
      have q99_3_M8 : (M8 99 3 = M 99 3) := (show M8 99 3 = M1 99 3 by rw [hM8]; exact mu_ne _ _ (by first | decide | omega)).trans q99_3_M1
      have q100_0_M8 : id (M8 100 0 = M 100 0) := (show M8 100 0 = M1 100 0 by rw [hM8]; exact mu_ne _ _ (by first | decide | omega)).trans q100_0_M1
      have q100_1_M8 : id (M8 100 1 = M 100 1) := (show M8 100 1 = M1 100 1 by rw [hM8]; exact mu_ne _ _ (by first | decide | omega)).trans q100_1_M1
      have q100_2_M8 : id (M8 100 2 = M 100 2) := (show M8 100 2 = M1 100 2 by rw [hM8]; exact mu_ne _ _ (by first | decide | omega)).trans q100_2_M1
      have q100_3_M8 : id (M8 100 3 = M 100 3) := (show M8 100 3 = M1 100 3 by rw [hM8]; exact mu_ne _ _ (by first | decide | omega)).trans q100_3_M1
      have q100_49_M8 : id (M8 100 49 = M 100 49) := (show M8 100 49 = M1 100 49 by rw [hM8]; exact mu_ne _ _ (by first | decide | omega)).trans q100_49_M1
      have q100_50_M8 : id (M8 100 50 = M 100 50) := (show M8 100 50 = M1 100 50 by rw [hM8]; exact mu_ne _ _ (by first | decide | omega)).trans q100_50_M1
      have q100_51_M8 : id (M8 100 51 = M 100 51) := (show M8 100 51 = M1 100 51 by rw [hM8]; exact mu_ne _ _ (by first | decide | omega)).trans q100_51_M1
      have q100_52_M8 : id (M8 100 52 = M 100 52) := (show M8 100 52 = M1 100 52 by rw [hM8]; exact mu_ne _ _ (by first | decide | omega)).trans q100_52_M1
      have q103_0_M8 : id (M8 103 0 = M 103 0) := (show M8 103 0 = M1 103 0 by rw [hM8]; exact mu_ne _ _ (by first | decide | omega)).trans q103_0_M1
      have q103_1_M8 : id (M8 103 1 = M 103 1) := (show M8 103 1 = M1 103 1 by rw [hM8]; exact mu_ne _ _ (by first | decide | omega)).trans q103_1_M1
      have q97_12_M8 : (M8 97 12 = M 97 12) := (show M8 97 12 = M1 97 12 by rw [hM8]; exact mu_ne _ _ (by first | decide | omega)).trans q97_12_M1
      have q97_17_M8 : (M8 97 17 = M 97 17) := (show M8 97 17 = M1 97 17 by rw [hM8]; exact mu_ne _ _ (by first | decide | omega)).trans q97_17_M1
      have q97_33_M8 : (M8 97 33 = M 97 33) := (show M8 97 33 = M1 97 33 by rw [hM8]; exact mu_ne _ _ (by first | decide | omega)).trans q97_33_M1
      have q97_10_M8 : (M8 97 10 = M 97 10) := (show M8 97 10 = M1 97 10 by rw [hM8]; exact mu_ne _ _ (by first | decide | omega)).trans q97_10_M1
      have q97_44_M8 : (M8 97 44 = M 97 44) := (show M8 97 44 = M1 97 44 by rw [hM8]; exact mu_ne _ _ (by first | decide | omega)).trans q97_44_M1
      have q97_1_M8 : (M8 97 1 = M 97 1) := (show M8 97 1 = M1 97 1 by rw [hM8]; exact mu_ne _ _ (by first | decide | omega)).trans q97_1_M1
      have wM8_97_1 : M8 97 1 = M1 97 1 := by rw [hM8]; exact mu_ne _ _ (by first | decide | omega)
      have xM8_97_0 : M8 97 0 = 0 := (show M8 97 0 = M1 97 0 by rw [hM8]; exact mu_ne _ _ (by first | decide | omega)).trans xM1_97_0
      have LM8 : Fr (fun c => c = 101) M1 M8 := Fr.wr Fr.rf hM8 rfl
      have uM8 : ∀ k : Nat, ¬ (4 * a.toNat ≤ k ∧ k < 4 * a.toNat + 4) → M8 101 k = M1 101 k := fun k hk => by rw [hM8]; exact mu_ne _ _ (fun _ => by omega)
      have zM8_0 : M8 101 (4 * a.toNat + 0) = 0 := by rw [hM8, show 4 * a.toNat + 0 = (4 * a + 0).toNat by omega]; exact mu_at _ _ _ _
      have c98M8 : M8 98 = M 98 := (show M8 98 = M1 98 by rw [hM8]; exact mu_cell _ _ (by decide)).trans c98M1
      have c99M8 : M8 99 = M 99 := (show M8 99 = M1 99 by rw [hM8]; exact mu_cell _ _ (by decide)).trans c99M1
      refine g_iinc (pc' := 47) (L' := [(3, vi 1), (2, vi z6), (0, vr X 97), (1, vi a)]) 0 dX10_empty_44 rfl rfl (by decide) rfl ?_
      refine g_goto (tgt := 28) dX10_empty_47 rfl ?_
      refine g_iload_n (pc' := 29) 0 dX10_empty_28 rfl rfl ?_
      refine g_iconst (pc' := 30) dX10_empty_29 rfl ?_
      refine g_ic_ge (pc' := 33) (tgt := 50) (by decide) (by decide) dX10_empty_30 rfl rfl (fun c9 => ?_) (fun c9 => ?_)
      · exact absurd c9 (by omega)
      · refine g_aload_n (pc' := 34) 2 dX10_empty_33 rfl rfl ?_
        refine g_getR (pc' := 37) dX10_empty_34 rfl f_X10_19 rfl rfl ?_
        refine g_iconst (pc' := 38) dX10_empty_37 rfl ?_
        refine g_iload_n (pc' := 39) 3 dX10_empty_38 rfl rfl ?_
        refine g_imul (pc' := 40) dX10_empty_39 rfl ?_
        refine g_iload_n (pc' := 41) 0 dX10_empty_40 rfl rfl ?_
        refine g_iadd (pc' := 42) dX10_empty_41 rfl ?_
        refine g_lconst (pc' := 43) (v := 0) dX10_empty_42 rfl (by decide) ?_
        refine g_last (pc' := 44) dX10_empty_43 rfl rfl (by omega) (by omega) (by decide) (fun M10 hM10 => ?_)
        have fM10 : Fr (fun c => c = 97 ∨ c = 98 ∨ c = 101) M M10 := Fr.wr fM8 hM10 (by first | decide | omega | (dsimp only; omega))
        have q99_0_M10 : (M10 99 0 = M 99 0) := (show M10 99 0 = M8 99 0 by rw [hM10]; exact mu_ne _ _ (by first | decide | omega)).trans q99_0_M8
        have q99_1_M10 : (M10 99 1 = M 99 1) := (show M10 99 1 = M8 99 1 by rw [hM10]; exact mu_ne _ _ (by first | decide | omega)).trans q99_1_M8
        have q99_2_M10 : (M10 99 2 = M 99 2) := (show M10 99 2 = M8 99 2 by rw [hM10]; exact mu_ne _ _ (by first | decide | omega)).trans q99_2_M8
        have q99_3_M10 : (M10 99 3 = M 99 3) := (show M10 99 3 = M8 99 3 by rw [hM10]; exact mu_ne _ _ (by first | decide | omega)).trans q99_3_M8
        have q100_0_M10 : id (M10 100 0 = M 100 0) := (show M10 100 0 = M8 100 0 by rw [hM10]; exact mu_ne _ _ (by first | decide | omega)).trans q100_0_M8
        have q100_1_M10 : id (M10 100 1 = M 100 1) := (show M10 100 1 = M8 100 1 by rw [hM10]; exact mu_ne _ _ (by first | decide | omega)).trans q100_1_M8
        have q100_2_M10 : id (M10 100 2 = M 100 2) := (show M10 100 2 = M8 100 2 by rw [hM10]; exact mu_ne _ _ (by first | decide | omega)).trans q100_2_M8
        have q100_3_M10 : id (M10 100 3 = M 100 3) := (show M10 100 3 = M8 100 3 by rw [hM10]; exact mu_ne _ _ (by first | decide | omega)).trans q100_3_M8
        have q100_49_M10 : id (M10 100 49 = M 100 49) := (show M10 100 49 = M8 100 49 by rw [hM10]; exact mu_ne _ _ (by first | decide | omega)).trans q100_49_M8
        have q100_50_M10 : id (M10 100 50 = M 100 50) := (show M10 100 50 = M8 100 50 by rw [hM10]; exact mu_ne _ _ (by first | decide | omega)).trans q100_50_M8
        have q100_51_M10 : id (M10 100 51 = M 100 51) := (show M10 100 51 = M8 100 51 by rw [hM10]; exact mu_ne _ _ (by first | decide | omega)).trans q100_51_M8
        have q100_52_M10 : id (M10 100 52 = M 100 52) := (show M10 100 52 = M8 100 52 by rw [hM10]; exact mu_ne _ _ (by first | decide | omega)).trans q100_52_M8
        have q103_0_M10 : id (M10 103 0 = M 103 0) := (show M10 103 0 = M8 103 0 by rw [hM10]; exact mu_ne _ _ (by first | decide | omega)).trans q103_0_M8
        have q103_1_M10 : id (M10 103 1 = M 103 1) := (show M10 103 1 = M8 103 1 by rw [hM10]; exact mu_ne _ _ (by first | decide | omega)).trans q103_1_M8
        have q97_12_M10 : (M10 97 12 = M 97 12) := (show M10 97 12 = M8 97 12 by rw [hM10]; exact mu_ne _ _ (by first | decide | omega)).trans q97_12_M8
        have q97_17_M10 : (M10 97 17 = M 97 17) := (show M10 97 17 = M8 97 17 by rw [hM10]; exact mu_ne _ _ (by first | decide | omega)).trans q97_17_M8
        have q97_33_M10 : (M10 97 33 = M 97 33) := (show M10 97 33 = M8 97 33 by rw [hM10]; exact mu_ne _ _ (by first | decide | omega)).trans q97_33_M8
        have q97_10_M10 : (M10 97 10 = M 97 10) := (show M10 97 10 = M8 97 10 by rw [hM10]; exact mu_ne _ _ (by first | decide | omega)).trans q97_10_M8
        have q97_44_M10 : (M10 97 44 = M 97 44) := (show M10 97 44 = M8 97 44 by rw [hM10]; exact mu_ne _ _ (by first | decide | omega)).trans q97_44_M8
        have q97_1_M10 : (M10 97 1 = M 97 1) := (show M10 97 1 = M8 97 1 by rw [hM10]; exact mu_ne _ _ (by first | decide | omega)).trans q97_1_M8
        have wM10_97_1 : M10 97 1 = M8 97 1 := by rw [hM10]; exact mu_ne _ _ (by first | decide | omega)
        have xM10_97_0 : M10 97 0 = 0 := (show M10 97 0 = M8 97 0 by rw [hM10]; exact mu_ne _ _ (by first | decide | omega)).trans xM8_97_0
        have LM10 : Fr (fun c => c = 101) M1 M10 := Fr.wr LM8 hM10 rfl
        have uM10 : ∀ k : Nat, ¬ (4 * a.toNat ≤ k ∧ k < 4 * a.toNat + 4) → M10 101 k = M1 101 k := fun k hk => by rw [hM10, mu_ne _ _ (fun _ => by omega)]; exact uM8 k hk
        have zM10_0 : M10 101 (4 * a.toNat + 0) = 0 := by rw [hM10, mu_ne _ _ (fun _ => by omega)]; exact zM8_0
        have zM10_1 : M10 101 (4 * a.toNat + 1) = 0 := by rw [hM10, show 4 * a.toNat + 1 = (4 * a + 1).toNat by omega]; exact mu_at _ _ _ _
        have c98M10 : M10 98 = M 98 := (show M10 98 = M8 98 by rw [hM10]; exact mu_cell _ _ (by decide)).trans c98M8
        have c99M10 : M10 99 = M 99 := (show M10 99 = M8 99 by rw [hM10]; exact mu_cell _ _ (by decide)).trans c99M8
        refine g_iinc (pc' := 47) (L' := [(3, vi 2), (2, vi z6), (0, vr X 97), (1, vi a)]) 0 dX10_empty_44 rfl rfl (by decide) rfl ?_
        refine g_goto (tgt := 28) dX10_empty_47 rfl ?_
        refine g_iload_n (pc' := 29) 0 dX10_empty_28 rfl rfl ?_
        refine g_iconst (pc' := 30) dX10_empty_29 rfl ?_
        refine g_ic_ge (pc' := 33) (tgt := 50) (by decide) (by decide) dX10_empty_30 rfl rfl (fun c11 => ?_) (fun c11 => ?_)
        · exact absurd c11 (by omega)
        · refine g_aload_n (pc' := 34) 2 dX10_empty_33 rfl rfl ?_
          refine g_getR (pc' := 37) dX10_empty_34 rfl f_X10_19 rfl rfl ?_
          refine g_iconst (pc' := 38) dX10_empty_37 rfl ?_
          refine g_iload_n (pc' := 39) 3 dX10_empty_38 rfl rfl ?_
          refine g_imul (pc' := 40) dX10_empty_39 rfl ?_
          refine g_iload_n (pc' := 41) 0 dX10_empty_40 rfl rfl ?_
          refine g_iadd (pc' := 42) dX10_empty_41 rfl ?_
          refine g_lconst (pc' := 43) (v := 0) dX10_empty_42 rfl (by decide) ?_
          refine g_last (pc' := 44) dX10_empty_43 rfl rfl (by omega) (by omega) (by decide) (fun M12 hM12 => ?_)
          have fM12 : Fr (fun c => c = 97 ∨ c = 98 ∨ c = 101) M M12 := Fr.wr fM10 hM12 (by first | decide | omega | (dsimp only; omega))
          have q99_0_M12 : (M12 99 0 = M 99 0) := (show M12 99 0 = M10 99 0 by rw [hM12]; exact mu_ne _ _ (by first | decide | omega)).trans q99_0_M10
          have q99_1_M12 : (M12 99 1 = M 99 1) := (show M12 99 1 = M10 99 1 by rw [hM12]; exact mu_ne _ _ (by first | decide | omega)).trans q99_1_M10
          have q99_2_M12 : (M12 99 2 = M 99 2) := (show M12 99 2 = M10 99 2 by rw [hM12]; exact mu_ne _ _ (by first | decide | omega)).trans q99_2_M10
          have q99_3_M12 : (M12 99 3 = M 99 3) := (show M12 99 3 = M10 99 3 by rw [hM12]; exact mu_ne _ _ (by first | decide | omega)).trans q99_3_M10
          have q100_0_M12 : id (M12 100 0 = M 100 0) := (show M12 100 0 = M10 100 0 by rw [hM12]; exact mu_ne _ _ (by first | decide | omega)).trans q100_0_M10
          have q100_1_M12 : id (M12 100 1 = M 100 1) := (show M12 100 1 = M10 100 1 by rw [hM12]; exact mu_ne _ _ (by first | decide | omega)).trans q100_1_M10
          have q100_2_M12 : id (M12 100 2 = M 100 2) := (show M12 100 2 = M10 100 2 by rw [hM12]; exact mu_ne _ _ (by first | decide | omega)).trans q100_2_M10
          have q100_3_M12 : id (M12 100 3 = M 100 3) := (show M12 100 3 = M10 100 3 by rw [hM12]; exact mu_ne _ _ (by first | decide | omega)).trans q100_3_M10
          have q100_49_M12 : id (M12 100 49 = M 100 49) := (show M12 100 49 = M10 100 49 by rw [hM12]; exact mu_ne _ _ (by first | decide | omega)).trans q100_49_M10
          have q100_50_M12 : id (M12 100 50 = M 100 50) := (show M12 100 50 = M10 100 50 by rw [hM12]; exact mu_ne _ _ (by first | decide | omega)).trans q100_50_M10
          have q100_51_M12 : id (M12 100 51 = M 100 51) := (show M12 100 51 = M10 100 51 by rw [hM12]; exact mu_ne _ _ (by first | decide | omega)).trans q100_51_M10
          have q100_52_M12 : id (M12 100 52 = M 100 52) := (show M12 100 52 = M10 100 52 by rw [hM12]; exact mu_ne _ _ (by first | decide | omega)).trans q100_52_M10
          have q103_0_M12 : id (M12 103 0 = M 103 0) := (show M12 103 0 = M10 103 0 by rw [hM12]; exact mu_ne _ _ (by first | decide | omega)).trans q103_0_M10
          have q103_1_M12 : id (M12 103 1 = M 103 1) := (show M12 103 1 = M10 103 1 by rw [hM12]; exact mu_ne _ _ (by first | decide | omega)).trans q103_1_M10
          have q97_12_M12 : (M12 97 12 = M 97 12) := (show M12 97 12 = M10 97 12 by rw [hM12]; exact mu_ne _ _ (by first | decide | omega)).trans q97_12_M10
          have q97_17_M12 : (M12 97 17 = M 97 17) := (show M12 97 17 = M10 97 17 by rw [hM12]; exact mu_ne _ _ (by first | decide | omega)).trans q97_17_M10
          have q97_33_M12 : (M12 97 33 = M 97 33) := (show M12 97 33 = M10 97 33 by rw [hM12]; exact mu_ne _ _ (by first | decide | omega)).trans q97_33_M10
          have q97_10_M12 : (M12 97 10 = M 97 10) := (show M12 97 10 = M10 97 10 by rw [hM12]; exact mu_ne _ _ (by first | decide | omega)).trans q97_10_M10
          have q97_44_M12 : (M12 97 44 = M 97 44) := (show M12 97 44 = M10 97 44 by rw [hM12]; exact mu_ne _ _ (by first | decide | omega)).trans q97_44_M10
          have q97_1_M12 : (M12 97 1 = M 97 1) := (show M12 97 1 = M10 97 1 by rw [hM12]; exact mu_ne _ _ (by first | decide | omega)).trans q97_1_M10
          have wM12_97_1 : M12 97 1 = M10 97 1 := by rw [hM12]; exact mu_ne _ _ (by first | decide | omega)
          have xM12_97_0 : M12 97 0 = 0 := (show M12 97 0 = M10 97 0 by rw [hM12]; exact mu_ne _ _ (by first | decide | omega)).trans xM10_97_0
          have LM12 : Fr (fun c => c = 101) M1 M12 := Fr.wr LM10 hM12 rfl
          have uM12 : ∀ k : Nat, ¬ (4 * a.toNat ≤ k ∧ k < 4 * a.toNat + 4) → M12 101 k = M1 101 k := fun k hk => by rw [hM12, mu_ne _ _ (fun _ => by omega)]; exact uM10 k hk
          have zM12_0 : M12 101 (4 * a.toNat + 0) = 0 := by rw [hM12, mu_ne _ _ (fun _ => by omega)]; exact zM10_0
          have zM12_1 : M12 101 (4 * a.toNat + 1) = 0 := by rw [hM12, mu_ne _ _ (fun _ => by omega)]; exact zM10_1
          have zM12_2 : M12 101 (4 * a.toNat + 2) = 0 := by rw [hM12, show 4 * a.toNat + 2 = (4 * a + 2).toNat by omega]; exact mu_at _ _ _ _
          have c98M12 : M12 98 = M 98 := (show M12 98 = M10 98 by rw [hM12]; exact mu_cell _ _ (by decide)).trans c98M10
          have c99M12 : M12 99 = M 99 := (show M12 99 = M10 99 by rw [hM12]; exact mu_cell _ _ (by decide)).trans c99M10
          refine g_iinc (pc' := 47) (L' := [(3, vi 3), (2, vi z6), (0, vr X 97), (1, vi a)]) 0 dX10_empty_44 rfl rfl (by decide) rfl ?_
          refine g_goto (tgt := 28) dX10_empty_47 rfl ?_
          refine g_iload_n (pc' := 29) 0 dX10_empty_28 rfl rfl ?_
          refine g_iconst (pc' := 30) dX10_empty_29 rfl ?_
          refine g_ic_ge (pc' := 33) (tgt := 50) (by decide) (by decide) dX10_empty_30 rfl rfl (fun c13 => ?_) (fun c13 => ?_)
          · exact absurd c13 (by omega)
          · refine g_aload_n (pc' := 34) 2 dX10_empty_33 rfl rfl ?_
            refine g_getR (pc' := 37) dX10_empty_34 rfl f_X10_19 rfl rfl ?_
            refine g_iconst (pc' := 38) dX10_empty_37 rfl ?_
            refine g_iload_n (pc' := 39) 3 dX10_empty_38 rfl rfl ?_
            refine g_imul (pc' := 40) dX10_empty_39 rfl ?_
            refine g_iload_n (pc' := 41) 0 dX10_empty_40 rfl rfl ?_
            refine g_iadd (pc' := 42) dX10_empty_41 rfl ?_
            refine g_lconst (pc' := 43) (v := 0) dX10_empty_42 rfl (by decide) ?_
            refine g_last (pc' := 44) dX10_empty_43 rfl rfl (by omega) (by omega) (by decide) (fun M14 hM14 => ?_)
            have fM14 : Fr (fun c => c = 97 ∨ c = 98 ∨ c = 101) M M14 := Fr.wr fM12 hM14 (by first | decide | omega | (dsimp only; omega))
            have q99_0_M14 : (M14 99 0 = M 99 0) := (show M14 99 0 = M12 99 0 by rw [hM14]; exact mu_ne _ _ (by first | decide | omega)).trans q99_0_M12
            have q99_1_M14 : (M14 99 1 = M 99 1) := (show M14 99 1 = M12 99 1 by rw [hM14]; exact mu_ne _ _ (by first | decide | omega)).trans q99_1_M12
            have q99_2_M14 : (M14 99 2 = M 99 2) := (show M14 99 2 = M12 99 2 by rw [hM14]; exact mu_ne _ _ (by first | decide | omega)).trans q99_2_M12
            have q99_3_M14 : (M14 99 3 = M 99 3) := (show M14 99 3 = M12 99 3 by rw [hM14]; exact mu_ne _ _ (by first | decide | omega)).trans q99_3_M12
            have q100_0_M14 : id (M14 100 0 = M 100 0) := (show M14 100 0 = M12 100 0 by rw [hM14]; exact mu_ne _ _ (by first | decide | omega)).trans q100_0_M12
            have q100_1_M14 : id (M14 100 1 = M 100 1) := (show M14 100 1 = M12 100 1 by rw [hM14]; exact mu_ne _ _ (by first | decide | omega)).trans q100_1_M12
            have q100_2_M14 : id (M14 100 2 = M 100 2) := (show M14 100 2 = M12 100 2 by rw [hM14]; exact mu_ne _ _ (by first | decide | omega)).trans q100_2_M12
            have q100_3_M14 : id (M14 100 3 = M 100 3) := (show M14 100 3 = M12 100 3 by rw [hM14]; exact mu_ne _ _ (by first | decide | omega)).trans q100_3_M12
            have q100_49_M14 : id (M14 100 49 = M 100 49) := (show M14 100 49 = M12 100 49 by rw [hM14]; exact mu_ne _ _ (by first | decide | omega)).trans q100_49_M12
            have q100_50_M14 : id (M14 100 50 = M 100 50) := (show M14 100 50 = M12 100 50 by rw [hM14]; exact mu_ne _ _ (by first | decide | omega)).trans q100_50_M12
            have q100_51_M14 : id (M14 100 51 = M 100 51) := (show M14 100 51 = M12 100 51 by rw [hM14]; exact mu_ne _ _ (by first | decide | omega)).trans q100_51_M12
            have q100_52_M14 : id (M14 100 52 = M 100 52) := (show M14 100 52 = M12 100 52 by rw [hM14]; exact mu_ne _ _ (by first | decide | omega)).trans q100_52_M12
            have q103_0_M14 : id (M14 103 0 = M 103 0) := (show M14 103 0 = M12 103 0 by rw [hM14]; exact mu_ne _ _ (by first | decide | omega)).trans q103_0_M12
            have q103_1_M14 : id (M14 103 1 = M 103 1) := (show M14 103 1 = M12 103 1 by rw [hM14]; exact mu_ne _ _ (by first | decide | omega)).trans q103_1_M12
            have q97_12_M14 : (M14 97 12 = M 97 12) := (show M14 97 12 = M12 97 12 by rw [hM14]; exact mu_ne _ _ (by first | decide | omega)).trans q97_12_M12
            have q97_17_M14 : (M14 97 17 = M 97 17) := (show M14 97 17 = M12 97 17 by rw [hM14]; exact mu_ne _ _ (by first | decide | omega)).trans q97_17_M12
            have q97_33_M14 : (M14 97 33 = M 97 33) := (show M14 97 33 = M12 97 33 by rw [hM14]; exact mu_ne _ _ (by first | decide | omega)).trans q97_33_M12
            have q97_10_M14 : (M14 97 10 = M 97 10) := (show M14 97 10 = M12 97 10 by rw [hM14]; exact mu_ne _ _ (by first | decide | omega)).trans q97_10_M12
            have q97_44_M14 : (M14 97 44 = M 97 44) := (show M14 97 44 = M12 97 44 by rw [hM14]; exact mu_ne _ _ (by first | decide | omega)).trans q97_44_M12
            have q97_1_M14 : (M14 97 1 = M 97 1) := (show M14 97 1 = M12 97 1 by rw [hM14]; exact mu_ne _ _ (by first | decide | omega)).trans q97_1_M12
            have wM14_97_1 : M14 97 1 = M12 97 1 := by rw [hM14]; exact mu_ne _ _ (by first | decide | omega)
            have xM14_97_0 : M14 97 0 = 0 := (show M14 97 0 = M12 97 0 by rw [hM14]; exact mu_ne _ _ (by first | decide | omega)).trans xM12_97_0
            have LM14 : Fr (fun c => c = 101) M1 M14 := Fr.wr LM12 hM14 rfl
            have uM14 : ∀ k : Nat, ¬ (4 * a.toNat ≤ k ∧ k < 4 * a.toNat + 4) → M14 101 k = M1 101 k := fun k hk => by rw [hM14, mu_ne _ _ (fun _ => by omega)]; exact uM12 k hk
            have zM14_0 : M14 101 (4 * a.toNat + 0) = 0 := by rw [hM14, mu_ne _ _ (fun _ => by omega)]; exact zM12_0
            have zM14_1 : M14 101 (4 * a.toNat + 1) = 0 := by rw [hM14, mu_ne _ _ (fun _ => by omega)]; exact zM12_1
            have zM14_2 : M14 101 (4 * a.toNat + 2) = 0 := by rw [hM14, mu_ne _ _ (fun _ => by omega)]; exact zM12_2
            have zM14_3 : M14 101 (4 * a.toNat + 3) = 0 := by rw [hM14, show 4 * a.toNat + 3 = (4 * a + 3).toNat by omega]; exact mu_at _ _ _ _
            have c98M14 : M14 98 = M 98 := (show M14 98 = M12 98 by rw [hM14]; exact mu_cell _ _ (by decide)).trans c98M12
            have c99M14 : M14 99 = M 99 := (show M14 99 = M12 99 by rw [hM14]; exact mu_cell _ _ (by decide)).trans c99M12
            refine g_iinc (pc' := 47) (L' := [(3, vi 4), (2, vi z6), (0, vr X 97), (1, vi a)]) 0 dX10_empty_44 rfl rfl (by decide) rfl ?_
            refine g_goto (tgt := 28) dX10_empty_47 rfl ?_
            refine g_iload_n (pc' := 29) 0 dX10_empty_28 rfl rfl ?_
            refine g_iconst (pc' := 30) dX10_empty_29 rfl ?_
            refine g_ic_ge (pc' := 33) (tgt := 50) (by decide) (by decide) dX10_empty_30 rfl rfl (fun c15 => ?_) (fun c15 => ?_)
            · refine g_aload_n (pc' := 51) 2 dX10_empty_50 rfl rfl ?_
              have hpw : PIw 100000000000000 (M14 101) := by
                refine PIw.empty (m := M1 101) (m' := M14 101) (g := a.toNat) iM1.2.1 (by omega) (fun s hs => ?_) uM14
                rcases (show s = 0 ∨ s = 1 ∨ s = 2 ∨ s = 3 by omega) with rfl | rfl | rfl | rfl
                · exact zM14_0
                · exact zM14_1
                · exact zM14_2
                · exact zM14_3
              refine g_callVv (pc' := 54) (As := []) (b := 97) (S := []) dX10_empty_51 rfl m_X10_127 w_X10_lessen (c_X10_lessen_x X M14 100000000000000 (by omega) hpw) rfl ⟨_, _, _, rfl, rfl, rfl⟩ (by decide) (by decide) rfl (Nat.le_of_ble_eq_true rfl) (fun M17 q16 => ?_)
              obtain ⟨flM17, plM17, lsM17⟩ := q16
              have iM17 : IM M17 := IM.parts (P := fun c => c = 101) iM1 (Fr.tr LM14 flM17 (fun c z => z)) (fun c hc => by omega) plM17
              have fM17 : Fr (fun c => c = 97 ∨ c = 98 ∨ c = 101) M M17 := Fr.tr fM14 flM17 (fun c z => by omega)
              have q99_0_M17 : M17 99 0 = M 99 0 := (congrFun (flM17 99 (by omega)) 0).trans q99_0_M14
              have q99_1_M17 : M17 99 1 = M 99 1 := (congrFun (flM17 99 (by omega)) 1).trans q99_1_M14
              have q99_2_M17 : M17 99 2 = M 99 2 := (congrFun (flM17 99 (by omega)) 2).trans q99_2_M14
              have q99_3_M17 : M17 99 3 = M 99 3 := (congrFun (flM17 99 (by omega)) 3).trans q99_3_M14
              have q100_0_M17 : M17 100 0 = M 100 0 := (congrFun (flM17 100 (by omega)) 0).trans q100_0_M14
              have q100_1_M17 : M17 100 1 = M 100 1 := (congrFun (flM17 100 (by omega)) 1).trans q100_1_M14
              have q100_2_M17 : M17 100 2 = M 100 2 := (congrFun (flM17 100 (by omega)) 2).trans q100_2_M14
              have q100_3_M17 : M17 100 3 = M 100 3 := (congrFun (flM17 100 (by omega)) 3).trans q100_3_M14
              have q100_49_M17 : M17 100 49 = M 100 49 := (congrFun (flM17 100 (by omega)) 49).trans q100_49_M14
              have q100_50_M17 : M17 100 50 = M 100 50 := (congrFun (flM17 100 (by omega)) 50).trans q100_50_M14
              have q100_51_M17 : M17 100 51 = M 100 51 := (congrFun (flM17 100 (by omega)) 51).trans q100_51_M14
              have q100_52_M17 : M17 100 52 = M 100 52 := (congrFun (flM17 100 (by omega)) 52).trans q100_52_M14
              have q103_0_M17 : M17 103 0 = M 103 0 := (congrFun (flM17 103 (by omega)) 0).trans q103_0_M14
              have q103_1_M17 : M17 103 1 = M 103 1 := (congrFun (flM17 103 (by omega)) 1).trans q103_1_M14
              have q97_12_M17 : M17 97 12 = M 97 12 := (congrFun (flM17 97 (by omega)) 12).trans q97_12_M14
              have q97_17_M17 : M17 97 17 = M 97 17 := (congrFun (flM17 97 (by omega)) 17).trans q97_17_M14
              have q97_33_M17 : M17 97 33 = M 97 33 := (congrFun (flM17 97 (by omega)) 33).trans q97_33_M14
              have q97_10_M17 : M17 97 10 = M 97 10 := (congrFun (flM17 97 (by omega)) 10).trans q97_10_M14
              have q97_44_M17 : M17 97 44 = M 97 44 := (congrFun (flM17 97 (by omega)) 44).trans q97_44_M14
              have q97_1_M17 : M17 97 1 = M 97 1 := (congrFun (flM17 97 (by omega)) 1).trans q97_1_M14
              have c98M17 : M17 98 = M 98 := (flM17 98 (by decide)).trans c98M14
              have c99M17 : M17 99 = M 99 := (flM17 99 (by decide)).trans c99M14
              refine g_aload_n (pc' := 55) 2 dX10_empty_54 rfl rfl ?_
              refine g_iload_n (pc' := 56) 1 dX10_empty_55 rfl rfl ?_
              refine g_callVi (pc' := 59) (As := [vi z6]) (b := 97) (S := []) dX10_empty_56 rfl m_X10_87 w_X10_tell (c_X10_tell_x X M17 iM17 z6 ⟨by omega, by omega⟩ (by omega)) rfl ⟨_, _, _, rfl, rfl, rfl⟩ (by decide) (by decide) rfl (Nat.le_of_ble_eq_true rfl) (fun z19 M20 q18 => ?_)
              obtain ⟨iM20, fM200, eM20_99_0, eM20_99_1, eM20_99_2, eM20_99_3, eM20_100_0, eM20_100_1, eM20_100_2, eM20_100_3, eM20_100_49, eM20_100_50, eM20_100_51, eM20_100_52, eM20_103_0, eM20_103_1, eM20_97_12, eM20_97_17, eM20_97_33, eM20_97_10, eM20_97_44, pM20⟩ := q18
              have fM20 : Fr (fun c => c = 97 ∨ c = 98 ∨ c = 101) M M20 := Fr.tr fM17 fM200 fi_31
              have q99_0_M20 : (M20 99 0 = M 99 0) := eM20_99_0.trans q99_0_M17
              have q99_1_M20 : (M20 99 1 = M 99 1) := eM20_99_1.trans q99_1_M17
              have q99_2_M20 : (M20 99 2 = M 99 2) := eM20_99_2.trans q99_2_M17
              have q99_3_M20 : (M20 99 3 = M 99 3) := eM20_99_3.trans q99_3_M17
              have q100_0_M20 : id (M20 100 0 = M 100 0) := eM20_100_0.trans q100_0_M17
              have q100_1_M20 : id (M20 100 1 = M 100 1) := eM20_100_1.trans q100_1_M17
              have q100_2_M20 : id (M20 100 2 = M 100 2) := eM20_100_2.trans q100_2_M17
              have q100_3_M20 : id (M20 100 3 = M 100 3) := eM20_100_3.trans q100_3_M17
              have q100_49_M20 : id (M20 100 49 = M 100 49) := eM20_100_49.trans q100_49_M17
              have q100_50_M20 : id (M20 100 50 = M 100 50) := eM20_100_50.trans q100_50_M17
              have q100_51_M20 : id (M20 100 51 = M 100 51) := eM20_100_51.trans q100_51_M17
              have q100_52_M20 : id (M20 100 52 = M 100 52) := eM20_100_52.trans q100_52_M17
              have q103_0_M20 : id (M20 103 0 = M 103 0) := eM20_103_0.trans q103_0_M17
              have q103_1_M20 : id (M20 103 1 = M 103 1) := eM20_103_1.trans q103_1_M17
              have q97_12_M20 : (M20 97 12 = M 97 12) := eM20_97_12.trans q97_12_M17
              have q97_17_M20 : (M20 97 17 = M 97 17) := eM20_97_17.trans q97_17_M17
              have q97_33_M20 : (M20 97 33 = M 97 33) := eM20_97_33.trans q97_33_M17
              have q97_10_M20 : (M20 97 10 = M 97 10) := eM20_97_10.trans q97_10_M17
              have q97_44_M20 : (M20 97 44 = M 97 44) := eM20_97_44.trans q97_44_M17
              clear eM20_100_0 eM20_100_1 eM20_100_2 eM20_100_3 eM20_100_49 eM20_100_50 eM20_100_51 eM20_100_52 eM20_103_0 eM20_103_1
              have c99M20 : M20 99 = M 99 := (fM200 99 (by decide)).trans c99M17
              obtain ⟨anM20, asM20, a98M20⟩ := pM20
              rw [c98M17] at a98M20
              subst anM20
              have e101 : M20 101 = M17 101 := fM200 101 (by decide)
              refine g_ireturn dX10_empty_59 ?_
              exact ⟨iM20, fM20, q99_0_M20, q99_1_M20, q99_2_M20, q99_3_M20, q100_0_M20, q100_1_M20, q100_2_M20, q100_3_M20, q100_49_M20, q100_50_M20, q100_51_M20, q100_52_M20, q103_0_M20, q103_1_M20, q97_12_M20, q97_17_M20, q97_33_M20, q97_10_M20, q97_44_M20, by omega, by rw [e101]; exact ⟨fun q => absurd (by omega) q, fun q => ⟨by rw [← flz6, cb101], M14 101, z4 (m := M 101) (by omega) zM14_0 zM14_1 zM14_2 zM14_3 (fun k hk => by rw [uM14 k hk, cb101]), lsM17⟩⟩, asM20, a98M20⟩
            · exact absurd c15 (by omega)
  · replace q2 := q2.resolve_left (fun h => absurd (c4.symm.trans h.1) (by decide))
    refine g_aload_n (pc' := 14) 0 dX10_empty_13 rfl rfl ?_
    refine g_bipush (pc' := 16) (v := (-2)) dX10_empty_14 rfl (by decide) ?_
    refine g_callVi (pc' := 19) (As := [vi (-2)]) (b := 97) (S := []) dX10_empty_16 rfl m_X10_87 w_X10_tell (c_X10_tell_x X M1 iM1 (-2) (by decide) (by omega)) rfl ⟨_, _, _, rfl, rfl, rfl⟩ (by decide) (by decide) rfl (Nat.le_of_ble_eq_true rfl) (fun z22 M23 q21 => ?_)
    obtain ⟨iM23, fM230, eM23_99_0, eM23_99_1, eM23_99_2, eM23_99_3, eM23_100_0, eM23_100_1, eM23_100_2, eM23_100_3, eM23_100_49, eM23_100_50, eM23_100_51, eM23_100_52, eM23_103_0, eM23_103_1, eM23_97_12, eM23_97_17, eM23_97_33, eM23_97_10, eM23_97_44, pM23⟩ := q21
    have fM23 : Fr (fun c => c = 97 ∨ c = 98 ∨ c = 101) M M23 := Fr.tr fM1 fM230 fi_31
    have q99_0_M23 : (M23 99 0 = M 99 0) := eM23_99_0.trans q99_0_M1
    have q99_1_M23 : (M23 99 1 = M 99 1) := eM23_99_1.trans q99_1_M1
    have q99_2_M23 : (M23 99 2 = M 99 2) := eM23_99_2.trans q99_2_M1
    have q99_3_M23 : (M23 99 3 = M 99 3) := eM23_99_3.trans q99_3_M1
    have q100_0_M23 : id (M23 100 0 = M 100 0) := eM23_100_0.trans q100_0_M1
    have q100_1_M23 : id (M23 100 1 = M 100 1) := eM23_100_1.trans q100_1_M1
    have q100_2_M23 : id (M23 100 2 = M 100 2) := eM23_100_2.trans q100_2_M1
    have q100_3_M23 : id (M23 100 3 = M 100 3) := eM23_100_3.trans q100_3_M1
    have q100_49_M23 : id (M23 100 49 = M 100 49) := eM23_100_49.trans q100_49_M1
    have q100_50_M23 : id (M23 100 50 = M 100 50) := eM23_100_50.trans q100_50_M1
    have q100_51_M23 : id (M23 100 51 = M 100 51) := eM23_100_51.trans q100_51_M1
    have q100_52_M23 : id (M23 100 52 = M 100 52) := eM23_100_52.trans q100_52_M1
    have q103_0_M23 : id (M23 103 0 = M 103 0) := eM23_103_0.trans q103_0_M1
    have q103_1_M23 : id (M23 103 1 = M 103 1) := eM23_103_1.trans q103_1_M1
    have q97_12_M23 : (M23 97 12 = M 97 12) := eM23_97_12.trans q97_12_M1
    have q97_17_M23 : (M23 97 17 = M 97 17) := eM23_97_17.trans q97_17_M1
    have q97_33_M23 : (M23 97 33 = M 97 33) := eM23_97_33.trans q97_33_M1
    have q97_10_M23 : (M23 97 10 = M 97 10) := eM23_97_10.trans q97_10_M1
    have q97_44_M23 : (M23 97 44 = M 97 44) := eM23_97_44.trans q97_44_M1
    clear eM23_100_0 eM23_100_1 eM23_100_2 eM23_100_3 eM23_100_49 eM23_100_50 eM23_100_51 eM23_100_52 eM23_103_0 eM23_103_1
    have c99M23 : M23 99 = M 99 := (fM230 99 (by decide)).trans c99M1
    have c101M23 : M23 101 = M 101 := (fM230 101 (by decide)).trans c101M1
    obtain ⟨anM23, asM23, a98M23⟩ := pM23
    rw [c98M1] at a98M23
    subst anM23
    have e101 : M23 101 = M1 101 := fM230 101 (by decide)
    refine g_ireturn dX10_empty_19 ?_
    exact ⟨iM23, fM23, q99_0_M23, q99_1_M23, q99_2_M23, q99_3_M23, q100_0_M23, q100_1_M23, q100_2_M23, q100_3_M23, q100_49_M23, q100_50_M23, q100_51_M23, q100_52_M23, q103_0_M23, q103_1_M23, q97_12_M23, q97_17_M23, q97_33_M23, q97_10_M23, q97_44_M23, by omega, by rw [(e101.trans c101M1)]; exact ⟨fun q => ⟨by omega, fun _ _ => rfl⟩, fun q => by omega⟩, asM23, a98M23⟩
set_option maxHeartbeats 4000000 in
set_option maxRecDepth 100000 in
theorem c_X10_glass_x (X : Cx) (M : Mm) (hi : IM M) (a : Int) (ha : inI a) : Con X 12 yX10_glass cX10_glass 3 (some .int) [vr X 97, vi a] M (Qi (fun r M1 => IM M1 ∧ Fr (fun c => c = 97 ∨ c = 98 ∨ c = 99) M M1 ∧ M1 99 1 = M 99 1 ∧ M1 99 2 = M 99 2 ∧ M1 99 3 = M 99 3 ∧ M1 100 0 = M 100 0 ∧ M1 100 1 = M 100 1 ∧ M1 100 2 = M 100 2 ∧ M1 100 3 = M 100 3 ∧ M1 100 49 = M 100 49 ∧ M1 100 50 = M 100 50 ∧ M1 100 51 = M 100 51 ∧ M1 100 52 = M 100 52 ∧ M1 103 0 = M 103 0 ∧ M1 103 1 = M 103 1 ∧ M1 97 12 = M 97 12 ∧ M1 97 17 = M 97 17 ∧ M1 97 33 = M 97 33 ∧ M1 97 10 = M 97 10 ∧ M1 97 44 = M 97 44 ∧ ((((a < 1 ∨ 60 < a) → r = -1 ∧ M1 99 0 = M 99 0) ∧ (1 ≤ a → a ≤ 60 → M 99 0 = 6 → r = -5 ∧ M1 99 0 = M 99 0) ∧ (1 ≤ a → a ≤ 60 → M 99 0 < 6 → r = M 99 0 ∧ M1 99 0 = M 99 0 + 1)) ∧ (¬ ((1 ≤ a ∧ a ≤ 60) ∧ M 99 0 < 6) → M1 99 = M 99) ∧ (((1 ≤ a ∧ a ≤ 60) ∧ M 99 0 < 6) → M1 99 = ms (ms (M 99) (4 + M 99 0).toNat a) 0 (M 99 0 + 1)) ∧ M1 97 1 = ngv r ∧ M1 98 = telF (M 98) r))) := by
  refine Con.ofG rfl (Nat.le_of_ble_eq_true rfl) ?_
  show G X 12 RX10 cX10_glass 3 (some .int) (Qi (fun r M1 => IM M1 ∧ Fr (fun c => c = 97 ∨ c = 98 ∨ c = 99) M M1 ∧ M1 99 1 = M 99 1 ∧ M1 99 2 = M 99 2 ∧ M1 99 3 = M 99 3 ∧ M1 100 0 = M 100 0 ∧ M1 100 1 = M 100 1 ∧ M1 100 2 = M 100 2 ∧ M1 100 3 = M 100 3 ∧ M1 100 49 = M 100 49 ∧ M1 100 50 = M 100 50 ∧ M1 100 51 = M 100 51 ∧ M1 100 52 = M 100 52 ∧ M1 103 0 = M 103 0 ∧ M1 103 1 = M 103 1 ∧ M1 97 12 = M 97 12 ∧ M1 97 17 = M 97 17 ∧ M1 97 33 = M 97 33 ∧ M1 97 10 = M 97 10 ∧ M1 97 44 = M 97 44 ∧ ((((a < 1 ∨ 60 < a) → r = -1 ∧ M1 99 0 = M 99 0) ∧ (1 ≤ a → a ≤ 60 → M 99 0 = 6 → r = -5 ∧ M1 99 0 = M 99 0) ∧ (1 ≤ a → a ≤ 60 → M 99 0 < 6 → r = M 99 0 ∧ M1 99 0 = M 99 0 + 1)) ∧ (¬ ((1 ≤ a ∧ a ≤ 60) ∧ M 99 0 < 6) → M1 99 = M 99) ∧ (((1 ≤ a ∧ a ≤ 60) ∧ M 99 0 < 6) → M1 99 = ms (ms (M 99) (4 + M 99 0).toNat a) 0 (M 99 0 + 1)) ∧ M1 97 1 = ngv r ∧ M1 98 = telF (M 98) r))) 0 [(0, vr X 97), (1, vi a)] [] M
  have p0 := hi.1.1
  have p1 := hi.1.2.1
  have p2 := hi.1.2.2.1
  have p3 := hi.1.2.2.2.1
  have p12 := hi.2.2.2.1
  refine g_aload_n (pc' := 1) 0 dX10_glass_0 rfl rfl ?_
  refine g_iconst (pc' := 2) dX10_glass_1 rfl ?_
  refine g_putI (pc' := 5) dX10_glass_2 rfl p_X10_77 rfl rfl (by decide) (fun M1 hM1 => ?_)
  have iM1 : IM M1 := IM.wr hi hM1 (by unfold okv; first | decide | omega)
  have fM1 : Fr (fun c => c = 97 ∨ c = 98 ∨ c = 99) M M1 := Fr.wr Fr.rf hM1 (by first | decide | omega | (dsimp only; omega))
  have q99_1_M1 : (M1 99 1 = M 99 1) := (show M1 99 1 = M 99 1 by rw [hM1]; exact mu_ne _ _ (by first | decide | omega))
  have q99_2_M1 : (M1 99 2 = M 99 2) := (show M1 99 2 = M 99 2 by rw [hM1]; exact mu_ne _ _ (by first | decide | omega))
  have q99_3_M1 : (M1 99 3 = M 99 3) := (show M1 99 3 = M 99 3 by rw [hM1]; exact mu_ne _ _ (by first | decide | omega))
  have q100_0_M1 : id (M1 100 0 = M 100 0) := (show M1 100 0 = M 100 0 by rw [hM1]; exact mu_ne _ _ (by first | decide | omega))
  have q100_1_M1 : id (M1 100 1 = M 100 1) := (show M1 100 1 = M 100 1 by rw [hM1]; exact mu_ne _ _ (by first | decide | omega))
  have q100_2_M1 : id (M1 100 2 = M 100 2) := (show M1 100 2 = M 100 2 by rw [hM1]; exact mu_ne _ _ (by first | decide | omega))
  have q100_3_M1 : id (M1 100 3 = M 100 3) := (show M1 100 3 = M 100 3 by rw [hM1]; exact mu_ne _ _ (by first | decide | omega))
  have q100_49_M1 : id (M1 100 49 = M 100 49) := (show M1 100 49 = M 100 49 by rw [hM1]; exact mu_ne _ _ (by first | decide | omega))
  have q100_50_M1 : id (M1 100 50 = M 100 50) := (show M1 100 50 = M 100 50 by rw [hM1]; exact mu_ne _ _ (by first | decide | omega))
  have q100_51_M1 : id (M1 100 51 = M 100 51) := (show M1 100 51 = M 100 51 by rw [hM1]; exact mu_ne _ _ (by first | decide | omega))
  have q100_52_M1 : id (M1 100 52 = M 100 52) := (show M1 100 52 = M 100 52 by rw [hM1]; exact mu_ne _ _ (by first | decide | omega))
  have q103_0_M1 : id (M1 103 0 = M 103 0) := (show M1 103 0 = M 103 0 by rw [hM1]; exact mu_ne _ _ (by first | decide | omega))
  have q103_1_M1 : id (M1 103 1 = M 103 1) := (show M1 103 1 = M 103 1 by rw [hM1]; exact mu_ne _ _ (by first | decide | omega))
  have q97_12_M1 : (M1 97 12 = M 97 12) := (show M1 97 12 = M 97 12 by rw [hM1]; exact mu_ne _ _ (by first | decide | omega))
  have q97_17_M1 : (M1 97 17 = M 97 17) := (show M1 97 17 = M 97 17 by rw [hM1]; exact mu_ne _ _ (by first | decide | omega))
  have q97_33_M1 : (M1 97 33 = M 97 33) := (show M1 97 33 = M 97 33 by rw [hM1]; exact mu_ne _ _ (by first | decide | omega))
  have q97_10_M1 : (M1 97 10 = M 97 10) := (show M1 97 10 = M 97 10 by rw [hM1]; exact mu_ne _ _ (by first | decide | omega))
  have q97_44_M1 : (M1 97 44 = M 97 44) := (show M1 97 44 = M 97 44 by rw [hM1]; exact mu_ne _ _ (by first | decide | omega))
  have q99_0_M1 : (M1 99 0 = M 99 0) := (show M1 99 0 = M 99 0 by rw [hM1]; exact mu_ne _ _ (by first | decide | omega))
  have q97_1_M1 : (M1 97 1 = M 97 1) := (show M1 97 1 = M 97 1 by rw [hM1]; exact mu_ne _ _ (by first | decide | omega))
  have wM1_99_0 : M1 99 0 = M 99 0 := by rw [hM1]; exact mu_ne _ _ (by first | decide | omega)
  have wM1_97_1 : M1 97 1 = M 97 1 := by rw [hM1]; exact mu_ne _ _ (by first | decide | omega)
  have xM1_97_0 : M1 97 0 = 0 := by rw [hM1]; exact mu_at _ _ _ _
  have c98M1 : M1 98 = M 98 := (by rw [hM1]; exact mu_cell _ _ (by decide))
  have c99M1 : M1 99 = M 99 := (by rw [hM1]; exact mu_cell _ _ (by decide))
  have c101M1 : M1 101 = M 101 := (by rw [hM1]; exact mu_cell _ _ (by decide))
  refine g_iload_n (pc' := 6) 1 dX10_glass_5 rfl rfl ?_
  refine g_callSip (pc' := 9) (As := [vi a]) (S := []) dX10_glass_6 rfl m_X10_95 w_X10_isAmount (c_X10_isAmount X M1 a ha) rfl (by decide) (by decide) rfl (Nat.le_of_ble_eq_true rfl) (fun z3 q2 => ?_)
  refine g_if_ne (pc' := 12) (tgt := 18) ⟨by omega, by omega⟩ dX10_glass_9 rfl rfl (fun c4 => ?_) (fun c4 => ?_)
  · replace q2 := q2.resolve_right (fun h => c4 h.1)
    refine g_aload_n (pc' := 19) 0 dX10_glass_18 rfl rfl ?_
    refine g_getR (pc' := 22) dX10_glass_19 rfl f_X10_13 rfl rfl ?_
    refine g_iconst (pc' := 23) dX10_glass_22 rfl ?_
    refine g_iald (pc' := 24) dX10_glass_23 rfl rfl (by decide) (by decide) (fun v5 ev5 rv5 => ?_)
    have ev5 : v5 = M1 99 0 := ev5
    have bv5 : 0 ≤ v5 ∧ v5 ≤ 6 := by rw [ev5]; exact iM1.1.1
    have av5 : v5 = M 99 0 := ev5.trans q99_0_M1
    refine g_istore_n (pc' := 25) (i := 2) (L' := [(2, vi v5), (0, vr X 97), (1, vi a)]) dX10_glass_24 rfl rfl (by decide) rfl ?_
    refine g_iload_n (pc' := 26) 0 dX10_glass_25 rfl rfl ?_
    refine g_bipush (pc' := 28) (v := 6) dX10_glass_26 rfl (by decide) ?_
    refine g_ic_ne (pc' := 31) (tgt := 38) rv5 (by decide) dX10_glass_28 rfl rfl (fun c6 => ?_) (fun c6 => ?_)
    · refine g_aload_n (pc' := 39) 1 dX10_glass_38 rfl rfl ?_
      refine g_getR (pc' := 42) dX10_glass_39 rfl f_X10_13 rfl rfl ?_
      refine g_iconst (pc' := 43) dX10_glass_42 rfl ?_
      refine g_iload_n (pc' := 44) 0 dX10_glass_43 rfl rfl ?_
      refine g_iadd (pc' := 45) dX10_glass_44 rfl ?_
      refine g_iload_n (pc' := 46) 2 dX10_glass_45 rfl rfl ?_
      refine g_iast (pc' := 47) dX10_glass_46 rfl rfl (by omega) (by omega) ha (fun M7 hM7 => ?_)
      have iM7 : IM M7 := IM.wrow iM1 hM7 (by unfold okrow; omega)
      have fM7 : Fr (fun c => c = 97 ∨ c = 98 ∨ c = 99) M M7 := Fr.wr fM1 hM7 (by first | decide | omega | (dsimp only; omega))
      have q99_1_M7 : (M7 99 1 = M 99 1) := (show M7 99 1 = M1 99 1 by rw [hM7]; exact mu_ne _ _ (by first | decide | omega)).trans q99_1_M1
      have q99_2_M7 : (M7 99 2 = M 99 2) := (show M7 99 2 = M1 99 2 by rw [hM7]; exact mu_ne _ _ (by first | decide | omega)).trans q99_2_M1
      have q99_3_M7 : (M7 99 3 = M 99 3) := (show M7 99 3 = M1 99 3 by rw [hM7]; exact mu_ne _ _ (by first | decide | omega)).trans q99_3_M1
      have q100_0_M7 : id (M7 100 0 = M 100 0) := (show M7 100 0 = M1 100 0 by rw [hM7]; exact mu_ne _ _ (by first | decide | omega)).trans q100_0_M1
      have q100_1_M7 : id (M7 100 1 = M 100 1) := (show M7 100 1 = M1 100 1 by rw [hM7]; exact mu_ne _ _ (by first | decide | omega)).trans q100_1_M1
      have q100_2_M7 : id (M7 100 2 = M 100 2) := (show M7 100 2 = M1 100 2 by rw [hM7]; exact mu_ne _ _ (by first | decide | omega)).trans q100_2_M1
      have q100_3_M7 : id (M7 100 3 = M 100 3) := (show M7 100 3 = M1 100 3 by rw [hM7]; exact mu_ne _ _ (by first | decide | omega)).trans q100_3_M1
      have q100_49_M7 : id (M7 100 49 = M 100 49) := (show M7 100 49 = M1 100 49 by rw [hM7]; exact mu_ne _ _ (by first | decide | omega)).trans q100_49_M1
      have q100_50_M7 : id (M7 100 50 = M 100 50) := (show M7 100 50 = M1 100 50 by rw [hM7]; exact mu_ne _ _ (by first | decide | omega)).trans q100_50_M1
      have q100_51_M7 : id (M7 100 51 = M 100 51) := (show M7 100 51 = M1 100 51 by rw [hM7]; exact mu_ne _ _ (by first | decide | omega)).trans q100_51_M1
      have q100_52_M7 : id (M7 100 52 = M 100 52) := (show M7 100 52 = M1 100 52 by rw [hM7]; exact mu_ne _ _ (by first | decide | omega)).trans q100_52_M1
      have q103_0_M7 : id (M7 103 0 = M 103 0) := (show M7 103 0 = M1 103 0 by rw [hM7]; exact mu_ne _ _ (by first | decide | omega)).trans q103_0_M1
      have q103_1_M7 : id (M7 103 1 = M 103 1) := (show M7 103 1 = M1 103 1 by rw [hM7]; exact mu_ne _ _ (by first | decide | omega)).trans q103_1_M1
      have q97_12_M7 : (M7 97 12 = M 97 12) := (show M7 97 12 = M1 97 12 by rw [hM7]; exact mu_ne _ _ (by first | decide | omega)).trans q97_12_M1
      have q97_17_M7 : (M7 97 17 = M 97 17) := (show M7 97 17 = M1 97 17 by rw [hM7]; exact mu_ne _ _ (by first | decide | omega)).trans q97_17_M1
      have q97_33_M7 : (M7 97 33 = M 97 33) := (show M7 97 33 = M1 97 33 by rw [hM7]; exact mu_ne _ _ (by first | decide | omega)).trans q97_33_M1
      have q97_10_M7 : (M7 97 10 = M 97 10) := (show M7 97 10 = M1 97 10 by rw [hM7]; exact mu_ne _ _ (by first | decide | omega)).trans q97_10_M1
      have q97_44_M7 : (M7 97 44 = M 97 44) := (show M7 97 44 = M1 97 44 by rw [hM7]; exact mu_ne _ _ (by first | decide | omega)).trans q97_44_M1
      have q99_0_M7 : (M7 99 0 = M 99 0) := (show M7 99 0 = M1 99 0 by rw [hM7]; exact mu_ne _ _ (by first | decide | omega)).trans q99_0_M1
      have q97_1_M7 : (M7 97 1 = M 97 1) := (show M7 97 1 = M1 97 1 by rw [hM7]; exact mu_ne _ _ (by first | decide | omega)).trans q97_1_M1
      have wM7_99_0 : M7 99 0 = M1 99 0 := by rw [hM7]; exact mu_ne _ _ (by first | decide | omega)
      have wM7_97_1 : M7 97 1 = M1 97 1 := by rw [hM7]; exact mu_ne _ _ (by first | decide | omega)
      have xM7_97_0 : M7 97 0 = 0 := (show M7 97 0 = M1 97 0 by rw [hM7]; exact mu_ne _ _ (by first | decide | omega)).trans xM1_97_0
      have c98M7 : M7 98 = M 98 := (show M7 98 = M1 98 by rw [hM7]; exact mu_cell _ _ (by decide)).trans c98M1
      have c99M7 : M7 99 = ms (M 99) ((4 + v5).toNat) a := by rw [hM7, mu_is, c99M1]
      have c101M7 : M7 101 = M 101 := (show M7 101 = M1 101 by rw [hM7]; exact mu_cell _ _ (by decide)).trans c101M1
      refine g_aload_n (pc' := 48) 1 dX10_glass_47 rfl rfl ?_
      refine g_getR (pc' := 51) dX10_glass_48 rfl f_X10_13 rfl rfl ?_
      refine g_iconst (pc' := 52) dX10_glass_51 rfl ?_
      refine g_dup2_11 (pc' := 53) dX10_glass_52 rfl rfl rfl ?_
      refine g_iald (pc' := 54) dX10_glass_53 rfl rfl (by decide) (by decide) (fun v8 ev8 rv8 => ?_)
      have ev8 : v8 = M7 99 0 := ev8
      have bv8 : 0 ≤ v8 ∧ v8 ≤ 6 := by rw [ev8]; exact iM7.1.1
      have av8 : v8 = M 99 0 := ev8.trans q99_0_M7
      obtain rfl : v5 = v8 := av5.trans av8.symm
      refine g_iconst (pc' := 55) dX10_glass_54 rfl ?_
      refine g_iadd (pc' := 56) dX10_glass_55 rfl ?_
      refine g_iast (pc' := 57) dX10_glass_56 rfl rfl (by decide) (by decide) ⟨by omega, by omega⟩ (fun M9 hM9 => ?_)
      have hM9 : M9 = mu M7 99 0 (v5 + 1) := hM9
      have iM9 : IM M9 := IM.wrow iM7 hM9 (by unfold okrow; omega)
      have fM9 : Fr (fun c => c = 97 ∨ c = 98 ∨ c = 99) M M9 := Fr.wr fM7 hM9 (by first | decide | omega | (dsimp only; omega))
      have q99_1_M9 : (M9 99 1 = M 99 1) := (show M9 99 1 = M7 99 1 by rw [hM9]; exact mu_ne _ _ (by first | decide | omega)).trans q99_1_M7
      have q99_2_M9 : (M9 99 2 = M 99 2) := (show M9 99 2 = M7 99 2 by rw [hM9]; exact mu_ne _ _ (by first | decide | omega)).trans q99_2_M7
      have q99_3_M9 : (M9 99 3 = M 99 3) := (show M9 99 3 = M7 99 3 by rw [hM9]; exact mu_ne _ _ (by first | decide | omega)).trans q99_3_M7
      have q100_0_M9 : id (M9 100 0 = M 100 0) := (show M9 100 0 = M7 100 0 by rw [hM9]; exact mu_ne _ _ (by first | decide | omega)).trans q100_0_M7
      have q100_1_M9 : id (M9 100 1 = M 100 1) := (show M9 100 1 = M7 100 1 by rw [hM9]; exact mu_ne _ _ (by first | decide | omega)).trans q100_1_M7
      have q100_2_M9 : id (M9 100 2 = M 100 2) := (show M9 100 2 = M7 100 2 by rw [hM9]; exact mu_ne _ _ (by first | decide | omega)).trans q100_2_M7
      have q100_3_M9 : id (M9 100 3 = M 100 3) := (show M9 100 3 = M7 100 3 by rw [hM9]; exact mu_ne _ _ (by first | decide | omega)).trans q100_3_M7
      have q100_49_M9 : id (M9 100 49 = M 100 49) := (show M9 100 49 = M7 100 49 by rw [hM9]; exact mu_ne _ _ (by first | decide | omega)).trans q100_49_M7
      have q100_50_M9 : id (M9 100 50 = M 100 50) := (show M9 100 50 = M7 100 50 by rw [hM9]; exact mu_ne _ _ (by first | decide | omega)).trans q100_50_M7
      have q100_51_M9 : id (M9 100 51 = M 100 51) := (show M9 100 51 = M7 100 51 by rw [hM9]; exact mu_ne _ _ (by first | decide | omega)).trans q100_51_M7
      have q100_52_M9 : id (M9 100 52 = M 100 52) := (show M9 100 52 = M7 100 52 by rw [hM9]; exact mu_ne _ _ (by first | decide | omega)).trans q100_52_M7
      have q103_0_M9 : id (M9 103 0 = M 103 0) := (show M9 103 0 = M7 103 0 by rw [hM9]; exact mu_ne _ _ (by first | decide | omega)).trans q103_0_M7
      have q103_1_M9 : id (M9 103 1 = M 103 1) := (show M9 103 1 = M7 103 1 by rw [hM9]; exact mu_ne _ _ (by first | decide | omega)).trans q103_1_M7
      have q97_12_M9 : (M9 97 12 = M 97 12) := (show M9 97 12 = M7 97 12 by rw [hM9]; exact mu_ne _ _ (by first | decide | omega)).trans q97_12_M7
      have q97_17_M9 : (M9 97 17 = M 97 17) := (show M9 97 17 = M7 97 17 by rw [hM9]; exact mu_ne _ _ (by first | decide | omega)).trans q97_17_M7
      have q97_33_M9 : (M9 97 33 = M 97 33) := (show M9 97 33 = M7 97 33 by rw [hM9]; exact mu_ne _ _ (by first | decide | omega)).trans q97_33_M7
      have q97_10_M9 : (M9 97 10 = M 97 10) := (show M9 97 10 = M7 97 10 by rw [hM9]; exact mu_ne _ _ (by first | decide | omega)).trans q97_10_M7
      have q97_44_M9 : (M9 97 44 = M 97 44) := (show M9 97 44 = M7 97 44 by rw [hM9]; exact mu_ne _ _ (by first | decide | omega)).trans q97_44_M7
      have q97_1_M9 : (M9 97 1 = M 97 1) := (show M9 97 1 = M7 97 1 by rw [hM9]; exact mu_ne _ _ (by first | decide | omega)).trans q97_1_M7
      have wM9_97_1 : M9 97 1 = M7 97 1 := by rw [hM9]; exact mu_ne _ _ (by first | decide | omega)
      have xM9_97_0 : M9 97 0 = 0 := (show M9 97 0 = M7 97 0 by rw [hM9]; exact mu_ne _ _ (by first | decide | omega)).trans xM7_97_0
      have xM9_99_0 : M9 99 0 = v5 + 1 := by rw [hM9]; exact mu_at _ _ _ _
      have c98M9 : M9 98 = M 98 := (show M9 98 = M7 98 by rw [hM9]; exact mu_cell _ _ (by decide)).trans c98M7
      have c99M9 : M9 99 = ms (ms (M 99) ((4 + v5).toNat) a) 0 (v5 + 1) := by rw [hM9, mu_is, c99M7]
      have c101M9 : M9 101 = M 101 := (show M9 101 = M7 101 by rw [hM9]; exact mu_cell _ _ (by decide)).trans c101M7
      refine g_aload_n (pc' := 58) 1 dX10_glass_57 rfl rfl ?_
      refine g_iload_n (pc' := 59) 0 dX10_glass_58 rfl rfl ?_
      refine g_callVi (pc' := 62) (As := [vi v5]) (b := 97) (S := []) dX10_glass_59 rfl m_X10_87 w_X10_tell (c_X10_tell_x X M9 iM9 v5 rv5 (by omega)) rfl ⟨_, _, _, rfl, rfl, rfl⟩ (by decide) (by decide) rfl (Nat.le_of_ble_eq_true rfl) (fun z11 M12 q10 => ?_)
      obtain ⟨iM12, fM120, eM12_99_0, eM12_99_1, eM12_99_2, eM12_99_3, eM12_100_0, eM12_100_1, eM12_100_2, eM12_100_3, eM12_100_49, eM12_100_50, eM12_100_51, eM12_100_52, eM12_103_0, eM12_103_1, eM12_97_12, eM12_97_17, eM12_97_33, eM12_97_10, eM12_97_44, pM12⟩ := q10
      have fM12 : Fr (fun c => c = 97 ∨ c = 98 ∨ c = 99) M M12 := Fr.tr fM9 fM120 fi_30
      have q99_1_M12 : (M12 99 1 = M 99 1) := eM12_99_1.trans q99_1_M9
      have q99_2_M12 : (M12 99 2 = M 99 2) := eM12_99_2.trans q99_2_M9
      have q99_3_M12 : (M12 99 3 = M 99 3) := eM12_99_3.trans q99_3_M9
      have q100_0_M12 : id (M12 100 0 = M 100 0) := eM12_100_0.trans q100_0_M9
      have q100_1_M12 : id (M12 100 1 = M 100 1) := eM12_100_1.trans q100_1_M9
      have q100_2_M12 : id (M12 100 2 = M 100 2) := eM12_100_2.trans q100_2_M9
      have q100_3_M12 : id (M12 100 3 = M 100 3) := eM12_100_3.trans q100_3_M9
      have q100_49_M12 : id (M12 100 49 = M 100 49) := eM12_100_49.trans q100_49_M9
      have q100_50_M12 : id (M12 100 50 = M 100 50) := eM12_100_50.trans q100_50_M9
      have q100_51_M12 : id (M12 100 51 = M 100 51) := eM12_100_51.trans q100_51_M9
      have q100_52_M12 : id (M12 100 52 = M 100 52) := eM12_100_52.trans q100_52_M9
      have q103_0_M12 : id (M12 103 0 = M 103 0) := eM12_103_0.trans q103_0_M9
      have q103_1_M12 : id (M12 103 1 = M 103 1) := eM12_103_1.trans q103_1_M9
      have q97_12_M12 : (M12 97 12 = M 97 12) := eM12_97_12.trans q97_12_M9
      have q97_17_M12 : (M12 97 17 = M 97 17) := eM12_97_17.trans q97_17_M9
      have q97_33_M12 : (M12 97 33 = M 97 33) := eM12_97_33.trans q97_33_M9
      have q97_10_M12 : (M12 97 10 = M 97 10) := eM12_97_10.trans q97_10_M9
      have q97_44_M12 : (M12 97 44 = M 97 44) := eM12_97_44.trans q97_44_M9
      have wM12_99_0 : M12 99 0 = M9 99 0 := eM12_99_0
      have xM12_99_0 : M12 99 0 = v5 + 1 := eM12_99_0.trans xM9_99_0
      clear eM12_100_0 eM12_100_1 eM12_100_2 eM12_100_3 eM12_100_49 eM12_100_50 eM12_100_51 eM12_100_52 eM12_103_0 eM12_103_1
      obtain ⟨anM12, asM12, a98M12⟩ := pM12
      rw [c98M9] at a98M12
      subst anM12
      have e99 := (fM120 99 (by decide)).trans c99M9
      refine g_ireturn dX10_glass_62 ?_
      exact ⟨iM12, fM12, q99_1_M12, q99_2_M12, q99_3_M12, q100_0_M12, q100_1_M12, q100_2_M12, q100_3_M12, q100_49_M12, q100_50_M12, q100_51_M12, q100_52_M12, q103_0_M12, q103_1_M12, q97_12_M12, q97_17_M12, q97_33_M12, q97_10_M12, q97_44_M12, by omega, fun q => absurd (by omega) q, fun q => by rw [e99]; congr 2 <;> first | omega | (congr 1; omega) | (congr 2; omega), asM12, a98M12⟩
    · refine g_aload_n (pc' := 32) 1 dX10_glass_31 rfl rfl ?_
      refine g_bipush (pc' := 34) (v := (-5)) dX10_glass_32 rfl (by decide) ?_
      refine g_callVi (pc' := 37) (As := [vi (-5)]) (b := 97) (S := []) dX10_glass_34 rfl m_X10_87 w_X10_tell (c_X10_tell_x X M1 iM1 (-5) (by decide) (by omega)) rfl ⟨_, _, _, rfl, rfl, rfl⟩ (by decide) (by decide) rfl (Nat.le_of_ble_eq_true rfl) (fun z14 M15 q13 => ?_)
      obtain ⟨iM15, fM150, eM15_99_0, eM15_99_1, eM15_99_2, eM15_99_3, eM15_100_0, eM15_100_1, eM15_100_2, eM15_100_3, eM15_100_49, eM15_100_50, eM15_100_51, eM15_100_52, eM15_103_0, eM15_103_1, eM15_97_12, eM15_97_17, eM15_97_33, eM15_97_10, eM15_97_44, pM15⟩ := q13
      have fM15 : Fr (fun c => c = 97 ∨ c = 98 ∨ c = 99) M M15 := Fr.tr fM1 fM150 fi_30
      have q99_1_M15 : (M15 99 1 = M 99 1) := eM15_99_1.trans q99_1_M1
      have q99_2_M15 : (M15 99 2 = M 99 2) := eM15_99_2.trans q99_2_M1
      have q99_3_M15 : (M15 99 3 = M 99 3) := eM15_99_3.trans q99_3_M1
      have q100_0_M15 : id (M15 100 0 = M 100 0) := eM15_100_0.trans q100_0_M1
      have q100_1_M15 : id (M15 100 1 = M 100 1) := eM15_100_1.trans q100_1_M1
      have q100_2_M15 : id (M15 100 2 = M 100 2) := eM15_100_2.trans q100_2_M1
      have q100_3_M15 : id (M15 100 3 = M 100 3) := eM15_100_3.trans q100_3_M1
      have q100_49_M15 : id (M15 100 49 = M 100 49) := eM15_100_49.trans q100_49_M1
      have q100_50_M15 : id (M15 100 50 = M 100 50) := eM15_100_50.trans q100_50_M1
      have q100_51_M15 : id (M15 100 51 = M 100 51) := eM15_100_51.trans q100_51_M1
      have q100_52_M15 : id (M15 100 52 = M 100 52) := eM15_100_52.trans q100_52_M1
      have q103_0_M15 : id (M15 103 0 = M 103 0) := eM15_103_0.trans q103_0_M1
      have q103_1_M15 : id (M15 103 1 = M 103 1) := eM15_103_1.trans q103_1_M1
      have q97_12_M15 : (M15 97 12 = M 97 12) := eM15_97_12.trans q97_12_M1
      have q97_17_M15 : (M15 97 17 = M 97 17) := eM15_97_17.trans q97_17_M1
      have q97_33_M15 : (M15 97 33 = M 97 33) := eM15_97_33.trans q97_33_M1
      have q97_10_M15 : (M15 97 10 = M 97 10) := eM15_97_10.trans q97_10_M1
      have q97_44_M15 : (M15 97 44 = M 97 44) := eM15_97_44.trans q97_44_M1
      have q99_0_M15 : (M15 99 0 = M 99 0) := eM15_99_0.trans q99_0_M1
      have wM15_99_0 : M15 99 0 = M1 99 0 := eM15_99_0
      clear eM15_100_0 eM15_100_1 eM15_100_2 eM15_100_3 eM15_100_49 eM15_100_50 eM15_100_51 eM15_100_52 eM15_103_0 eM15_103_1
      obtain ⟨anM15, asM15, a98M15⟩ := pM15
      rw [c98M1] at a98M15
      subst anM15
      have e99 := (fM150 99 (by decide)).trans c99M1
      refine g_ireturn dX10_glass_37 ?_
      exact ⟨iM15, fM15, q99_1_M15, q99_2_M15, q99_3_M15, q100_0_M15, q100_1_M15, q100_2_M15, q100_3_M15, q100_49_M15, q100_50_M15, q100_51_M15, q100_52_M15, q103_0_M15, q103_1_M15, q97_12_M15, q97_17_M15, q97_33_M15, q97_10_M15, q97_44_M15, by omega, fun _ => e99, fun q => absurd q (by omega), asM15, a98M15⟩
  · replace q2 := q2.resolve_left (fun h => absurd (c4.symm.trans h.1) (by decide))
    refine g_aload_n (pc' := 13) 0 dX10_glass_12 rfl rfl ?_
    refine g_iconst (pc' := 14) dX10_glass_13 rfl ?_
    refine g_callVi (pc' := 17) (As := [vi (-1)]) (b := 97) (S := []) dX10_glass_14 rfl m_X10_87 w_X10_tell (c_X10_tell_x X M1 iM1 (-1) (by decide) (by omega)) rfl ⟨_, _, _, rfl, rfl, rfl⟩ (by decide) (by decide) rfl (Nat.le_of_ble_eq_true rfl) (fun z17 M18 q16 => ?_)
    obtain ⟨iM18, fM180, eM18_99_0, eM18_99_1, eM18_99_2, eM18_99_3, eM18_100_0, eM18_100_1, eM18_100_2, eM18_100_3, eM18_100_49, eM18_100_50, eM18_100_51, eM18_100_52, eM18_103_0, eM18_103_1, eM18_97_12, eM18_97_17, eM18_97_33, eM18_97_10, eM18_97_44, pM18⟩ := q16
    have fM18 : Fr (fun c => c = 97 ∨ c = 98 ∨ c = 99) M M18 := Fr.tr fM1 fM180 fi_30
    have q99_1_M18 : (M18 99 1 = M 99 1) := eM18_99_1.trans q99_1_M1
    have q99_2_M18 : (M18 99 2 = M 99 2) := eM18_99_2.trans q99_2_M1
    have q99_3_M18 : (M18 99 3 = M 99 3) := eM18_99_3.trans q99_3_M1
    have q100_0_M18 : id (M18 100 0 = M 100 0) := eM18_100_0.trans q100_0_M1
    have q100_1_M18 : id (M18 100 1 = M 100 1) := eM18_100_1.trans q100_1_M1
    have q100_2_M18 : id (M18 100 2 = M 100 2) := eM18_100_2.trans q100_2_M1
    have q100_3_M18 : id (M18 100 3 = M 100 3) := eM18_100_3.trans q100_3_M1
    have q100_49_M18 : id (M18 100 49 = M 100 49) := eM18_100_49.trans q100_49_M1
    have q100_50_M18 : id (M18 100 50 = M 100 50) := eM18_100_50.trans q100_50_M1
    have q100_51_M18 : id (M18 100 51 = M 100 51) := eM18_100_51.trans q100_51_M1
    have q100_52_M18 : id (M18 100 52 = M 100 52) := eM18_100_52.trans q100_52_M1
    have q103_0_M18 : id (M18 103 0 = M 103 0) := eM18_103_0.trans q103_0_M1
    have q103_1_M18 : id (M18 103 1 = M 103 1) := eM18_103_1.trans q103_1_M1
    have q97_12_M18 : (M18 97 12 = M 97 12) := eM18_97_12.trans q97_12_M1
    have q97_17_M18 : (M18 97 17 = M 97 17) := eM18_97_17.trans q97_17_M1
    have q97_33_M18 : (M18 97 33 = M 97 33) := eM18_97_33.trans q97_33_M1
    have q97_10_M18 : (M18 97 10 = M 97 10) := eM18_97_10.trans q97_10_M1
    have q97_44_M18 : (M18 97 44 = M 97 44) := eM18_97_44.trans q97_44_M1
    have q99_0_M18 : (M18 99 0 = M 99 0) := eM18_99_0.trans q99_0_M1
    have wM18_99_0 : M18 99 0 = M1 99 0 := eM18_99_0
    clear eM18_100_0 eM18_100_1 eM18_100_2 eM18_100_3 eM18_100_49 eM18_100_50 eM18_100_51 eM18_100_52 eM18_103_0 eM18_103_1
    obtain ⟨anM18, asM18, a98M18⟩ := pM18
    rw [c98M1] at a98M18
    subst anM18
    have e99 := (fM180 99 (by decide)).trans c99M1
    refine g_ireturn dX10_glass_17 ?_
    exact ⟨iM18, fM18, q99_1_M18, q99_2_M18, q99_3_M18, q100_0_M18, q100_1_M18, q100_2_M18, q100_3_M18, q100_49_M18, q100_50_M18, q100_51_M18, q100_52_M18, q103_0_M18, q103_1_M18, q97_12_M18, q97_17_M18, q97_33_M18, q97_10_M18, q97_44_M18, by omega, fun _ => e99, fun q => absurd q (by omega), asM18, a98M18⟩
set_option maxHeartbeats 4000000 in
set_option maxRecDepth 100000 in
theorem c_X10_of_x (X : Cx) (M : Mm) (hi : IM M) (a : Int) (ha : inI a) (b : Int) (hb : inI b) : Con X 12 yX10_of cX10_of 3 (some .int) [vr X 97, vi a, vi b] M (Qi (fun r M1 => IM M1 ∧ Fr (fun c => c = 97) M M1 ∧ M1 99 0 = M 99 0 ∧ M1 99 1 = M 99 1 ∧ M1 99 2 = M 99 2 ∧ M1 99 3 = M 99 3 ∧ M1 100 0 = M 100 0 ∧ M1 100 1 = M 100 1 ∧ M1 100 2 = M 100 2 ∧ M1 100 3 = M 100 3 ∧ M1 100 49 = M 100 49 ∧ M1 100 50 = M 100 50 ∧ M1 100 51 = M 100 51 ∧ M1 100 52 = M 100 52 ∧ M1 103 0 = M 103 0 ∧ M1 103 1 = M 103 1 ∧ M1 97 12 = M 97 12 ∧ M1 97 17 = M 97 17 ∧ M1 97 33 = M 97 33 ∧ M1 97 10 = M 97 10 ∧ M1 97 44 = M 97 44 ∧ M1 97 1 = M 97 1 ∧ ((((0 ≤ a ∧ a < M 99 0) ∧ b = 0) → r = M 99 (4 + a.toNat)) ∧ (((0 ≤ a ∧ a < M 99 0) ∧ b = 1) → r = flm (M 101) a.toNat) ∧ (¬ ((0 ≤ a ∧ a < M 99 0) ∧ (b = 0 ∨ b = 1)) → r = -1)))) := by
  refine Con.ofG rfl (Nat.le_of_ble_eq_true rfl) ?_
  show G X 12 RX10 cX10_of 3 (some .int) (Qi (fun r M1 => IM M1 ∧ Fr (fun c => c = 97) M M1 ∧ M1 99 0 = M 99 0 ∧ M1 99 1 = M 99 1 ∧ M1 99 2 = M 99 2 ∧ M1 99 3 = M 99 3 ∧ M1 100 0 = M 100 0 ∧ M1 100 1 = M 100 1 ∧ M1 100 2 = M 100 2 ∧ M1 100 3 = M 100 3 ∧ M1 100 49 = M 100 49 ∧ M1 100 50 = M 100 50 ∧ M1 100 51 = M 100 51 ∧ M1 100 52 = M 100 52 ∧ M1 103 0 = M 103 0 ∧ M1 103 1 = M 103 1 ∧ M1 97 12 = M 97 12 ∧ M1 97 17 = M 97 17 ∧ M1 97 33 = M 97 33 ∧ M1 97 10 = M 97 10 ∧ M1 97 44 = M 97 44 ∧ M1 97 1 = M 97 1 ∧ ((((0 ≤ a ∧ a < M 99 0) ∧ b = 0) → r = M 99 (4 + a.toNat)) ∧ (((0 ≤ a ∧ a < M 99 0) ∧ b = 1) → r = flm (M 101) a.toNat) ∧ (¬ ((0 ≤ a ∧ a < M 99 0) ∧ (b = 0 ∨ b = 1)) → r = -1)))) 0 [(0, vr X 97), (1, vi a), (2, vi b)] [] M
  have p0 := hi.1.1
  have p1 := hi.1.2.1
  have p2 := hi.1.2.2.1
  have p3 := hi.1.2.2.2.1
  have p12 := hi.2.2.2.1
  refine g_aload_n (pc' := 1) 0 dX10_of_0 rfl rfl ?_
  refine g_iconst (pc' := 2) dX10_of_1 rfl ?_
  refine g_putI (pc' := 5) dX10_of_2 rfl p_X10_77 rfl rfl (by decide) (fun M1 hM1 => ?_)
  have iM1 : IM M1 := IM.wr hi hM1 (by unfold okv; first | decide | omega)
  have fM1 : Fr (fun c => c = 97) M M1 := Fr.wr Fr.rf hM1 (by first | decide | omega | (dsimp only; omega))
  have q99_0_M1 : (M1 99 0 = M 99 0) := (show M1 99 0 = M 99 0 by rw [hM1]; exact mu_ne _ _ (by first | decide | omega))
  have q99_1_M1 : (M1 99 1 = M 99 1) := (show M1 99 1 = M 99 1 by rw [hM1]; exact mu_ne _ _ (by first | decide | omega))
  have q99_2_M1 : (M1 99 2 = M 99 2) := (show M1 99 2 = M 99 2 by rw [hM1]; exact mu_ne _ _ (by first | decide | omega))
  have q99_3_M1 : (M1 99 3 = M 99 3) := (show M1 99 3 = M 99 3 by rw [hM1]; exact mu_ne _ _ (by first | decide | omega))
  have q100_0_M1 : id (M1 100 0 = M 100 0) := (show M1 100 0 = M 100 0 by rw [hM1]; exact mu_ne _ _ (by first | decide | omega))
  have q100_1_M1 : id (M1 100 1 = M 100 1) := (show M1 100 1 = M 100 1 by rw [hM1]; exact mu_ne _ _ (by first | decide | omega))
  have q100_2_M1 : id (M1 100 2 = M 100 2) := (show M1 100 2 = M 100 2 by rw [hM1]; exact mu_ne _ _ (by first | decide | omega))
  have q100_3_M1 : id (M1 100 3 = M 100 3) := (show M1 100 3 = M 100 3 by rw [hM1]; exact mu_ne _ _ (by first | decide | omega))
  have q100_49_M1 : id (M1 100 49 = M 100 49) := (show M1 100 49 = M 100 49 by rw [hM1]; exact mu_ne _ _ (by first | decide | omega))
  have q100_50_M1 : id (M1 100 50 = M 100 50) := (show M1 100 50 = M 100 50 by rw [hM1]; exact mu_ne _ _ (by first | decide | omega))
  have q100_51_M1 : id (M1 100 51 = M 100 51) := (show M1 100 51 = M 100 51 by rw [hM1]; exact mu_ne _ _ (by first | decide | omega))
  have q100_52_M1 : id (M1 100 52 = M 100 52) := (show M1 100 52 = M 100 52 by rw [hM1]; exact mu_ne _ _ (by first | decide | omega))
  have q103_0_M1 : id (M1 103 0 = M 103 0) := (show M1 103 0 = M 103 0 by rw [hM1]; exact mu_ne _ _ (by first | decide | omega))
  have q103_1_M1 : id (M1 103 1 = M 103 1) := (show M1 103 1 = M 103 1 by rw [hM1]; exact mu_ne _ _ (by first | decide | omega))
  have q97_12_M1 : (M1 97 12 = M 97 12) := (show M1 97 12 = M 97 12 by rw [hM1]; exact mu_ne _ _ (by first | decide | omega))
  have q97_17_M1 : (M1 97 17 = M 97 17) := (show M1 97 17 = M 97 17 by rw [hM1]; exact mu_ne _ _ (by first | decide | omega))
  have q97_33_M1 : (M1 97 33 = M 97 33) := (show M1 97 33 = M 97 33 by rw [hM1]; exact mu_ne _ _ (by first | decide | omega))
  have q97_10_M1 : (M1 97 10 = M 97 10) := (show M1 97 10 = M 97 10 by rw [hM1]; exact mu_ne _ _ (by first | decide | omega))
  have q97_44_M1 : (M1 97 44 = M 97 44) := (show M1 97 44 = M 97 44 by rw [hM1]; exact mu_ne _ _ (by first | decide | omega))
  have q97_1_M1 : (M1 97 1 = M 97 1) := (show M1 97 1 = M 97 1 by rw [hM1]; exact mu_ne _ _ (by first | decide | omega))
  have xM1_97_0 : M1 97 0 = 0 := by rw [hM1]; exact mu_at _ _ _ _
  have c98M1 : M1 98 = M 98 := (by rw [hM1]; exact mu_cell _ _ (by decide))
  have c99M1 : M1 99 = M 99 := (by rw [hM1]; exact mu_cell _ _ (by decide))
  have c101M1 : M1 101 = M 101 := (by rw [hM1]; exact mu_cell _ _ (by decide))
  refine g_aload_n (pc' := 6) 0 dX10_of_5 rfl rfl ?_
  refine g_iload_n (pc' := 7) 1 dX10_of_6 rfl rfl ?_
  refine g_callVip (pc' := 10) (As := [vi a]) (b := 97) (S := []) dX10_of_7 rfl m_X10_102 w_X10_isGlass (c_X10_isGlass X M1 iM1 a ha) rfl ⟨_, _, _, rfl, rfl, rfl⟩ (by decide) (by decide) rfl (Nat.le_of_ble_eq_true rfl) (fun z3 q2 => ?_)
  refine g_if_eq (pc' := 13) (tgt := 46) ⟨by omega, by omega⟩ dX10_of_10 rfl rfl (fun c4 => ?_) (fun c4 => ?_)
  · replace q2 := q2.resolve_left (fun h => absurd (c4.symm.trans h.1) (by decide))
    refine g_iconst (pc' := 47) dX10_of_46 rfl ?_
    refine g_ireturn dX10_of_47 ?_
    exact ⟨iM1, fM1, q99_0_M1, q99_1_M1, q99_2_M1, q99_3_M1, q100_0_M1, q100_1_M1, q100_2_M1, q100_3_M1, q100_49_M1, q100_50_M1, q100_51_M1, q100_52_M1, q103_0_M1, q103_1_M1, q97_12_M1, q97_17_M1, q97_33_M1, q97_10_M1, q97_44_M1, q97_1_M1, fun q => by first | omega | (rw [show 4 + a.toNat = (4 + a).toNat by omega]; omega), fun q => by omega, fun q => by omega⟩
  · replace q2 := q2.resolve_right (fun h => c4 h.1)
    refine g_iload_n (pc' := 14) 2 dX10_of_13 rfl rfl ?_
    refine g_i2l (pc' := 15) hb dX10_of_14 rfl ?_
    refine g_lconst (pc' := 16) (v := 0) dX10_of_15 rfl (by decide) ?_
    refine g_lconst (pc' := 17) (v := 1) dX10_of_16 rfl (by decide) ?_
    refine g_callSip (pc' := 20) (As := [vl b, vl 0, vl 1]) (S := []) dX10_of_17 rfl m_X10_83 w_X10_in (c_X10_in X M1 b ⟨by omega, by omega⟩ 0 (by decide) 1 (by decide)) rfl (by decide) (by decide) rfl (Nat.le_of_ble_eq_true rfl) (fun z6 q5 => ?_)
    refine g_if_eq (pc' := 23) (tgt := 46) ⟨by omega, by omega⟩ dX10_of_20 rfl rfl (fun c7 => ?_) (fun c7 => ?_)
    · replace q5 := q5.resolve_left (fun h => absurd (c7.symm.trans h.1) (by decide))
      refine g_iconst (pc' := 47) dX10_of_46 rfl ?_
      refine g_ireturn dX10_of_47 ?_
      exact ⟨iM1, fM1, q99_0_M1, q99_1_M1, q99_2_M1, q99_3_M1, q100_0_M1, q100_1_M1, q100_2_M1, q100_3_M1, q100_49_M1, q100_50_M1, q100_51_M1, q100_52_M1, q103_0_M1, q103_1_M1, q97_12_M1, q97_17_M1, q97_33_M1, q97_10_M1, q97_44_M1, q97_1_M1, fun q => by first | omega | (rw [show 4 + a.toNat = (4 + a).toNat by omega]; omega), fun q => by omega, fun q => by omega⟩
    · replace q5 := q5.resolve_right (fun h => c7 h.1)
      refine g_iload_n (pc' := 24) 2 dX10_of_23 rfl rfl ?_
      refine g_if_ne (pc' := 27) (tgt := 38) hb dX10_of_24 rfl rfl (fun c8 => ?_) (fun c8 => ?_)
      · refine g_aload_n (pc' := 39) 0 dX10_of_38 rfl rfl ?_
        refine g_iload_n (pc' := 40) 1 dX10_of_39 rfl rfl ?_
        refine g_callVip (pc' := 43) (As := [vi a]) (b := 97) (S := []) dX10_of_40 rfl m_X10_99 w_X10_full (c_X10_full X M1 iM1 a ha ⟨by omega, by omega⟩) rfl ⟨_, _, _, rfl, rfl, rfl⟩ (by decide) (by decide) rfl (Nat.le_of_ble_eq_true rfl) (fun z10 q9 => ?_)
        have flz10 : flm (M1 101) (a).toNat = z10 := flm_at iM1.2.1.1.1 (by unfold sm4; exact q9.2.symm)
        have fbz10 := q9.1
        refine g_goto (tgt := 47) dX10_of_43 rfl ?_
        refine g_ireturn dX10_of_47 ?_
        exact ⟨iM1, fM1, q99_0_M1, q99_1_M1, q99_2_M1, q99_3_M1, q100_0_M1, q100_1_M1, q100_2_M1, q100_3_M1, q100_49_M1, q100_50_M1, q100_51_M1, q100_52_M1, q103_0_M1, q103_1_M1, q97_12_M1, q97_17_M1, q97_33_M1, q97_10_M1, q97_44_M1, q97_1_M1, fun q => by first | omega | (rw [show 4 + a.toNat = (4 + a).toNat by omega]; omega), fun q => by rw [← c101M1]; omega, fun q => by omega⟩
      · refine g_aload_n (pc' := 28) 0 dX10_of_27 rfl rfl ?_
        refine g_getR (pc' := 31) dX10_of_28 rfl f_X10_13 rfl rfl ?_
        refine g_iconst (pc' := 32) dX10_of_31 rfl ?_
        refine g_iload_n (pc' := 33) 1 dX10_of_32 rfl rfl ?_
        refine g_iadd (pc' := 34) dX10_of_33 rfl ?_
        refine g_iald (pc' := 35) dX10_of_34 rfl rfl (by omega) (by omega) (fun v11 ev11 rv11 => ?_)
        have dv11 : 0 ≤ v11 ∧ v11 ≤ 60 := by rw [ev11]; exact iM1.1.sz (by omega) (by omega)
        have mv11 : v11 = M 99 (4 + a).toNat := ev11.trans (congrFun c99M1 _)
        refine g_goto (tgt := 47) dX10_of_35 rfl ?_
        refine g_ireturn dX10_of_47 ?_
        exact ⟨iM1, fM1, q99_0_M1, q99_1_M1, q99_2_M1, q99_3_M1, q100_0_M1, q100_1_M1, q100_2_M1, q100_3_M1, q100_49_M1, q100_50_M1, q100_51_M1, q100_52_M1, q103_0_M1, q103_1_M1, q97_12_M1, q97_17_M1, q97_33_M1, q97_10_M1, q97_44_M1, q97_1_M1, fun q => by first | omega | (rw [show 4 + a.toNat = (4 + a).toNat by omega]; omega), fun q => by omega, fun q => by omega⟩
set_option maxHeartbeats 4000000 in
set_option maxRecDepth 100000 in
theorem c_X10_part_x (X : Cx) (M : Mm) (hi : IM M) (a : Int) (ha : inI a) (b : Int) (hb : inI b) : Con X 12 yX10_part cX10_part 3 (some .long) [vr X 97, vi a, vi b] M (Ql (fun r M1 => IM M1 ∧ Fr (fun c => c = 97) M M1 ∧ M1 99 0 = M 99 0 ∧ M1 99 1 = M 99 1 ∧ M1 99 2 = M 99 2 ∧ M1 99 3 = M 99 3 ∧ M1 100 0 = M 100 0 ∧ M1 100 1 = M 100 1 ∧ M1 100 2 = M 100 2 ∧ M1 100 3 = M 100 3 ∧ M1 100 49 = M 100 49 ∧ M1 100 50 = M 100 50 ∧ M1 100 51 = M 100 51 ∧ M1 100 52 = M 100 52 ∧ M1 103 0 = M 103 0 ∧ M1 103 1 = M 103 1 ∧ M1 97 12 = M 97 12 ∧ M1 97 17 = M 97 17 ∧ M1 97 33 = M 97 33 ∧ M1 97 10 = M 97 10 ∧ M1 97 44 = M 97 44 ∧ M1 97 1 = M 97 1 ∧ ((((0 ≤ a ∧ a < M 99 0) ∧ (0 ≤ b ∧ b ≤ 3)) → r = M 101 (4 * a + b).toNat) ∧ (¬ ((0 ≤ a ∧ a < M 99 0) ∧ (0 ≤ b ∧ b ≤ 3)) → r = -1)))) := by
  refine Con.ofG rfl (Nat.le_of_ble_eq_true rfl) ?_
  show G X 12 RX10 cX10_part 3 (some .long) (Ql (fun r M1 => IM M1 ∧ Fr (fun c => c = 97) M M1 ∧ M1 99 0 = M 99 0 ∧ M1 99 1 = M 99 1 ∧ M1 99 2 = M 99 2 ∧ M1 99 3 = M 99 3 ∧ M1 100 0 = M 100 0 ∧ M1 100 1 = M 100 1 ∧ M1 100 2 = M 100 2 ∧ M1 100 3 = M 100 3 ∧ M1 100 49 = M 100 49 ∧ M1 100 50 = M 100 50 ∧ M1 100 51 = M 100 51 ∧ M1 100 52 = M 100 52 ∧ M1 103 0 = M 103 0 ∧ M1 103 1 = M 103 1 ∧ M1 97 12 = M 97 12 ∧ M1 97 17 = M 97 17 ∧ M1 97 33 = M 97 33 ∧ M1 97 10 = M 97 10 ∧ M1 97 44 = M 97 44 ∧ M1 97 1 = M 97 1 ∧ ((((0 ≤ a ∧ a < M 99 0) ∧ (0 ≤ b ∧ b ≤ 3)) → r = M 101 (4 * a + b).toNat) ∧ (¬ ((0 ≤ a ∧ a < M 99 0) ∧ (0 ≤ b ∧ b ≤ 3)) → r = -1)))) 0 [(0, vr X 97), (1, vi a), (2, vi b)] [] M
  have p0 := hi.1.1
  have p1 := hi.1.2.1
  have p2 := hi.1.2.2.1
  have p3 := hi.1.2.2.2.1
  have p12 := hi.2.2.2.1
  refine g_aload_n (pc' := 1) 0 dX10_part_0 rfl rfl ?_
  refine g_iconst (pc' := 2) dX10_part_1 rfl ?_
  refine g_putI (pc' := 5) dX10_part_2 rfl p_X10_77 rfl rfl (by decide) (fun M1 hM1 => ?_)
  have iM1 : IM M1 := IM.wr hi hM1 (by unfold okv; first | decide | omega)
  have fM1 : Fr (fun c => c = 97) M M1 := Fr.wr Fr.rf hM1 (by first | decide | omega | (dsimp only; omega))
  have q99_0_M1 : (M1 99 0 = M 99 0) := (show M1 99 0 = M 99 0 by rw [hM1]; exact mu_ne _ _ (by first | decide | omega))
  have q99_1_M1 : (M1 99 1 = M 99 1) := (show M1 99 1 = M 99 1 by rw [hM1]; exact mu_ne _ _ (by first | decide | omega))
  have q99_2_M1 : (M1 99 2 = M 99 2) := (show M1 99 2 = M 99 2 by rw [hM1]; exact mu_ne _ _ (by first | decide | omega))
  have q99_3_M1 : (M1 99 3 = M 99 3) := (show M1 99 3 = M 99 3 by rw [hM1]; exact mu_ne _ _ (by first | decide | omega))
  have q100_0_M1 : id (M1 100 0 = M 100 0) := (show M1 100 0 = M 100 0 by rw [hM1]; exact mu_ne _ _ (by first | decide | omega))
  have q100_1_M1 : id (M1 100 1 = M 100 1) := (show M1 100 1 = M 100 1 by rw [hM1]; exact mu_ne _ _ (by first | decide | omega))
  have q100_2_M1 : id (M1 100 2 = M 100 2) := (show M1 100 2 = M 100 2 by rw [hM1]; exact mu_ne _ _ (by first | decide | omega))
  have q100_3_M1 : id (M1 100 3 = M 100 3) := (show M1 100 3 = M 100 3 by rw [hM1]; exact mu_ne _ _ (by first | decide | omega))
  have q100_49_M1 : id (M1 100 49 = M 100 49) := (show M1 100 49 = M 100 49 by rw [hM1]; exact mu_ne _ _ (by first | decide | omega))
  have q100_50_M1 : id (M1 100 50 = M 100 50) := (show M1 100 50 = M 100 50 by rw [hM1]; exact mu_ne _ _ (by first | decide | omega))
  have q100_51_M1 : id (M1 100 51 = M 100 51) := (show M1 100 51 = M 100 51 by rw [hM1]; exact mu_ne _ _ (by first | decide | omega))
  have q100_52_M1 : id (M1 100 52 = M 100 52) := (show M1 100 52 = M 100 52 by rw [hM1]; exact mu_ne _ _ (by first | decide | omega))
  have q103_0_M1 : id (M1 103 0 = M 103 0) := (show M1 103 0 = M 103 0 by rw [hM1]; exact mu_ne _ _ (by first | decide | omega))
  have q103_1_M1 : id (M1 103 1 = M 103 1) := (show M1 103 1 = M 103 1 by rw [hM1]; exact mu_ne _ _ (by first | decide | omega))
  have q97_12_M1 : (M1 97 12 = M 97 12) := (show M1 97 12 = M 97 12 by rw [hM1]; exact mu_ne _ _ (by first | decide | omega))
  have q97_17_M1 : (M1 97 17 = M 97 17) := (show M1 97 17 = M 97 17 by rw [hM1]; exact mu_ne _ _ (by first | decide | omega))
  have q97_33_M1 : (M1 97 33 = M 97 33) := (show M1 97 33 = M 97 33 by rw [hM1]; exact mu_ne _ _ (by first | decide | omega))
  have q97_10_M1 : (M1 97 10 = M 97 10) := (show M1 97 10 = M 97 10 by rw [hM1]; exact mu_ne _ _ (by first | decide | omega))
  have q97_44_M1 : (M1 97 44 = M 97 44) := (show M1 97 44 = M 97 44 by rw [hM1]; exact mu_ne _ _ (by first | decide | omega))
  have q97_1_M1 : (M1 97 1 = M 97 1) := (show M1 97 1 = M 97 1 by rw [hM1]; exact mu_ne _ _ (by first | decide | omega))
  have xM1_97_0 : M1 97 0 = 0 := by rw [hM1]; exact mu_at _ _ _ _
  have c98M1 : M1 98 = M 98 := (by rw [hM1]; exact mu_cell _ _ (by decide))
  have c99M1 : M1 99 = M 99 := (by rw [hM1]; exact mu_cell _ _ (by decide))
  have c101M1 : M1 101 = M 101 := (by rw [hM1]; exact mu_cell _ _ (by decide))
  refine g_aload_n (pc' := 6) 0 dX10_part_5 rfl rfl ?_
  refine g_iload_n (pc' := 7) 1 dX10_part_6 rfl rfl ?_
  refine g_callVip (pc' := 10) (As := [vi a]) (b := 97) (S := []) dX10_part_7 rfl m_X10_102 w_X10_isGlass (c_X10_isGlass X M1 iM1 a ha) rfl ⟨_, _, _, rfl, rfl, rfl⟩ (by decide) (by decide) rfl (Nat.le_of_ble_eq_true rfl) (fun z3 q2 => ?_)
  refine g_if_eq (pc' := 13) (tgt := 33) ⟨by omega, by omega⟩ dX10_part_10 rfl rfl (fun c4 => ?_) (fun c4 => ?_)
  · replace q2 := q2.resolve_left (fun h => absurd (c4.symm.trans h.1) (by decide))
    refine g_ldc2 (pc' := 36) (v := (-1)) dX10_part_33 rfl k_X10_108 ?_
    refine g_lreturn dX10_part_36 ?_
    exact ⟨iM1, fM1, q99_0_M1, q99_1_M1, q99_2_M1, q99_3_M1, q100_0_M1, q100_1_M1, q100_2_M1, q100_3_M1, q100_49_M1, q100_50_M1, q100_51_M1, q100_52_M1, q103_0_M1, q103_1_M1, q97_12_M1, q97_17_M1, q97_33_M1, q97_10_M1, q97_44_M1, q97_1_M1, fun q => by omega, fun q => by omega⟩
  · replace q2 := q2.resolve_right (fun h => c4 h.1)
    refine g_iload_n (pc' := 14) 2 dX10_part_13 rfl rfl ?_
    refine g_callSip (pc' := 17) (As := [vi b]) (S := []) dX10_part_14 rfl m_X10_105 w_X10_isStuff (c_X10_isStuff X M1 b hb) rfl (by decide) (by decide) rfl (Nat.le_of_ble_eq_true rfl) (fun z6 q5 => ?_)
    refine g_if_eq (pc' := 20) (tgt := 33) ⟨by omega, by omega⟩ dX10_part_17 rfl rfl (fun c7 => ?_) (fun c7 => ?_)
    · replace q5 := q5.resolve_left (fun h => absurd (c7.symm.trans h.1) (by decide))
      refine g_ldc2 (pc' := 36) (v := (-1)) dX10_part_33 rfl k_X10_108 ?_
      refine g_lreturn dX10_part_36 ?_
      exact ⟨iM1, fM1, q99_0_M1, q99_1_M1, q99_2_M1, q99_3_M1, q100_0_M1, q100_1_M1, q100_2_M1, q100_3_M1, q100_49_M1, q100_50_M1, q100_51_M1, q100_52_M1, q103_0_M1, q103_1_M1, q97_12_M1, q97_17_M1, q97_33_M1, q97_10_M1, q97_44_M1, q97_1_M1, fun q => by omega, fun q => by omega⟩
    · replace q5 := q5.resolve_right (fun h => c7 h.1)
      refine g_aload_n (pc' := 21) 0 dX10_part_20 rfl rfl ?_
      refine g_getR (pc' := 24) dX10_part_21 rfl f_X10_19 rfl rfl ?_
      refine g_iconst (pc' := 25) dX10_part_24 rfl ?_
      refine g_iload_n (pc' := 26) 1 dX10_part_25 rfl rfl ?_
      refine g_imul (pc' := 27) dX10_part_26 rfl ?_
      refine g_iload_n (pc' := 28) 2 dX10_part_27 rfl rfl ?_
      refine g_iadd (pc' := 29) dX10_part_28 rfl ?_
      refine g_lald (pc' := 30) dX10_part_29 rfl rfl (by omega) (by omega) (fun v8 ev8 rv8 => ?_)
      have bv8 : 0 ≤ v8 ∧ v8 ≤ 6000000000000000 := by rw [ev8]; exact PIw.le iM1.2.1 (by omega)
      have mv8 : v8 = M 101 ((4 * a) + b).toNat := ev8.trans (congrFun c101M1 _)
      refine g_goto (tgt := 36) dX10_part_30 rfl ?_
      refine g_lreturn dX10_part_36 ?_
      exact ⟨iM1, fM1, q99_0_M1, q99_1_M1, q99_2_M1, q99_3_M1, q100_0_M1, q100_1_M1, q100_2_M1, q100_3_M1, q100_49_M1, q100_50_M1, q100_51_M1, q100_52_M1, q103_0_M1, q103_1_M1, q97_12_M1, q97_17_M1, q97_33_M1, q97_10_M1, q97_44_M1, q97_1_M1, fun q => by omega, fun q => by omega⟩
set_option maxHeartbeats 4000000 in
set_option maxRecDepth 100000 in
theorem c_X10_lower_x (X : Cx) (M : Mm) (hi : IM M) : Con X 12 yX10_lower cX10_lower 1 (some .long) [vr X 97] M (Ql (fun r M1 => IM M1 ∧ Fr (fun c => c = 97) M M1 ∧ M1 99 0 = M 99 0 ∧ M1 99 1 = M 99 1 ∧ M1 99 2 = M 99 2 ∧ M1 99 3 = M 99 3 ∧ M1 100 0 = M 100 0 ∧ M1 100 1 = M 100 1 ∧ M1 100 2 = M 100 2 ∧ M1 100 3 = M 100 3 ∧ M1 100 49 = M 100 49 ∧ M1 100 50 = M 100 50 ∧ M1 100 51 = M 100 51 ∧ M1 100 52 = M 100 52 ∧ M1 103 0 = M 103 0 ∧ M1 103 1 = M 103 1 ∧ M1 97 12 = M 97 12 ∧ M1 97 17 = M 97 17 ∧ M1 97 33 = M 97 33 ∧ M1 97 10 = M 97 10 ∧ M1 97 44 = M 97 44 ∧ M1 97 1 = M 97 1 ∧ (r = M 101 24))) := by
  refine Con.ofG rfl (Nat.le_of_ble_eq_true rfl) ?_
  show G X 12 RX10 cX10_lower 1 (some .long) (Ql (fun r M1 => IM M1 ∧ Fr (fun c => c = 97) M M1 ∧ M1 99 0 = M 99 0 ∧ M1 99 1 = M 99 1 ∧ M1 99 2 = M 99 2 ∧ M1 99 3 = M 99 3 ∧ M1 100 0 = M 100 0 ∧ M1 100 1 = M 100 1 ∧ M1 100 2 = M 100 2 ∧ M1 100 3 = M 100 3 ∧ M1 100 49 = M 100 49 ∧ M1 100 50 = M 100 50 ∧ M1 100 51 = M 100 51 ∧ M1 100 52 = M 100 52 ∧ M1 103 0 = M 103 0 ∧ M1 103 1 = M 103 1 ∧ M1 97 12 = M 97 12 ∧ M1 97 17 = M 97 17 ∧ M1 97 33 = M 97 33 ∧ M1 97 10 = M 97 10 ∧ M1 97 44 = M 97 44 ∧ M1 97 1 = M 97 1 ∧ (r = M 101 24))) 0 [(0, vr X 97)] [] M
  have p0 := hi.1.1
  have p1 := hi.1.2.1
  have p2 := hi.1.2.2.1
  have p3 := hi.1.2.2.2.1
  have p12 := hi.2.2.2.1
  refine g_aload_n (pc' := 1) 0 dX10_lower_0 rfl rfl ?_
  refine g_iconst (pc' := 2) dX10_lower_1 rfl ?_
  refine g_putI (pc' := 5) dX10_lower_2 rfl p_X10_77 rfl rfl (by decide) (fun M1 hM1 => ?_)
  have iM1 : IM M1 := IM.wr hi hM1 (by unfold okv; first | decide | omega)
  have fM1 : Fr (fun c => c = 97) M M1 := Fr.wr Fr.rf hM1 (by first | decide | omega | (dsimp only; omega))
  have q99_0_M1 : (M1 99 0 = M 99 0) := (show M1 99 0 = M 99 0 by rw [hM1]; exact mu_ne _ _ (by first | decide | omega))
  have q99_1_M1 : (M1 99 1 = M 99 1) := (show M1 99 1 = M 99 1 by rw [hM1]; exact mu_ne _ _ (by first | decide | omega))
  have q99_2_M1 : (M1 99 2 = M 99 2) := (show M1 99 2 = M 99 2 by rw [hM1]; exact mu_ne _ _ (by first | decide | omega))
  have q99_3_M1 : (M1 99 3 = M 99 3) := (show M1 99 3 = M 99 3 by rw [hM1]; exact mu_ne _ _ (by first | decide | omega))
  have q100_0_M1 : id (M1 100 0 = M 100 0) := (show M1 100 0 = M 100 0 by rw [hM1]; exact mu_ne _ _ (by first | decide | omega))
  have q100_1_M1 : id (M1 100 1 = M 100 1) := (show M1 100 1 = M 100 1 by rw [hM1]; exact mu_ne _ _ (by first | decide | omega))
  have q100_2_M1 : id (M1 100 2 = M 100 2) := (show M1 100 2 = M 100 2 by rw [hM1]; exact mu_ne _ _ (by first | decide | omega))
  have q100_3_M1 : id (M1 100 3 = M 100 3) := (show M1 100 3 = M 100 3 by rw [hM1]; exact mu_ne _ _ (by first | decide | omega))
  have q100_49_M1 : id (M1 100 49 = M 100 49) := (show M1 100 49 = M 100 49 by rw [hM1]; exact mu_ne _ _ (by first | decide | omega))
  have q100_50_M1 : id (M1 100 50 = M 100 50) := (show M1 100 50 = M 100 50 by rw [hM1]; exact mu_ne _ _ (by first | decide | omega))
  have q100_51_M1 : id (M1 100 51 = M 100 51) := (show M1 100 51 = M 100 51 by rw [hM1]; exact mu_ne _ _ (by first | decide | omega))
  have q100_52_M1 : id (M1 100 52 = M 100 52) := (show M1 100 52 = M 100 52 by rw [hM1]; exact mu_ne _ _ (by first | decide | omega))
  have q103_0_M1 : id (M1 103 0 = M 103 0) := (show M1 103 0 = M 103 0 by rw [hM1]; exact mu_ne _ _ (by first | decide | omega))
  have q103_1_M1 : id (M1 103 1 = M 103 1) := (show M1 103 1 = M 103 1 by rw [hM1]; exact mu_ne _ _ (by first | decide | omega))
  have q97_12_M1 : (M1 97 12 = M 97 12) := (show M1 97 12 = M 97 12 by rw [hM1]; exact mu_ne _ _ (by first | decide | omega))
  have q97_17_M1 : (M1 97 17 = M 97 17) := (show M1 97 17 = M 97 17 by rw [hM1]; exact mu_ne _ _ (by first | decide | omega))
  have q97_33_M1 : (M1 97 33 = M 97 33) := (show M1 97 33 = M 97 33 by rw [hM1]; exact mu_ne _ _ (by first | decide | omega))
  have q97_10_M1 : (M1 97 10 = M 97 10) := (show M1 97 10 = M 97 10 by rw [hM1]; exact mu_ne _ _ (by first | decide | omega))
  have q97_44_M1 : (M1 97 44 = M 97 44) := (show M1 97 44 = M 97 44 by rw [hM1]; exact mu_ne _ _ (by first | decide | omega))
  have q97_1_M1 : (M1 97 1 = M 97 1) := (show M1 97 1 = M 97 1 by rw [hM1]; exact mu_ne _ _ (by first | decide | omega))
  have xM1_97_0 : M1 97 0 = 0 := by rw [hM1]; exact mu_at _ _ _ _
  have c98M1 : M1 98 = M 98 := (by rw [hM1]; exact mu_cell _ _ (by decide))
  have c99M1 : M1 99 = M 99 := (by rw [hM1]; exact mu_cell _ _ (by decide))
  have c101M1 : M1 101 = M 101 := (by rw [hM1]; exact mu_cell _ _ (by decide))
  refine g_aload_n (pc' := 6) 0 dX10_lower_5 rfl rfl ?_
  refine g_getR (pc' := 9) dX10_lower_6 rfl f_X10_19 rfl rfl ?_
  refine g_bipush (pc' := 11) (v := 24) dX10_lower_9 rfl (by decide) ?_
  refine g_lald (pc' := 12) dX10_lower_11 rfl rfl (by decide) (by decide) (fun v2 ev2 rv2 => ?_)
  have ev2 : v2 = M1 101 24 := ev2
  have bv2 : 1 ≤ v2 ∧ v2 ≤ 100000000000000 := by rw [ev2]; exact iM1.2.1.1
  have mv2 : v2 = M 101 24 := ev2.trans (congrFun c101M1 _)
  refine g_lreturn dX10_lower_12 ?_
  exact ⟨iM1, fM1, q99_0_M1, q99_1_M1, q99_2_M1, q99_3_M1, q100_0_M1, q100_1_M1, q100_2_M1, q100_3_M1, q100_49_M1, q100_50_M1, q100_51_M1, q100_52_M1, q103_0_M1, q103_1_M1, q97_12_M1, q97_17_M1, q97_33_M1, q97_10_M1, q97_44_M1, q97_1_M1, by omega⟩
set_option maxHeartbeats 4000000 in
set_option maxRecDepth 100000 in
theorem c_X10_taste_x (X : Cx) (M : Mm) (hi : IM M) (a : Int) (ha : inI a) (b : Int) (hb : inI b) : Con X 12 yX10_taste cX10_taste 3 (some .int) [vr X 97, vi a, vi b] M (Qi (fun r M1 => IM M1 ∧ Fr (fun c => c = 97) M M1 ∧ M1 99 0 = M 99 0 ∧ M1 99 1 = M 99 1 ∧ M1 99 2 = M 99 2 ∧ M1 99 3 = M 99 3 ∧ M1 100 0 = M 100 0 ∧ M1 100 1 = M 100 1 ∧ M1 100 2 = M 100 2 ∧ M1 100 3 = M 100 3 ∧ M1 100 49 = M 100 49 ∧ M1 100 50 = M 100 50 ∧ M1 100 51 = M 100 51 ∧ M1 100 52 = M 100 52 ∧ M1 103 0 = M 103 0 ∧ M1 103 1 = M 103 1 ∧ M1 97 12 = M 97 12 ∧ M1 97 17 = M 97 17 ∧ M1 97 33 = M 97 33 ∧ M1 97 10 = M 97 10 ∧ M1 97 44 = M 97 44 ∧ M1 97 1 = M 97 1 ∧ ((((0 ≤ a ∧ a < M 99 0) ∧ (0 ≤ b ∧ b ≤ 3)) → r = tsM (M 101) a b) ∧ (¬ ((0 ≤ a ∧ a < M 99 0) ∧ (0 ≤ b ∧ b ≤ 3)) → r = -1)))) := by
  refine Con.ofG rfl (Nat.le_of_ble_eq_true rfl) ?_
  show G X 12 RX10 cX10_taste 3 (some .int) (Qi (fun r M1 => IM M1 ∧ Fr (fun c => c = 97) M M1 ∧ M1 99 0 = M 99 0 ∧ M1 99 1 = M 99 1 ∧ M1 99 2 = M 99 2 ∧ M1 99 3 = M 99 3 ∧ M1 100 0 = M 100 0 ∧ M1 100 1 = M 100 1 ∧ M1 100 2 = M 100 2 ∧ M1 100 3 = M 100 3 ∧ M1 100 49 = M 100 49 ∧ M1 100 50 = M 100 50 ∧ M1 100 51 = M 100 51 ∧ M1 100 52 = M 100 52 ∧ M1 103 0 = M 103 0 ∧ M1 103 1 = M 103 1 ∧ M1 97 12 = M 97 12 ∧ M1 97 17 = M 97 17 ∧ M1 97 33 = M 97 33 ∧ M1 97 10 = M 97 10 ∧ M1 97 44 = M 97 44 ∧ M1 97 1 = M 97 1 ∧ ((((0 ≤ a ∧ a < M 99 0) ∧ (0 ≤ b ∧ b ≤ 3)) → r = tsM (M 101) a b) ∧ (¬ ((0 ≤ a ∧ a < M 99 0) ∧ (0 ≤ b ∧ b ≤ 3)) → r = -1)))) 0 [(0, vr X 97), (1, vi a), (2, vi b)] [] M
  have p0 := hi.1.1
  have p1 := hi.1.2.1
  have p2 := hi.1.2.2.1
  have p3 := hi.1.2.2.2.1
  have p12 := hi.2.2.2.1
  refine g_aload_n (pc' := 1) 0 dX10_taste_0 rfl rfl ?_
  refine g_iconst (pc' := 2) dX10_taste_1 rfl ?_
  refine g_putI (pc' := 5) dX10_taste_2 rfl p_X10_77 rfl rfl (by decide) (fun M1 hM1 => ?_)
  have iM1 : IM M1 := IM.wr hi hM1 (by unfold okv; first | decide | omega)
  have fM1 : Fr (fun c => c = 97) M M1 := Fr.wr Fr.rf hM1 (by first | decide | omega | (dsimp only; omega))
  have q99_0_M1 : (M1 99 0 = M 99 0) := (show M1 99 0 = M 99 0 by rw [hM1]; exact mu_ne _ _ (by first | decide | omega))
  have q99_1_M1 : (M1 99 1 = M 99 1) := (show M1 99 1 = M 99 1 by rw [hM1]; exact mu_ne _ _ (by first | decide | omega))
  have q99_2_M1 : (M1 99 2 = M 99 2) := (show M1 99 2 = M 99 2 by rw [hM1]; exact mu_ne _ _ (by first | decide | omega))
  have q99_3_M1 : (M1 99 3 = M 99 3) := (show M1 99 3 = M 99 3 by rw [hM1]; exact mu_ne _ _ (by first | decide | omega))
  have q100_0_M1 : id (M1 100 0 = M 100 0) := (show M1 100 0 = M 100 0 by rw [hM1]; exact mu_ne _ _ (by first | decide | omega))
  have q100_1_M1 : id (M1 100 1 = M 100 1) := (show M1 100 1 = M 100 1 by rw [hM1]; exact mu_ne _ _ (by first | decide | omega))
  have q100_2_M1 : id (M1 100 2 = M 100 2) := (show M1 100 2 = M 100 2 by rw [hM1]; exact mu_ne _ _ (by first | decide | omega))
  have q100_3_M1 : id (M1 100 3 = M 100 3) := (show M1 100 3 = M 100 3 by rw [hM1]; exact mu_ne _ _ (by first | decide | omega))
  have q100_49_M1 : id (M1 100 49 = M 100 49) := (show M1 100 49 = M 100 49 by rw [hM1]; exact mu_ne _ _ (by first | decide | omega))
  have q100_50_M1 : id (M1 100 50 = M 100 50) := (show M1 100 50 = M 100 50 by rw [hM1]; exact mu_ne _ _ (by first | decide | omega))
  have q100_51_M1 : id (M1 100 51 = M 100 51) := (show M1 100 51 = M 100 51 by rw [hM1]; exact mu_ne _ _ (by first | decide | omega))
  have q100_52_M1 : id (M1 100 52 = M 100 52) := (show M1 100 52 = M 100 52 by rw [hM1]; exact mu_ne _ _ (by first | decide | omega))
  have q103_0_M1 : id (M1 103 0 = M 103 0) := (show M1 103 0 = M 103 0 by rw [hM1]; exact mu_ne _ _ (by first | decide | omega))
  have q103_1_M1 : id (M1 103 1 = M 103 1) := (show M1 103 1 = M 103 1 by rw [hM1]; exact mu_ne _ _ (by first | decide | omega))
  have q97_12_M1 : (M1 97 12 = M 97 12) := (show M1 97 12 = M 97 12 by rw [hM1]; exact mu_ne _ _ (by first | decide | omega))
  have q97_17_M1 : (M1 97 17 = M 97 17) := (show M1 97 17 = M 97 17 by rw [hM1]; exact mu_ne _ _ (by first | decide | omega))
  have q97_33_M1 : (M1 97 33 = M 97 33) := (show M1 97 33 = M 97 33 by rw [hM1]; exact mu_ne _ _ (by first | decide | omega))
  have q97_10_M1 : (M1 97 10 = M 97 10) := (show M1 97 10 = M 97 10 by rw [hM1]; exact mu_ne _ _ (by first | decide | omega))
  have q97_44_M1 : (M1 97 44 = M 97 44) := (show M1 97 44 = M 97 44 by rw [hM1]; exact mu_ne _ _ (by first | decide | omega))
  have q97_1_M1 : (M1 97 1 = M 97 1) := (show M1 97 1 = M 97 1 by rw [hM1]; exact mu_ne _ _ (by first | decide | omega))
  have xM1_97_0 : M1 97 0 = 0 := by rw [hM1]; exact mu_at _ _ _ _
  have c98M1 : M1 98 = M 98 := (by rw [hM1]; exact mu_cell _ _ (by decide))
  have c99M1 : M1 99 = M 99 := (by rw [hM1]; exact mu_cell _ _ (by decide))
  have c101M1 : M1 101 = M 101 := (by rw [hM1]; exact mu_cell _ _ (by decide))
  refine g_aload_n (pc' := 6) 0 dX10_taste_5 rfl rfl ?_
  refine g_iload_n (pc' := 7) 1 dX10_taste_6 rfl rfl ?_
  refine g_callVip (pc' := 10) (As := [vi a]) (b := 97) (S := []) dX10_taste_7 rfl m_X10_102 w_X10_isGlass (c_X10_isGlass X M1 iM1 a ha) rfl ⟨_, _, _, rfl, rfl, rfl⟩ (by decide) (by decide) rfl (Nat.le_of_ble_eq_true rfl) (fun z3 q2 => ?_)
  refine g_if_eq (pc' := 13) (tgt := 29) ⟨by omega, by omega⟩ dX10_taste_10 rfl rfl (fun c4 => ?_) (fun c4 => ?_)
  · replace q2 := q2.resolve_left (fun h => absurd (c4.symm.trans h.1) (by decide))
    refine g_iconst (pc' := 30) dX10_taste_29 rfl ?_
    refine g_ireturn dX10_taste_30 ?_
    exact ⟨iM1, fM1, q99_0_M1, q99_1_M1, q99_2_M1, q99_3_M1, q100_0_M1, q100_1_M1, q100_2_M1, q100_3_M1, q100_49_M1, q100_50_M1, q100_51_M1, q100_52_M1, q103_0_M1, q103_1_M1, q97_12_M1, q97_17_M1, q97_33_M1, q97_10_M1, q97_44_M1, q97_1_M1, fun q => by omega, fun q => by omega⟩
  · replace q2 := q2.resolve_right (fun h => c4 h.1)
    refine g_iload_n (pc' := 14) 2 dX10_taste_13 rfl rfl ?_
    refine g_callSip (pc' := 17) (As := [vi b]) (S := []) dX10_taste_14 rfl m_X10_105 w_X10_isStuff (c_X10_isStuff X M1 b hb) rfl (by decide) (by decide) rfl (Nat.le_of_ble_eq_true rfl) (fun z6 q5 => ?_)
    refine g_if_eq (pc' := 20) (tgt := 29) ⟨by omega, by omega⟩ dX10_taste_17 rfl rfl (fun c7 => ?_) (fun c7 => ?_)
    · replace q5 := q5.resolve_left (fun h => absurd (c7.symm.trans h.1) (by decide))
      refine g_iconst (pc' := 30) dX10_taste_29 rfl ?_
      refine g_ireturn dX10_taste_30 ?_
      exact ⟨iM1, fM1, q99_0_M1, q99_1_M1, q99_2_M1, q99_3_M1, q100_0_M1, q100_1_M1, q100_2_M1, q100_3_M1, q100_49_M1, q100_50_M1, q100_51_M1, q100_52_M1, q103_0_M1, q103_1_M1, q97_12_M1, q97_17_M1, q97_33_M1, q97_10_M1, q97_44_M1, q97_1_M1, fun q => by omega, fun q => by omega⟩
    · replace q5 := q5.resolve_right (fun h => c7 h.1)
      refine g_aload_n (pc' := 21) 0 dX10_taste_20 rfl rfl ?_
      refine g_iload_n (pc' := 22) 1 dX10_taste_21 rfl rfl ?_
      refine g_iload_n (pc' := 23) 2 dX10_taste_22 rfl rfl ?_
      refine g_callVip (pc' := 26) (As := [vi a, vi b]) (b := 97) (S := []) dX10_taste_23 rfl m_X10_112 w_X10_tasteOf (c_X10_tasteOf_x X M1 iM1 a ha b hb (by omega) (by omega)) rfl ⟨_, _, _, rfl, rfl, rfl⟩ (by decide) (by decide) rfl (Nat.le_of_ble_eq_true rfl) (fun z9 q8 => ?_)
      have q8a := q8.1
      have q8b := q8.2
      clear q8
      rw [c101M1] at q8b
      refine g_goto (tgt := 30) dX10_taste_26 rfl ?_
      refine g_ireturn dX10_taste_30 ?_
      exact ⟨iM1, fM1, q99_0_M1, q99_1_M1, q99_2_M1, q99_3_M1, q100_0_M1, q100_1_M1, q100_2_M1, q100_3_M1, q100_49_M1, q100_50_M1, q100_51_M1, q100_52_M1, q103_0_M1, q103_1_M1, q97_12_M1, q97_17_M1, q97_33_M1, q97_10_M1, q97_44_M1, q97_1_M1, fun q => by omega, fun q => by omega⟩
set_option maxHeartbeats 4000000 in
set_option maxRecDepth 100000 in
theorem c_X10_alike_x (X : Cx) (M : Mm) (hi : IM M) (a : Int) (ha : inI a) (b : Int) (hb : inI b) (c : Int) (hc : inI c) : Con X 12 yX10_alike cX10_alike 10 (some .int) [vr X 97, vi a, vi b, vi c] M (Qi (fun r M1 => IM M1 ∧ Fr (fun c => c = 97) M M1 ∧ M1 99 0 = M 99 0 ∧ M1 99 1 = M 99 1 ∧ M1 99 2 = M 99 2 ∧ M1 99 3 = M 99 3 ∧ M1 100 0 = M 100 0 ∧ M1 100 1 = M 100 1 ∧ M1 100 2 = M 100 2 ∧ M1 100 3 = M 100 3 ∧ M1 100 49 = M 100 49 ∧ M1 100 50 = M 100 50 ∧ M1 100 51 = M 100 51 ∧ M1 100 52 = M 100 52 ∧ M1 103 0 = M 103 0 ∧ M1 103 1 = M 103 1 ∧ M1 97 12 = M 97 12 ∧ M1 97 17 = M 97 17 ∧ M1 97 33 = M 97 33 ∧ M1 97 10 = M 97 10 ∧ M1 97 44 = M 97 44 ∧ M1 97 1 = M 97 1 ∧ ((((0 ≤ a ∧ a < M 99 0) ∧ (0 ≤ b ∧ b < M 99 0) ∧ (0 ≤ c ∧ c ≤ 3)) → (r = 1 ∧ ALM (M 101) a b c) ∨ (r = 0 ∧ ¬ ALM (M 101) a b c)) ∧ (¬ ((0 ≤ a ∧ a < M 99 0) ∧ (0 ≤ b ∧ b < M 99 0) ∧ (0 ≤ c ∧ c ≤ 3)) → r = -1)))) := by
  refine Con.ofG rfl (Nat.le_of_ble_eq_true rfl) ?_
  show G X 12 RX10 cX10_alike 10 (some .int) (Qi (fun r M1 => IM M1 ∧ Fr (fun c => c = 97) M M1 ∧ M1 99 0 = M 99 0 ∧ M1 99 1 = M 99 1 ∧ M1 99 2 = M 99 2 ∧ M1 99 3 = M 99 3 ∧ M1 100 0 = M 100 0 ∧ M1 100 1 = M 100 1 ∧ M1 100 2 = M 100 2 ∧ M1 100 3 = M 100 3 ∧ M1 100 49 = M 100 49 ∧ M1 100 50 = M 100 50 ∧ M1 100 51 = M 100 51 ∧ M1 100 52 = M 100 52 ∧ M1 103 0 = M 103 0 ∧ M1 103 1 = M 103 1 ∧ M1 97 12 = M 97 12 ∧ M1 97 17 = M 97 17 ∧ M1 97 33 = M 97 33 ∧ M1 97 10 = M 97 10 ∧ M1 97 44 = M 97 44 ∧ M1 97 1 = M 97 1 ∧ ((((0 ≤ a ∧ a < M 99 0) ∧ (0 ≤ b ∧ b < M 99 0) ∧ (0 ≤ c ∧ c ≤ 3)) → (r = 1 ∧ ALM (M 101) a b c) ∨ (r = 0 ∧ ¬ ALM (M 101) a b c)) ∧ (¬ ((0 ≤ a ∧ a < M 99 0) ∧ (0 ≤ b ∧ b < M 99 0) ∧ (0 ≤ c ∧ c ≤ 3)) → r = -1)))) 0 [(0, vr X 97), (1, vi a), (2, vi b), (3, vi c)] [] M
  have p0 := hi.1.1
  have p1 := hi.1.2.1
  have p2 := hi.1.2.2.1
  have p3 := hi.1.2.2.2.1
  have p12 := hi.2.2.2.1
  refine g_aload_n (pc' := 1) 0 dX10_alike_0 rfl rfl ?_
  refine g_iconst (pc' := 2) dX10_alike_1 rfl ?_
  refine g_putI (pc' := 5) dX10_alike_2 rfl p_X10_77 rfl rfl (by decide) (fun M1 hM1 => ?_)
  have iM1 : IM M1 := IM.wr hi hM1 (by unfold okv; first | decide | omega)
  have fM1 : Fr (fun c => c = 97) M M1 := Fr.wr Fr.rf hM1 (by first | decide | omega | (dsimp only; omega))
  have q99_0_M1 : (M1 99 0 = M 99 0) := (show M1 99 0 = M 99 0 by rw [hM1]; exact mu_ne _ _ (by first | decide | omega))
  have q99_1_M1 : (M1 99 1 = M 99 1) := (show M1 99 1 = M 99 1 by rw [hM1]; exact mu_ne _ _ (by first | decide | omega))
  have q99_2_M1 : (M1 99 2 = M 99 2) := (show M1 99 2 = M 99 2 by rw [hM1]; exact mu_ne _ _ (by first | decide | omega))
  have q99_3_M1 : (M1 99 3 = M 99 3) := (show M1 99 3 = M 99 3 by rw [hM1]; exact mu_ne _ _ (by first | decide | omega))
  have q100_0_M1 : id (M1 100 0 = M 100 0) := (show M1 100 0 = M 100 0 by rw [hM1]; exact mu_ne _ _ (by first | decide | omega))
  have q100_1_M1 : id (M1 100 1 = M 100 1) := (show M1 100 1 = M 100 1 by rw [hM1]; exact mu_ne _ _ (by first | decide | omega))
  have q100_2_M1 : id (M1 100 2 = M 100 2) := (show M1 100 2 = M 100 2 by rw [hM1]; exact mu_ne _ _ (by first | decide | omega))
  have q100_3_M1 : id (M1 100 3 = M 100 3) := (show M1 100 3 = M 100 3 by rw [hM1]; exact mu_ne _ _ (by first | decide | omega))
  have q100_49_M1 : id (M1 100 49 = M 100 49) := (show M1 100 49 = M 100 49 by rw [hM1]; exact mu_ne _ _ (by first | decide | omega))
  have q100_50_M1 : id (M1 100 50 = M 100 50) := (show M1 100 50 = M 100 50 by rw [hM1]; exact mu_ne _ _ (by first | decide | omega))
  have q100_51_M1 : id (M1 100 51 = M 100 51) := (show M1 100 51 = M 100 51 by rw [hM1]; exact mu_ne _ _ (by first | decide | omega))
  have q100_52_M1 : id (M1 100 52 = M 100 52) := (show M1 100 52 = M 100 52 by rw [hM1]; exact mu_ne _ _ (by first | decide | omega))
  have q103_0_M1 : id (M1 103 0 = M 103 0) := (show M1 103 0 = M 103 0 by rw [hM1]; exact mu_ne _ _ (by first | decide | omega))
  have q103_1_M1 : id (M1 103 1 = M 103 1) := (show M1 103 1 = M 103 1 by rw [hM1]; exact mu_ne _ _ (by first | decide | omega))
  have q97_12_M1 : (M1 97 12 = M 97 12) := (show M1 97 12 = M 97 12 by rw [hM1]; exact mu_ne _ _ (by first | decide | omega))
  have q97_17_M1 : (M1 97 17 = M 97 17) := (show M1 97 17 = M 97 17 by rw [hM1]; exact mu_ne _ _ (by first | decide | omega))
  have q97_33_M1 : (M1 97 33 = M 97 33) := (show M1 97 33 = M 97 33 by rw [hM1]; exact mu_ne _ _ (by first | decide | omega))
  have q97_10_M1 : (M1 97 10 = M 97 10) := (show M1 97 10 = M 97 10 by rw [hM1]; exact mu_ne _ _ (by first | decide | omega))
  have q97_44_M1 : (M1 97 44 = M 97 44) := (show M1 97 44 = M 97 44 by rw [hM1]; exact mu_ne _ _ (by first | decide | omega))
  have q97_1_M1 : (M1 97 1 = M 97 1) := (show M1 97 1 = M 97 1 by rw [hM1]; exact mu_ne _ _ (by first | decide | omega))
  have xM1_97_0 : M1 97 0 = 0 := by rw [hM1]; exact mu_at _ _ _ _
  have c98M1 : M1 98 = M 98 := (by rw [hM1]; exact mu_cell _ _ (by decide))
  have c99M1 : M1 99 = M 99 := (by rw [hM1]; exact mu_cell _ _ (by decide))
  have c101M1 : M1 101 = M 101 := (by rw [hM1]; exact mu_cell _ _ (by decide))
  refine g_aload_n (pc' := 6) 0 dX10_alike_5 rfl rfl ?_
  refine g_iload_n (pc' := 7) 1 dX10_alike_6 rfl rfl ?_
  refine g_callVip (pc' := 10) (As := [vi a]) (b := 97) (S := []) dX10_alike_7 rfl m_X10_102 w_X10_isGlass (c_X10_isGlass X M1 iM1 a ha) rfl ⟨_, _, _, rfl, rfl, rfl⟩ (by decide) (by decide) rfl (Nat.le_of_ble_eq_true rfl) (fun z3 q2 => ?_)
  refine g_if_eq (pc' := 13) (tgt := 28) ⟨by omega, by omega⟩ dX10_alike_10 rfl rfl (fun c4 => ?_) (fun c4 => ?_)
  · replace q2 := q2.resolve_left (fun h => absurd (c4.symm.trans h.1) (by decide))
    refine g_iconst (pc' := 29) dX10_alike_28 rfl ?_
    refine g_ireturn dX10_alike_29 ?_
    exact ⟨iM1, fM1, q99_0_M1, q99_1_M1, q99_2_M1, q99_3_M1, q100_0_M1, q100_1_M1, q100_2_M1, q100_3_M1, q100_49_M1, q100_50_M1, q100_51_M1, q100_52_M1, q103_0_M1, q103_1_M1, q97_12_M1, q97_17_M1, q97_33_M1, q97_10_M1, q97_44_M1, q97_1_M1, fun q => by omega, fun q => by omega⟩
  · replace q2 := q2.resolve_right (fun h => c4 h.1)
    refine g_aload_n (pc' := 14) 0 dX10_alike_13 rfl rfl ?_
    refine g_iload_n (pc' := 15) 2 dX10_alike_14 rfl rfl ?_
    refine g_callVip (pc' := 18) (As := [vi b]) (b := 97) (S := []) dX10_alike_15 rfl m_X10_102 w_X10_isGlass (c_X10_isGlass X M1 iM1 b hb) rfl ⟨_, _, _, rfl, rfl, rfl⟩ (by decide) (by decide) rfl (Nat.le_of_ble_eq_true rfl) (fun z6 q5 => ?_)
    refine g_if_eq (pc' := 21) (tgt := 28) ⟨by omega, by omega⟩ dX10_alike_18 rfl rfl (fun c7 => ?_) (fun c7 => ?_)
    · replace q5 := q5.resolve_left (fun h => absurd (c7.symm.trans h.1) (by decide))
      refine g_iconst (pc' := 29) dX10_alike_28 rfl ?_
      refine g_ireturn dX10_alike_29 ?_
      exact ⟨iM1, fM1, q99_0_M1, q99_1_M1, q99_2_M1, q99_3_M1, q100_0_M1, q100_1_M1, q100_2_M1, q100_3_M1, q100_49_M1, q100_50_M1, q100_51_M1, q100_52_M1, q103_0_M1, q103_1_M1, q97_12_M1, q97_17_M1, q97_33_M1, q97_10_M1, q97_44_M1, q97_1_M1, fun q => by omega, fun q => by omega⟩
    · replace q5 := q5.resolve_right (fun h => c7 h.1)
      refine g_iload_n (pc' := 22) 3 dX10_alike_21 rfl rfl ?_
      refine g_callSip (pc' := 25) (As := [vi c]) (S := []) dX10_alike_22 rfl m_X10_105 w_X10_isStuff (c_X10_isStuff X M1 c hc) rfl (by decide) (by decide) rfl (Nat.le_of_ble_eq_true rfl) (fun z9 q8 => ?_)
      refine g_if_ne (pc' := 28) (tgt := 30) ⟨by omega, by omega⟩ dX10_alike_25 rfl rfl (fun c10 => ?_) (fun c10 => ?_)
      · replace q8 := q8.resolve_right (fun h => c10 h.1)
        refine g_aload_n (pc' := 31) 0 dX10_alike_30 rfl rfl ?_
        refine g_iload_n (pc' := 32) 1 dX10_alike_31 rfl rfl ?_
        refine g_callVip (pc' := 35) (As := [vi a]) (b := 97) (S := []) dX10_alike_32 rfl m_X10_99 w_X10_full (c_X10_full X M1 iM1 a ha ⟨by omega, by omega⟩) rfl ⟨_, _, _, rfl, rfl, rfl⟩ (by decide) (by decide) rfl (Nat.le_of_ble_eq_true rfl) (fun z12 q11 => ?_)
        have flz12 : flm (M 101) (a).toNat = z12 := by rw [← c101M1]; exact flm_at iM1.2.1.1.1 (by unfold sm4; exact q11.2.symm)
        have fbz12 := q11.1
        refine g_istore (pc' := 37) (L' := [(4, vi z12), (0, vr X 97), (1, vi a), (2, vi b), (3, vi c)]) dX10_alike_35 rfl (by decide) rfl ?_
        refine g_aload_n (pc' := 38) 1 dX10_alike_37 rfl rfl ?_
        refine g_iload_n (pc' := 39) 3 dX10_alike_38 rfl rfl ?_
        refine g_callVip (pc' := 42) (As := [vi b]) (b := 97) (S := []) dX10_alike_39 rfl m_X10_99 w_X10_full (c_X10_full X M1 iM1 b hb ⟨by omega, by omega⟩) rfl ⟨_, _, _, rfl, rfl, rfl⟩ (by decide) (by decide) rfl (Nat.le_of_ble_eq_true rfl) (fun z14 q13 => ?_)
        have flz14 : flm (M 101) (b).toNat = z14 := by rw [← c101M1]; exact flm_at iM1.2.1.1.1 (by unfold sm4; exact q13.2.symm)
        have fbz14 := q13.1
        refine g_istore (pc' := 44) (L' := [(5, vi z14), (4, vi z12), (0, vr X 97), (1, vi a), (2, vi b), (3, vi c)]) dX10_alike_42 rfl (by decide) rfl ?_
        refine g_iload (pc' := 46) 1 dX10_alike_44 rfl rfl ?_
        refine g_if_ne (pc' := 49) (tgt := 53) ⟨by omega, by omega⟩ dX10_alike_46 rfl rfl (fun c15 => ?_) (fun c15 => ?_)
        · refine g_aload_n (pc' := 54) 2 dX10_alike_53 rfl rfl ?_
          refine g_getR (pc' := 57) dX10_alike_54 rfl f_X10_19 rfl rfl ?_
          refine g_iconst (pc' := 58) dX10_alike_57 rfl ?_
          refine g_iload_n (pc' := 59) 3 dX10_alike_58 rfl rfl ?_
          refine g_imul (pc' := 60) dX10_alike_59 rfl ?_
          refine g_iload_n (pc' := 61) 5 dX10_alike_60 rfl rfl ?_
          refine g_iadd (pc' := 62) dX10_alike_61 rfl ?_
          refine g_lald (pc' := 63) dX10_alike_62 rfl rfl (by omega) (by omega) (fun v16 ev16 rv16 => ?_)
          have bv16 : 0 ≤ v16 ∧ v16 ≤ 6000000000000000 := by rw [ev16]; exact PIw.le iM1.2.1 (by omega)
          have mv16 : v16 = M 101 ((4 * a) + c).toNat := ev16.trans (congrFun c101M1 _)
          refine g_lstore (pc' := 65) (L' := [(6, vl v16), (5, vi z14), (4, vi z12), (0, vr X 97), (1, vi a), (2, vi b), (3, vi c)]) dX10_alike_63 rfl (by decide) rfl ?_
          refine g_iload (pc' := 67) 1 dX10_alike_65 rfl rfl ?_
          refine g_if_ne (pc' := 70) (tgt := 74) ⟨by omega, by omega⟩ dX10_alike_67 rfl rfl (fun c17 => ?_) (fun c17 => ?_)
          · refine g_aload_n (pc' := 75) 3 dX10_alike_74 rfl rfl ?_
            refine g_getR (pc' := 78) dX10_alike_75 rfl f_X10_19 rfl rfl ?_
            refine g_iconst (pc' := 79) dX10_alike_78 rfl ?_
            refine g_iload_n (pc' := 80) 5 dX10_alike_79 rfl rfl ?_
            refine g_imul (pc' := 81) dX10_alike_80 rfl ?_
            refine g_iload_n (pc' := 82) 6 dX10_alike_81 rfl rfl ?_
            refine g_iadd (pc' := 83) dX10_alike_82 rfl ?_
            refine g_lald (pc' := 84) dX10_alike_83 rfl rfl (by omega) (by omega) (fun v18 ev18 rv18 => ?_)
            have bv18 : 0 ≤ v18 ∧ v18 ≤ 6000000000000000 := by rw [ev18]; exact PIw.le iM1.2.1 (by omega)
            have mv18 : v18 = M 101 ((4 * b) + c).toNat := ev18.trans (congrFun c101M1 _)
            refine g_lstore (pc' := 86) (L' := [(8, vl v18), (6, vl v16), (5, vi z14), (4, vi z12), (0, vr X 97), (1, vi a), (2, vi b), (3, vi c)]) dX10_alike_84 rfl (by decide) rfl ?_
            refine g_lload (pc' := 88) 1 dX10_alike_86 rfl rfl ?_
            refine g_iload (pc' := 90) 2 dX10_alike_88 rfl rfl ?_
            refine g_if_ne (pc' := 93) (tgt := 97) ⟨by omega, by omega⟩ dX10_alike_90 rfl rfl (fun c19 => ?_) (fun c19 => ?_)
            · refine g_iload (pc' := 99) 2 dX10_alike_97 rfl rfl ?_
              refine g_i2l (pc' := 100) ⟨by omega, by omega⟩ dX10_alike_99 rfl ?_
              refine g_lmul (pc' := 101) dX10_alike_100 rfl ?_
              obtain ⟨xa, hxa⟩ : ∃ z : Int, z = v16 * z14 := ⟨_, rfl⟩
              rw [← hxa]
              have bxa : 0 ≤ xa ∧ xa ≤ 360000000000000000 := by rw [hxa]; exact mulG (by omega) (by omega) (by omega) (by omega)
              refine g_lload (pc' := 103) 0 dX10_alike_101 rfl rfl ?_
              refine g_iload (pc' := 105) 3 dX10_alike_103 rfl rfl ?_
              refine g_if_ne (pc' := 108) (tgt := 112) ⟨by omega, by omega⟩ dX10_alike_105 rfl rfl (fun c20 => ?_) (fun c20 => ?_)
              · refine g_iload (pc' := 114) 3 dX10_alike_112 rfl rfl ?_
                refine g_i2l (pc' := 115) ⟨by omega, by omega⟩ dX10_alike_114 rfl ?_
                refine g_lmul (pc' := 116) dX10_alike_115 rfl ?_
                obtain ⟨xb, hxb⟩ : ∃ z : Int, z = v18 * z12 := ⟨_, rfl⟩
                rw [← hxb]
                have bxb : 0 ≤ xb ∧ xb ≤ 360000000000000000 := by rw [hxb]; exact mulG (by omega) (by omega) (by omega) (by omega)
                refine g_lc_ne (pc' := 120) (tgt := 124) ⟨by omega, by omega⟩ ⟨by omega, by omega⟩ dX10_alike_116 dX10_alike_117 rfl rfl (fun c21 => ?_) (fun c21 => ?_)
                · refine g_iconst (pc' := 125) dX10_alike_124 rfl ?_
                  refine g_ireturn dX10_alike_125 ?_
                  first | exact False.elim (by omega) | (have hal : ALM (M 101) a b c ↔ xa = xb := (by unfold ALM; rw [flz12, flz14, if_neg (show ¬ z12 = 0 by omega), if_neg (show ¬ z12 = 0 by omega), if_neg (show ¬ z14 = 0 by omega), if_neg (show ¬ z14 = 0 by omega), ← mv16, ← mv18, hxa, hxb]); exact ⟨iM1, fM1, q99_0_M1, q99_1_M1, q99_2_M1, q99_3_M1, q100_0_M1, q100_1_M1, q100_2_M1, q100_3_M1, q100_49_M1, q100_50_M1, q100_51_M1, q100_52_M1, q103_0_M1, q103_1_M1, q97_12_M1, q97_17_M1, q97_33_M1, q97_10_M1, q97_44_M1, q97_1_M1, fun q => Or.inr ⟨rfl, by rw [hal]; omega⟩, fun q => by omega⟩)
                · refine g_iconst (pc' := 121) dX10_alike_120 rfl ?_
                  refine g_goto (tgt := 125) dX10_alike_121 rfl ?_
                  refine g_ireturn dX10_alike_125 ?_
                  first | exact False.elim (by omega) | (have hal : ALM (M 101) a b c ↔ xa = xb := (by unfold ALM; rw [flz12, flz14, if_neg (show ¬ z12 = 0 by omega), if_neg (show ¬ z12 = 0 by omega), if_neg (show ¬ z14 = 0 by omega), if_neg (show ¬ z14 = 0 by omega), ← mv16, ← mv18, hxa, hxb]); exact ⟨iM1, fM1, q99_0_M1, q99_1_M1, q99_2_M1, q99_3_M1, q100_0_M1, q100_1_M1, q100_2_M1, q100_3_M1, q100_49_M1, q100_50_M1, q100_51_M1, q100_52_M1, q103_0_M1, q103_1_M1, q97_12_M1, q97_17_M1, q97_33_M1, q97_10_M1, q97_44_M1, q97_1_M1, fun q => Or.inl ⟨rfl, by rw [hal]; omega⟩, fun q => by omega⟩)
              · refine g_iconst (pc' := 109) dX10_alike_108 rfl ?_
                refine g_goto (tgt := 114) dX10_alike_109 rfl ?_
                refine g_i2l (pc' := 115) (by decide) dX10_alike_114 rfl ?_
                refine g_lmul (pc' := 116) dX10_alike_115 rfl ?_
                obtain ⟨xb, hxb⟩ : ∃ z : Int, z = v18 * 1 := ⟨_, rfl⟩
                rw [← hxb]
                have bxb : 0 ≤ xb ∧ xb ≤ 360000000000000000 := by rw [hxb]; exact mulG (by omega) (by omega) (by omega) (by omega)
                refine g_lc_ne (pc' := 120) (tgt := 124) ⟨by omega, by omega⟩ ⟨by omega, by omega⟩ dX10_alike_116 dX10_alike_117 rfl rfl (fun c22 => ?_) (fun c22 => ?_)
                · refine g_iconst (pc' := 125) dX10_alike_124 rfl ?_
                  refine g_ireturn dX10_alike_125 ?_
                  first | exact False.elim (by omega) | (have hal : ALM (M 101) a b c ↔ xa = xb := (by unfold ALM; rw [flz12, flz14, if_neg (show ¬ z12 = 0 by omega), if_neg (show ¬ z12 = 0 by omega), if_neg (show ¬ z14 = 0 by omega), if_neg (show ¬ z14 = 0 by omega), ← mv16, ← mv18, hxa, hxb]); exact ⟨iM1, fM1, q99_0_M1, q99_1_M1, q99_2_M1, q99_3_M1, q100_0_M1, q100_1_M1, q100_2_M1, q100_3_M1, q100_49_M1, q100_50_M1, q100_51_M1, q100_52_M1, q103_0_M1, q103_1_M1, q97_12_M1, q97_17_M1, q97_33_M1, q97_10_M1, q97_44_M1, q97_1_M1, fun q => Or.inr ⟨rfl, by rw [hal]; omega⟩, fun q => by omega⟩)
                · refine g_iconst (pc' := 121) dX10_alike_120 rfl ?_
                  refine g_goto (tgt := 125) dX10_alike_121 rfl ?_
                  refine g_ireturn dX10_alike_125 ?_
                  first | exact False.elim (by omega) | (have hal : ALM (M 101) a b c ↔ xa = xb := (by unfold ALM; rw [flz12, flz14, if_neg (show ¬ z12 = 0 by omega), if_neg (show ¬ z12 = 0 by omega), if_neg (show ¬ z14 = 0 by omega), if_neg (show ¬ z14 = 0 by omega), ← mv16, ← mv18, hxa, hxb]); exact ⟨iM1, fM1, q99_0_M1, q99_1_M1, q99_2_M1, q99_3_M1, q100_0_M1, q100_1_M1, q100_2_M1, q100_3_M1, q100_49_M1, q100_50_M1, q100_51_M1, q100_52_M1, q103_0_M1, q103_1_M1, q97_12_M1, q97_17_M1, q97_33_M1, q97_10_M1, q97_44_M1, q97_1_M1, fun q => Or.inl ⟨rfl, by rw [hal]; omega⟩, fun q => by omega⟩)
            · refine g_iconst (pc' := 94) dX10_alike_93 rfl ?_
              refine g_goto (tgt := 99) dX10_alike_94 rfl ?_
              refine g_i2l (pc' := 100) (by decide) dX10_alike_99 rfl ?_
              refine g_lmul (pc' := 101) dX10_alike_100 rfl ?_
              obtain ⟨xa, hxa⟩ : ∃ z : Int, z = v16 * 1 := ⟨_, rfl⟩
              rw [← hxa]
              have bxa : 0 ≤ xa ∧ xa ≤ 360000000000000000 := by rw [hxa]; exact mulG (by omega) (by omega) (by omega) (by omega)
              refine g_lload (pc' := 103) 0 dX10_alike_101 rfl rfl ?_
              refine g_iload (pc' := 105) 3 dX10_alike_103 rfl rfl ?_
              refine g_if_ne (pc' := 108) (tgt := 112) ⟨by omega, by omega⟩ dX10_alike_105 rfl rfl (fun c23 => ?_) (fun c23 => ?_)
              · refine g_iload (pc' := 114) 3 dX10_alike_112 rfl rfl ?_
                refine g_i2l (pc' := 115) ⟨by omega, by omega⟩ dX10_alike_114 rfl ?_
                refine g_lmul (pc' := 116) dX10_alike_115 rfl ?_
                obtain ⟨xb, hxb⟩ : ∃ z : Int, z = v18 * z12 := ⟨_, rfl⟩
                rw [← hxb]
                have bxb : 0 ≤ xb ∧ xb ≤ 360000000000000000 := by rw [hxb]; exact mulG (by omega) (by omega) (by omega) (by omega)
                refine g_lc_ne (pc' := 120) (tgt := 124) ⟨by omega, by omega⟩ ⟨by omega, by omega⟩ dX10_alike_116 dX10_alike_117 rfl rfl (fun c24 => ?_) (fun c24 => ?_)
                · refine g_iconst (pc' := 125) dX10_alike_124 rfl ?_
                  refine g_ireturn dX10_alike_125 ?_
                  first | exact False.elim (by omega) | (have hal : ALM (M 101) a b c ↔ xa = xb := (by unfold ALM; rw [flz12, flz14, if_neg (show ¬ z12 = 0 by omega), if_neg (show ¬ z12 = 0 by omega), if_neg (show ¬ z14 = 0 by omega), if_neg (show ¬ z14 = 0 by omega), ← mv16, ← mv18, hxa, hxb]); exact ⟨iM1, fM1, q99_0_M1, q99_1_M1, q99_2_M1, q99_3_M1, q100_0_M1, q100_1_M1, q100_2_M1, q100_3_M1, q100_49_M1, q100_50_M1, q100_51_M1, q100_52_M1, q103_0_M1, q103_1_M1, q97_12_M1, q97_17_M1, q97_33_M1, q97_10_M1, q97_44_M1, q97_1_M1, fun q => Or.inr ⟨rfl, by rw [hal]; omega⟩, fun q => by omega⟩)
                · refine g_iconst (pc' := 121) dX10_alike_120 rfl ?_
                  refine g_goto (tgt := 125) dX10_alike_121 rfl ?_
                  refine g_ireturn dX10_alike_125 ?_
                  first | exact False.elim (by omega) | (have hal : ALM (M 101) a b c ↔ xa = xb := (by unfold ALM; rw [flz12, flz14, if_neg (show ¬ z12 = 0 by omega), if_neg (show ¬ z12 = 0 by omega), if_neg (show ¬ z14 = 0 by omega), if_neg (show ¬ z14 = 0 by omega), ← mv16, ← mv18, hxa, hxb]); exact ⟨iM1, fM1, q99_0_M1, q99_1_M1, q99_2_M1, q99_3_M1, q100_0_M1, q100_1_M1, q100_2_M1, q100_3_M1, q100_49_M1, q100_50_M1, q100_51_M1, q100_52_M1, q103_0_M1, q103_1_M1, q97_12_M1, q97_17_M1, q97_33_M1, q97_10_M1, q97_44_M1, q97_1_M1, fun q => Or.inl ⟨rfl, by rw [hal]; omega⟩, fun q => by omega⟩)
              · refine g_iconst (pc' := 109) dX10_alike_108 rfl ?_
                refine g_goto (tgt := 114) dX10_alike_109 rfl ?_
                refine g_i2l (pc' := 115) (by decide) dX10_alike_114 rfl ?_
                refine g_lmul (pc' := 116) dX10_alike_115 rfl ?_
                obtain ⟨xb, hxb⟩ : ∃ z : Int, z = v18 * 1 := ⟨_, rfl⟩
                rw [← hxb]
                have bxb : 0 ≤ xb ∧ xb ≤ 360000000000000000 := by rw [hxb]; exact mulG (by omega) (by omega) (by omega) (by omega)
                refine g_lc_ne (pc' := 120) (tgt := 124) ⟨by omega, by omega⟩ ⟨by omega, by omega⟩ dX10_alike_116 dX10_alike_117 rfl rfl (fun c25 => ?_) (fun c25 => ?_)
                · refine g_iconst (pc' := 125) dX10_alike_124 rfl ?_
                  refine g_ireturn dX10_alike_125 ?_
                  first | exact False.elim (by omega) | (have hal : ALM (M 101) a b c ↔ xa = xb := (by unfold ALM; rw [flz12, flz14, if_neg (show ¬ z12 = 0 by omega), if_neg (show ¬ z12 = 0 by omega), if_neg (show ¬ z14 = 0 by omega), if_neg (show ¬ z14 = 0 by omega), ← mv16, ← mv18, hxa, hxb]); exact ⟨iM1, fM1, q99_0_M1, q99_1_M1, q99_2_M1, q99_3_M1, q100_0_M1, q100_1_M1, q100_2_M1, q100_3_M1, q100_49_M1, q100_50_M1, q100_51_M1, q100_52_M1, q103_0_M1, q103_1_M1, q97_12_M1, q97_17_M1, q97_33_M1, q97_10_M1, q97_44_M1, q97_1_M1, fun q => Or.inr ⟨rfl, by rw [hal]; omega⟩, fun q => by omega⟩)
                · refine g_iconst (pc' := 121) dX10_alike_120 rfl ?_
                  refine g_goto (tgt := 125) dX10_alike_121 rfl ?_
                  refine g_ireturn dX10_alike_125 ?_
                  first | exact False.elim (by omega) | (have hal : ALM (M 101) a b c ↔ xa = xb := (by unfold ALM; rw [flz12, flz14, if_neg (show ¬ z12 = 0 by omega), if_neg (show ¬ z12 = 0 by omega), if_neg (show ¬ z14 = 0 by omega), if_neg (show ¬ z14 = 0 by omega), ← mv16, ← mv18, hxa, hxb]); exact ⟨iM1, fM1, q99_0_M1, q99_1_M1, q99_2_M1, q99_3_M1, q100_0_M1, q100_1_M1, q100_2_M1, q100_3_M1, q100_49_M1, q100_50_M1, q100_51_M1, q100_52_M1, q103_0_M1, q103_1_M1, q97_12_M1, q97_17_M1, q97_33_M1, q97_10_M1, q97_44_M1, q97_1_M1, fun q => Or.inl ⟨rfl, by rw [hal]; omega⟩, fun q => by omega⟩)
          · refine g_lconst (pc' := 71) (v := 0) dX10_alike_70 rfl (by decide) ?_
            refine g_goto (tgt := 84) dX10_alike_71 rfl ?_
            refine g_lstore (pc' := 86) (L' := [(8, vl 0), (6, vl v16), (5, vi z14), (4, vi z12), (0, vr X 97), (1, vi a), (2, vi b), (3, vi c)]) dX10_alike_84 rfl (by decide) rfl ?_
            refine g_lload (pc' := 88) 1 dX10_alike_86 rfl rfl ?_
            refine g_iload (pc' := 90) 2 dX10_alike_88 rfl rfl ?_
            refine g_if_ne (pc' := 93) (tgt := 97) ⟨by omega, by omega⟩ dX10_alike_90 rfl rfl (fun c26 => ?_) (fun c26 => ?_)
            · refine g_iload (pc' := 99) 2 dX10_alike_97 rfl rfl ?_
              refine g_i2l (pc' := 100) ⟨by omega, by omega⟩ dX10_alike_99 rfl ?_
              refine g_lmul (pc' := 101) dX10_alike_100 rfl ?_
              obtain ⟨xa, hxa⟩ : ∃ z : Int, z = v16 * z14 := ⟨_, rfl⟩
              rw [← hxa]
              have bxa : 0 ≤ xa ∧ xa ≤ 360000000000000000 := by rw [hxa]; exact mulG (by omega) (by omega) (by omega) (by omega)
              refine g_lload (pc' := 103) 0 dX10_alike_101 rfl rfl ?_
              refine g_iload (pc' := 105) 3 dX10_alike_103 rfl rfl ?_
              refine g_if_ne (pc' := 108) (tgt := 112) ⟨by omega, by omega⟩ dX10_alike_105 rfl rfl (fun c27 => ?_) (fun c27 => ?_)
              · refine g_iload (pc' := 114) 3 dX10_alike_112 rfl rfl ?_
                refine g_i2l (pc' := 115) ⟨by omega, by omega⟩ dX10_alike_114 rfl ?_
                refine g_lmul (pc' := 116) dX10_alike_115 rfl ?_
                obtain ⟨xb, hxb⟩ : ∃ z : Int, z = 0 * z12 := ⟨_, rfl⟩
                rw [← hxb]
                have bxb : 0 ≤ xb ∧ xb ≤ 360000000000000000 := by rw [hxb]; exact mulG (by omega) (by omega) (by omega) (by omega)
                refine g_lc_ne (pc' := 120) (tgt := 124) ⟨by omega, by omega⟩ ⟨by omega, by omega⟩ dX10_alike_116 dX10_alike_117 rfl rfl (fun c28 => ?_) (fun c28 => ?_)
                · refine g_iconst (pc' := 125) dX10_alike_124 rfl ?_
                  refine g_ireturn dX10_alike_125 ?_
                  first | exact False.elim (by omega) | (have hal : ALM (M 101) a b c ↔ xa = xb := (by unfold ALM; rw [flz12, flz14, if_neg (show ¬ z12 = 0 by omega), if_neg (show ¬ z12 = 0 by omega), if_pos (show z14 = 0 by omega), if_pos (show z14 = 0 by omega), ← mv16, hxa, hxb]); exact ⟨iM1, fM1, q99_0_M1, q99_1_M1, q99_2_M1, q99_3_M1, q100_0_M1, q100_1_M1, q100_2_M1, q100_3_M1, q100_49_M1, q100_50_M1, q100_51_M1, q100_52_M1, q103_0_M1, q103_1_M1, q97_12_M1, q97_17_M1, q97_33_M1, q97_10_M1, q97_44_M1, q97_1_M1, fun q => Or.inr ⟨rfl, by rw [hal]; omega⟩, fun q => by omega⟩)
                · refine g_iconst (pc' := 121) dX10_alike_120 rfl ?_
                  refine g_goto (tgt := 125) dX10_alike_121 rfl ?_
                  refine g_ireturn dX10_alike_125 ?_
                  first | exact False.elim (by omega) | (have hal : ALM (M 101) a b c ↔ xa = xb := (by unfold ALM; rw [flz12, flz14, if_neg (show ¬ z12 = 0 by omega), if_neg (show ¬ z12 = 0 by omega), if_pos (show z14 = 0 by omega), if_pos (show z14 = 0 by omega), ← mv16, hxa, hxb]); exact ⟨iM1, fM1, q99_0_M1, q99_1_M1, q99_2_M1, q99_3_M1, q100_0_M1, q100_1_M1, q100_2_M1, q100_3_M1, q100_49_M1, q100_50_M1, q100_51_M1, q100_52_M1, q103_0_M1, q103_1_M1, q97_12_M1, q97_17_M1, q97_33_M1, q97_10_M1, q97_44_M1, q97_1_M1, fun q => Or.inl ⟨rfl, by rw [hal]; omega⟩, fun q => by omega⟩)
              · refine g_iconst (pc' := 109) dX10_alike_108 rfl ?_
                refine g_goto (tgt := 114) dX10_alike_109 rfl ?_
                refine g_i2l (pc' := 115) (by decide) dX10_alike_114 rfl ?_
                refine g_lmul (pc' := 116) dX10_alike_115 rfl ?_
                obtain ⟨xb, hxb⟩ : ∃ z : Int, z = 0 * 1 := ⟨_, rfl⟩
                rw [← hxb]
                have bxb : 0 ≤ xb ∧ xb ≤ 360000000000000000 := by rw [hxb]; exact mulG (by omega) (by omega) (by omega) (by omega)
                refine g_lc_ne (pc' := 120) (tgt := 124) ⟨by omega, by omega⟩ ⟨by omega, by omega⟩ dX10_alike_116 dX10_alike_117 rfl rfl (fun c29 => ?_) (fun c29 => ?_)
                · refine g_iconst (pc' := 125) dX10_alike_124 rfl ?_
                  refine g_ireturn dX10_alike_125 ?_
                  first | exact False.elim (by omega) | (have hal : ALM (M 101) a b c ↔ xa = xb := (by unfold ALM; rw [flz12, flz14, if_neg (show ¬ z12 = 0 by omega), if_neg (show ¬ z12 = 0 by omega), if_pos (show z14 = 0 by omega), if_pos (show z14 = 0 by omega), ← mv16, hxa, hxb]); exact ⟨iM1, fM1, q99_0_M1, q99_1_M1, q99_2_M1, q99_3_M1, q100_0_M1, q100_1_M1, q100_2_M1, q100_3_M1, q100_49_M1, q100_50_M1, q100_51_M1, q100_52_M1, q103_0_M1, q103_1_M1, q97_12_M1, q97_17_M1, q97_33_M1, q97_10_M1, q97_44_M1, q97_1_M1, fun q => Or.inr ⟨rfl, by rw [hal]; omega⟩, fun q => by omega⟩)
                · refine g_iconst (pc' := 121) dX10_alike_120 rfl ?_
                  refine g_goto (tgt := 125) dX10_alike_121 rfl ?_
                  refine g_ireturn dX10_alike_125 ?_
                  first | exact False.elim (by omega) | (have hal : ALM (M 101) a b c ↔ xa = xb := (by unfold ALM; rw [flz12, flz14, if_neg (show ¬ z12 = 0 by omega), if_neg (show ¬ z12 = 0 by omega), if_pos (show z14 = 0 by omega), if_pos (show z14 = 0 by omega), ← mv16, hxa, hxb]); exact ⟨iM1, fM1, q99_0_M1, q99_1_M1, q99_2_M1, q99_3_M1, q100_0_M1, q100_1_M1, q100_2_M1, q100_3_M1, q100_49_M1, q100_50_M1, q100_51_M1, q100_52_M1, q103_0_M1, q103_1_M1, q97_12_M1, q97_17_M1, q97_33_M1, q97_10_M1, q97_44_M1, q97_1_M1, fun q => Or.inl ⟨rfl, by rw [hal]; omega⟩, fun q => by omega⟩)
            · refine g_iconst (pc' := 94) dX10_alike_93 rfl ?_
              refine g_goto (tgt := 99) dX10_alike_94 rfl ?_
              refine g_i2l (pc' := 100) (by decide) dX10_alike_99 rfl ?_
              refine g_lmul (pc' := 101) dX10_alike_100 rfl ?_
              obtain ⟨xa, hxa⟩ : ∃ z : Int, z = v16 * 1 := ⟨_, rfl⟩
              rw [← hxa]
              have bxa : 0 ≤ xa ∧ xa ≤ 360000000000000000 := by rw [hxa]; exact mulG (by omega) (by omega) (by omega) (by omega)
              refine g_lload (pc' := 103) 0 dX10_alike_101 rfl rfl ?_
              refine g_iload (pc' := 105) 3 dX10_alike_103 rfl rfl ?_
              refine g_if_ne (pc' := 108) (tgt := 112) ⟨by omega, by omega⟩ dX10_alike_105 rfl rfl (fun c30 => ?_) (fun c30 => ?_)
              · refine g_iload (pc' := 114) 3 dX10_alike_112 rfl rfl ?_
                refine g_i2l (pc' := 115) ⟨by omega, by omega⟩ dX10_alike_114 rfl ?_
                refine g_lmul (pc' := 116) dX10_alike_115 rfl ?_
                obtain ⟨xb, hxb⟩ : ∃ z : Int, z = 0 * z12 := ⟨_, rfl⟩
                rw [← hxb]
                have bxb : 0 ≤ xb ∧ xb ≤ 360000000000000000 := by rw [hxb]; exact mulG (by omega) (by omega) (by omega) (by omega)
                refine g_lc_ne (pc' := 120) (tgt := 124) ⟨by omega, by omega⟩ ⟨by omega, by omega⟩ dX10_alike_116 dX10_alike_117 rfl rfl (fun c31 => ?_) (fun c31 => ?_)
                · refine g_iconst (pc' := 125) dX10_alike_124 rfl ?_
                  refine g_ireturn dX10_alike_125 ?_
                  first | exact False.elim (by omega) | (have hal : ALM (M 101) a b c ↔ xa = xb := (by unfold ALM; rw [flz12, flz14, if_neg (show ¬ z12 = 0 by omega), if_neg (show ¬ z12 = 0 by omega), if_pos (show z14 = 0 by omega), if_pos (show z14 = 0 by omega), ← mv16, hxa, hxb]); exact ⟨iM1, fM1, q99_0_M1, q99_1_M1, q99_2_M1, q99_3_M1, q100_0_M1, q100_1_M1, q100_2_M1, q100_3_M1, q100_49_M1, q100_50_M1, q100_51_M1, q100_52_M1, q103_0_M1, q103_1_M1, q97_12_M1, q97_17_M1, q97_33_M1, q97_10_M1, q97_44_M1, q97_1_M1, fun q => Or.inr ⟨rfl, by rw [hal]; omega⟩, fun q => by omega⟩)
                · refine g_iconst (pc' := 121) dX10_alike_120 rfl ?_
                  refine g_goto (tgt := 125) dX10_alike_121 rfl ?_
                  refine g_ireturn dX10_alike_125 ?_
                  first | exact False.elim (by omega) | (have hal : ALM (M 101) a b c ↔ xa = xb := (by unfold ALM; rw [flz12, flz14, if_neg (show ¬ z12 = 0 by omega), if_neg (show ¬ z12 = 0 by omega), if_pos (show z14 = 0 by omega), if_pos (show z14 = 0 by omega), ← mv16, hxa, hxb]); exact ⟨iM1, fM1, q99_0_M1, q99_1_M1, q99_2_M1, q99_3_M1, q100_0_M1, q100_1_M1, q100_2_M1, q100_3_M1, q100_49_M1, q100_50_M1, q100_51_M1, q100_52_M1, q103_0_M1, q103_1_M1, q97_12_M1, q97_17_M1, q97_33_M1, q97_10_M1, q97_44_M1, q97_1_M1, fun q => Or.inl ⟨rfl, by rw [hal]; omega⟩, fun q => by omega⟩)
              · refine g_iconst (pc' := 109) dX10_alike_108 rfl ?_
                refine g_goto (tgt := 114) dX10_alike_109 rfl ?_
                refine g_i2l (pc' := 115) (by decide) dX10_alike_114 rfl ?_
                refine g_lmul (pc' := 116) dX10_alike_115 rfl ?_
                obtain ⟨xb, hxb⟩ : ∃ z : Int, z = 0 * 1 := ⟨_, rfl⟩
                rw [← hxb]
                have bxb : 0 ≤ xb ∧ xb ≤ 360000000000000000 := by rw [hxb]; exact mulG (by omega) (by omega) (by omega) (by omega)
                refine g_lc_ne (pc' := 120) (tgt := 124) ⟨by omega, by omega⟩ ⟨by omega, by omega⟩ dX10_alike_116 dX10_alike_117 rfl rfl (fun c32 => ?_) (fun c32 => ?_)
                · refine g_iconst (pc' := 125) dX10_alike_124 rfl ?_
                  refine g_ireturn dX10_alike_125 ?_
                  first | exact False.elim (by omega) | (have hal : ALM (M 101) a b c ↔ xa = xb := (by unfold ALM; rw [flz12, flz14, if_neg (show ¬ z12 = 0 by omega), if_neg (show ¬ z12 = 0 by omega), if_pos (show z14 = 0 by omega), if_pos (show z14 = 0 by omega), ← mv16, hxa, hxb]); exact ⟨iM1, fM1, q99_0_M1, q99_1_M1, q99_2_M1, q99_3_M1, q100_0_M1, q100_1_M1, q100_2_M1, q100_3_M1, q100_49_M1, q100_50_M1, q100_51_M1, q100_52_M1, q103_0_M1, q103_1_M1, q97_12_M1, q97_17_M1, q97_33_M1, q97_10_M1, q97_44_M1, q97_1_M1, fun q => Or.inr ⟨rfl, by rw [hal]; omega⟩, fun q => by omega⟩)
                · refine g_iconst (pc' := 121) dX10_alike_120 rfl ?_
                  refine g_goto (tgt := 125) dX10_alike_121 rfl ?_
                  refine g_ireturn dX10_alike_125 ?_
                  first | exact False.elim (by omega) | (have hal : ALM (M 101) a b c ↔ xa = xb := (by unfold ALM; rw [flz12, flz14, if_neg (show ¬ z12 = 0 by omega), if_neg (show ¬ z12 = 0 by omega), if_pos (show z14 = 0 by omega), if_pos (show z14 = 0 by omega), ← mv16, hxa, hxb]); exact ⟨iM1, fM1, q99_0_M1, q99_1_M1, q99_2_M1, q99_3_M1, q100_0_M1, q100_1_M1, q100_2_M1, q100_3_M1, q100_49_M1, q100_50_M1, q100_51_M1, q100_52_M1, q103_0_M1, q103_1_M1, q97_12_M1, q97_17_M1, q97_33_M1, q97_10_M1, q97_44_M1, q97_1_M1, fun q => Or.inl ⟨rfl, by rw [hal]; omega⟩, fun q => by omega⟩)
        · refine g_lconst (pc' := 50) (v := 0) dX10_alike_49 rfl (by decide) ?_
          refine g_goto (tgt := 63) dX10_alike_50 rfl ?_
          refine g_lstore (pc' := 65) (L' := [(6, vl 0), (5, vi z14), (4, vi z12), (0, vr X 97), (1, vi a), (2, vi b), (3, vi c)]) dX10_alike_63 rfl (by decide) rfl ?_
          refine g_iload (pc' := 67) 1 dX10_alike_65 rfl rfl ?_
          refine g_if_ne (pc' := 70) (tgt := 74) ⟨by omega, by omega⟩ dX10_alike_67 rfl rfl (fun c33 => ?_) (fun c33 => ?_)
          · refine g_aload_n (pc' := 75) 3 dX10_alike_74 rfl rfl ?_
            refine g_getR (pc' := 78) dX10_alike_75 rfl f_X10_19 rfl rfl ?_
            refine g_iconst (pc' := 79) dX10_alike_78 rfl ?_
            refine g_iload_n (pc' := 80) 5 dX10_alike_79 rfl rfl ?_
            refine g_imul (pc' := 81) dX10_alike_80 rfl ?_
            refine g_iload_n (pc' := 82) 6 dX10_alike_81 rfl rfl ?_
            refine g_iadd (pc' := 83) dX10_alike_82 rfl ?_
            refine g_lald (pc' := 84) dX10_alike_83 rfl rfl (by omega) (by omega) (fun v34 ev34 rv34 => ?_)
            have bv34 : 0 ≤ v34 ∧ v34 ≤ 6000000000000000 := by rw [ev34]; exact PIw.le iM1.2.1 (by omega)
            have mv34 : v34 = M 101 ((4 * b) + c).toNat := ev34.trans (congrFun c101M1 _)
            refine g_lstore (pc' := 86) (L' := [(8, vl v34), (6, vl 0), (5, vi z14), (4, vi z12), (0, vr X 97), (1, vi a), (2, vi b), (3, vi c)]) dX10_alike_84 rfl (by decide) rfl ?_
            refine g_lload (pc' := 88) 1 dX10_alike_86 rfl rfl ?_
            refine g_iload (pc' := 90) 2 dX10_alike_88 rfl rfl ?_
            refine g_if_ne (pc' := 93) (tgt := 97) ⟨by omega, by omega⟩ dX10_alike_90 rfl rfl (fun c35 => ?_) (fun c35 => ?_)
            · refine g_iload (pc' := 99) 2 dX10_alike_97 rfl rfl ?_
              refine g_i2l (pc' := 100) ⟨by omega, by omega⟩ dX10_alike_99 rfl ?_
              refine g_lmul (pc' := 101) dX10_alike_100 rfl ?_
              obtain ⟨xa, hxa⟩ : ∃ z : Int, z = 0 * z14 := ⟨_, rfl⟩
              rw [← hxa]
              have bxa : 0 ≤ xa ∧ xa ≤ 360000000000000000 := by rw [hxa]; exact mulG (by omega) (by omega) (by omega) (by omega)
              refine g_lload (pc' := 103) 0 dX10_alike_101 rfl rfl ?_
              refine g_iload (pc' := 105) 3 dX10_alike_103 rfl rfl ?_
              refine g_if_ne (pc' := 108) (tgt := 112) ⟨by omega, by omega⟩ dX10_alike_105 rfl rfl (fun c36 => ?_) (fun c36 => ?_)
              · refine g_iload (pc' := 114) 3 dX10_alike_112 rfl rfl ?_
                refine g_i2l (pc' := 115) ⟨by omega, by omega⟩ dX10_alike_114 rfl ?_
                refine g_lmul (pc' := 116) dX10_alike_115 rfl ?_
                obtain ⟨xb, hxb⟩ : ∃ z : Int, z = v34 * z12 := ⟨_, rfl⟩
                rw [← hxb]
                have bxb : 0 ≤ xb ∧ xb ≤ 360000000000000000 := by rw [hxb]; exact mulG (by omega) (by omega) (by omega) (by omega)
                refine g_lc_ne (pc' := 120) (tgt := 124) ⟨by omega, by omega⟩ ⟨by omega, by omega⟩ dX10_alike_116 dX10_alike_117 rfl rfl (fun c37 => ?_) (fun c37 => ?_)
                · refine g_iconst (pc' := 125) dX10_alike_124 rfl ?_
                  refine g_ireturn dX10_alike_125 ?_
                  first | exact False.elim (by omega) | (have hal : ALM (M 101) a b c ↔ xa = xb := (by unfold ALM; rw [flz12, flz14, if_pos (show z12 = 0 by omega), if_pos (show z12 = 0 by omega), if_neg (show ¬ z14 = 0 by omega), if_neg (show ¬ z14 = 0 by omega), ← mv34, hxa, hxb]); exact ⟨iM1, fM1, q99_0_M1, q99_1_M1, q99_2_M1, q99_3_M1, q100_0_M1, q100_1_M1, q100_2_M1, q100_3_M1, q100_49_M1, q100_50_M1, q100_51_M1, q100_52_M1, q103_0_M1, q103_1_M1, q97_12_M1, q97_17_M1, q97_33_M1, q97_10_M1, q97_44_M1, q97_1_M1, fun q => Or.inr ⟨rfl, by rw [hal]; omega⟩, fun q => by omega⟩)
                · refine g_iconst (pc' := 121) dX10_alike_120 rfl ?_
                  refine g_goto (tgt := 125) dX10_alike_121 rfl ?_
                  refine g_ireturn dX10_alike_125 ?_
                  first | exact False.elim (by omega) | (have hal : ALM (M 101) a b c ↔ xa = xb := (by unfold ALM; rw [flz12, flz14, if_pos (show z12 = 0 by omega), if_pos (show z12 = 0 by omega), if_neg (show ¬ z14 = 0 by omega), if_neg (show ¬ z14 = 0 by omega), ← mv34, hxa, hxb]); exact ⟨iM1, fM1, q99_0_M1, q99_1_M1, q99_2_M1, q99_3_M1, q100_0_M1, q100_1_M1, q100_2_M1, q100_3_M1, q100_49_M1, q100_50_M1, q100_51_M1, q100_52_M1, q103_0_M1, q103_1_M1, q97_12_M1, q97_17_M1, q97_33_M1, q97_10_M1, q97_44_M1, q97_1_M1, fun q => Or.inl ⟨rfl, by rw [hal]; omega⟩, fun q => by omega⟩)
              · refine g_iconst (pc' := 109) dX10_alike_108 rfl ?_
                refine g_goto (tgt := 114) dX10_alike_109 rfl ?_
                refine g_i2l (pc' := 115) (by decide) dX10_alike_114 rfl ?_
                refine g_lmul (pc' := 116) dX10_alike_115 rfl ?_
                obtain ⟨xb, hxb⟩ : ∃ z : Int, z = v34 * 1 := ⟨_, rfl⟩
                rw [← hxb]
                have bxb : 0 ≤ xb ∧ xb ≤ 360000000000000000 := by rw [hxb]; exact mulG (by omega) (by omega) (by omega) (by omega)
                refine g_lc_ne (pc' := 120) (tgt := 124) ⟨by omega, by omega⟩ ⟨by omega, by omega⟩ dX10_alike_116 dX10_alike_117 rfl rfl (fun c38 => ?_) (fun c38 => ?_)
                · refine g_iconst (pc' := 125) dX10_alike_124 rfl ?_
                  refine g_ireturn dX10_alike_125 ?_
                  first | exact False.elim (by omega) | (have hal : ALM (M 101) a b c ↔ xa = xb := (by unfold ALM; rw [flz12, flz14, if_pos (show z12 = 0 by omega), if_pos (show z12 = 0 by omega), if_neg (show ¬ z14 = 0 by omega), if_neg (show ¬ z14 = 0 by omega), ← mv34, hxa, hxb]); exact ⟨iM1, fM1, q99_0_M1, q99_1_M1, q99_2_M1, q99_3_M1, q100_0_M1, q100_1_M1, q100_2_M1, q100_3_M1, q100_49_M1, q100_50_M1, q100_51_M1, q100_52_M1, q103_0_M1, q103_1_M1, q97_12_M1, q97_17_M1, q97_33_M1, q97_10_M1, q97_44_M1, q97_1_M1, fun q => Or.inr ⟨rfl, by rw [hal]; omega⟩, fun q => by omega⟩)
                · refine g_iconst (pc' := 121) dX10_alike_120 rfl ?_
                  refine g_goto (tgt := 125) dX10_alike_121 rfl ?_
                  refine g_ireturn dX10_alike_125 ?_
                  first | exact False.elim (by omega) | (have hal : ALM (M 101) a b c ↔ xa = xb := (by unfold ALM; rw [flz12, flz14, if_pos (show z12 = 0 by omega), if_pos (show z12 = 0 by omega), if_neg (show ¬ z14 = 0 by omega), if_neg (show ¬ z14 = 0 by omega), ← mv34, hxa, hxb]); exact ⟨iM1, fM1, q99_0_M1, q99_1_M1, q99_2_M1, q99_3_M1, q100_0_M1, q100_1_M1, q100_2_M1, q100_3_M1, q100_49_M1, q100_50_M1, q100_51_M1, q100_52_M1, q103_0_M1, q103_1_M1, q97_12_M1, q97_17_M1, q97_33_M1, q97_10_M1, q97_44_M1, q97_1_M1, fun q => Or.inl ⟨rfl, by rw [hal]; omega⟩, fun q => by omega⟩)
            · refine g_iconst (pc' := 94) dX10_alike_93 rfl ?_
              refine g_goto (tgt := 99) dX10_alike_94 rfl ?_
              refine g_i2l (pc' := 100) (by decide) dX10_alike_99 rfl ?_
              refine g_lmul (pc' := 101) dX10_alike_100 rfl ?_
              obtain ⟨xa, hxa⟩ : ∃ z : Int, z = 0 * 1 := ⟨_, rfl⟩
              rw [← hxa]
              have bxa : 0 ≤ xa ∧ xa ≤ 360000000000000000 := by rw [hxa]; exact mulG (by omega) (by omega) (by omega) (by omega)
              refine g_lload (pc' := 103) 0 dX10_alike_101 rfl rfl ?_
              refine g_iload (pc' := 105) 3 dX10_alike_103 rfl rfl ?_
              refine g_if_ne (pc' := 108) (tgt := 112) ⟨by omega, by omega⟩ dX10_alike_105 rfl rfl (fun c39 => ?_) (fun c39 => ?_)
              · refine g_iload (pc' := 114) 3 dX10_alike_112 rfl rfl ?_
                refine g_i2l (pc' := 115) ⟨by omega, by omega⟩ dX10_alike_114 rfl ?_
                refine g_lmul (pc' := 116) dX10_alike_115 rfl ?_
                obtain ⟨xb, hxb⟩ : ∃ z : Int, z = v34 * z12 := ⟨_, rfl⟩
                rw [← hxb]
                have bxb : 0 ≤ xb ∧ xb ≤ 360000000000000000 := by rw [hxb]; exact mulG (by omega) (by omega) (by omega) (by omega)
                refine g_lc_ne (pc' := 120) (tgt := 124) ⟨by omega, by omega⟩ ⟨by omega, by omega⟩ dX10_alike_116 dX10_alike_117 rfl rfl (fun c40 => ?_) (fun c40 => ?_)
                · refine g_iconst (pc' := 125) dX10_alike_124 rfl ?_
                  refine g_ireturn dX10_alike_125 ?_
                  first | exact False.elim (by omega) | (have hal : ALM (M 101) a b c ↔ xa = xb := (by unfold ALM; rw [flz12, flz14, if_pos (show z12 = 0 by omega), if_pos (show z12 = 0 by omega), if_neg (show ¬ z14 = 0 by omega), if_neg (show ¬ z14 = 0 by omega), ← mv34, hxa, hxb]); exact ⟨iM1, fM1, q99_0_M1, q99_1_M1, q99_2_M1, q99_3_M1, q100_0_M1, q100_1_M1, q100_2_M1, q100_3_M1, q100_49_M1, q100_50_M1, q100_51_M1, q100_52_M1, q103_0_M1, q103_1_M1, q97_12_M1, q97_17_M1, q97_33_M1, q97_10_M1, q97_44_M1, q97_1_M1, fun q => Or.inr ⟨rfl, by rw [hal]; omega⟩, fun q => by omega⟩)
                · refine g_iconst (pc' := 121) dX10_alike_120 rfl ?_
                  refine g_goto (tgt := 125) dX10_alike_121 rfl ?_
                  refine g_ireturn dX10_alike_125 ?_
                  first | exact False.elim (by omega) | (have hal : ALM (M 101) a b c ↔ xa = xb := (by unfold ALM; rw [flz12, flz14, if_pos (show z12 = 0 by omega), if_pos (show z12 = 0 by omega), if_neg (show ¬ z14 = 0 by omega), if_neg (show ¬ z14 = 0 by omega), ← mv34, hxa, hxb]); exact ⟨iM1, fM1, q99_0_M1, q99_1_M1, q99_2_M1, q99_3_M1, q100_0_M1, q100_1_M1, q100_2_M1, q100_3_M1, q100_49_M1, q100_50_M1, q100_51_M1, q100_52_M1, q103_0_M1, q103_1_M1, q97_12_M1, q97_17_M1, q97_33_M1, q97_10_M1, q97_44_M1, q97_1_M1, fun q => Or.inl ⟨rfl, by rw [hal]; omega⟩, fun q => by omega⟩)
              · refine g_iconst (pc' := 109) dX10_alike_108 rfl ?_
                refine g_goto (tgt := 114) dX10_alike_109 rfl ?_
                refine g_i2l (pc' := 115) (by decide) dX10_alike_114 rfl ?_
                refine g_lmul (pc' := 116) dX10_alike_115 rfl ?_
                obtain ⟨xb, hxb⟩ : ∃ z : Int, z = v34 * 1 := ⟨_, rfl⟩
                rw [← hxb]
                have bxb : 0 ≤ xb ∧ xb ≤ 360000000000000000 := by rw [hxb]; exact mulG (by omega) (by omega) (by omega) (by omega)
                refine g_lc_ne (pc' := 120) (tgt := 124) ⟨by omega, by omega⟩ ⟨by omega, by omega⟩ dX10_alike_116 dX10_alike_117 rfl rfl (fun c41 => ?_) (fun c41 => ?_)
                · refine g_iconst (pc' := 125) dX10_alike_124 rfl ?_
                  refine g_ireturn dX10_alike_125 ?_
                  first | exact False.elim (by omega) | (have hal : ALM (M 101) a b c ↔ xa = xb := (by unfold ALM; rw [flz12, flz14, if_pos (show z12 = 0 by omega), if_pos (show z12 = 0 by omega), if_neg (show ¬ z14 = 0 by omega), if_neg (show ¬ z14 = 0 by omega), ← mv34, hxa, hxb]); exact ⟨iM1, fM1, q99_0_M1, q99_1_M1, q99_2_M1, q99_3_M1, q100_0_M1, q100_1_M1, q100_2_M1, q100_3_M1, q100_49_M1, q100_50_M1, q100_51_M1, q100_52_M1, q103_0_M1, q103_1_M1, q97_12_M1, q97_17_M1, q97_33_M1, q97_10_M1, q97_44_M1, q97_1_M1, fun q => Or.inr ⟨rfl, by rw [hal]; omega⟩, fun q => by omega⟩)
                · refine g_iconst (pc' := 121) dX10_alike_120 rfl ?_
                  refine g_goto (tgt := 125) dX10_alike_121 rfl ?_
                  refine g_ireturn dX10_alike_125 ?_
                  first | exact False.elim (by omega) | (have hal : ALM (M 101) a b c ↔ xa = xb := (by unfold ALM; rw [flz12, flz14, if_pos (show z12 = 0 by omega), if_pos (show z12 = 0 by omega), if_neg (show ¬ z14 = 0 by omega), if_neg (show ¬ z14 = 0 by omega), ← mv34, hxa, hxb]); exact ⟨iM1, fM1, q99_0_M1, q99_1_M1, q99_2_M1, q99_3_M1, q100_0_M1, q100_1_M1, q100_2_M1, q100_3_M1, q100_49_M1, q100_50_M1, q100_51_M1, q100_52_M1, q103_0_M1, q103_1_M1, q97_12_M1, q97_17_M1, q97_33_M1, q97_10_M1, q97_44_M1, q97_1_M1, fun q => Or.inl ⟨rfl, by rw [hal]; omega⟩, fun q => by omega⟩)
          · refine g_lconst (pc' := 71) (v := 0) dX10_alike_70 rfl (by decide) ?_
            refine g_goto (tgt := 84) dX10_alike_71 rfl ?_
            refine g_lstore (pc' := 86) (L' := [(8, vl 0), (6, vl 0), (5, vi z14), (4, vi z12), (0, vr X 97), (1, vi a), (2, vi b), (3, vi c)]) dX10_alike_84 rfl (by decide) rfl ?_
            refine g_lload (pc' := 88) 1 dX10_alike_86 rfl rfl ?_
            refine g_iload (pc' := 90) 2 dX10_alike_88 rfl rfl ?_
            refine g_if_ne (pc' := 93) (tgt := 97) ⟨by omega, by omega⟩ dX10_alike_90 rfl rfl (fun c42 => ?_) (fun c42 => ?_)
            · refine g_iload (pc' := 99) 2 dX10_alike_97 rfl rfl ?_
              refine g_i2l (pc' := 100) ⟨by omega, by omega⟩ dX10_alike_99 rfl ?_
              refine g_lmul (pc' := 101) dX10_alike_100 rfl ?_
              obtain ⟨xa, hxa⟩ : ∃ z : Int, z = 0 * z14 := ⟨_, rfl⟩
              rw [← hxa]
              have bxa : 0 ≤ xa ∧ xa ≤ 360000000000000000 := by rw [hxa]; exact mulG (by omega) (by omega) (by omega) (by omega)
              refine g_lload (pc' := 103) 0 dX10_alike_101 rfl rfl ?_
              refine g_iload (pc' := 105) 3 dX10_alike_103 rfl rfl ?_
              refine g_if_ne (pc' := 108) (tgt := 112) ⟨by omega, by omega⟩ dX10_alike_105 rfl rfl (fun c43 => ?_) (fun c43 => ?_)
              · refine g_iload (pc' := 114) 3 dX10_alike_112 rfl rfl ?_
                refine g_i2l (pc' := 115) ⟨by omega, by omega⟩ dX10_alike_114 rfl ?_
                refine g_lmul (pc' := 116) dX10_alike_115 rfl ?_
                obtain ⟨xb, hxb⟩ : ∃ z : Int, z = 0 * z12 := ⟨_, rfl⟩
                rw [← hxb]
                have bxb : 0 ≤ xb ∧ xb ≤ 360000000000000000 := by rw [hxb]; exact mulG (by omega) (by omega) (by omega) (by omega)
                refine g_lc_ne (pc' := 120) (tgt := 124) ⟨by omega, by omega⟩ ⟨by omega, by omega⟩ dX10_alike_116 dX10_alike_117 rfl rfl (fun c44 => ?_) (fun c44 => ?_)
                · refine g_iconst (pc' := 125) dX10_alike_124 rfl ?_
                  refine g_ireturn dX10_alike_125 ?_
                  first | exact False.elim (by omega) | (have hal : ALM (M 101) a b c ↔ xa = xb := (by unfold ALM; rw [flz12, flz14, if_pos (show z12 = 0 by omega), if_pos (show z12 = 0 by omega), if_pos (show z14 = 0 by omega), if_pos (show z14 = 0 by omega), hxa, hxb]); exact ⟨iM1, fM1, q99_0_M1, q99_1_M1, q99_2_M1, q99_3_M1, q100_0_M1, q100_1_M1, q100_2_M1, q100_3_M1, q100_49_M1, q100_50_M1, q100_51_M1, q100_52_M1, q103_0_M1, q103_1_M1, q97_12_M1, q97_17_M1, q97_33_M1, q97_10_M1, q97_44_M1, q97_1_M1, fun q => Or.inr ⟨rfl, by rw [hal]; omega⟩, fun q => by omega⟩)
                · refine g_iconst (pc' := 121) dX10_alike_120 rfl ?_
                  refine g_goto (tgt := 125) dX10_alike_121 rfl ?_
                  refine g_ireturn dX10_alike_125 ?_
                  first | exact False.elim (by omega) | (have hal : ALM (M 101) a b c ↔ xa = xb := (by unfold ALM; rw [flz12, flz14, if_pos (show z12 = 0 by omega), if_pos (show z12 = 0 by omega), if_pos (show z14 = 0 by omega), if_pos (show z14 = 0 by omega), hxa, hxb]); exact ⟨iM1, fM1, q99_0_M1, q99_1_M1, q99_2_M1, q99_3_M1, q100_0_M1, q100_1_M1, q100_2_M1, q100_3_M1, q100_49_M1, q100_50_M1, q100_51_M1, q100_52_M1, q103_0_M1, q103_1_M1, q97_12_M1, q97_17_M1, q97_33_M1, q97_10_M1, q97_44_M1, q97_1_M1, fun q => Or.inl ⟨rfl, by rw [hal]; omega⟩, fun q => by omega⟩)
              · refine g_iconst (pc' := 109) dX10_alike_108 rfl ?_
                refine g_goto (tgt := 114) dX10_alike_109 rfl ?_
                refine g_i2l (pc' := 115) (by decide) dX10_alike_114 rfl ?_
                refine g_lmul (pc' := 116) dX10_alike_115 rfl ?_
                obtain ⟨xb, hxb⟩ : ∃ z : Int, z = 0 * 1 := ⟨_, rfl⟩
                rw [← hxb]
                have bxb : 0 ≤ xb ∧ xb ≤ 360000000000000000 := by rw [hxb]; exact mulG (by omega) (by omega) (by omega) (by omega)
                refine g_lc_ne (pc' := 120) (tgt := 124) ⟨by omega, by omega⟩ ⟨by omega, by omega⟩ dX10_alike_116 dX10_alike_117 rfl rfl (fun c45 => ?_) (fun c45 => ?_)
                · refine g_iconst (pc' := 125) dX10_alike_124 rfl ?_
                  refine g_ireturn dX10_alike_125 ?_
                  first | exact False.elim (by omega) | (have hal : ALM (M 101) a b c ↔ xa = xb := (by unfold ALM; rw [flz12, flz14, if_pos (show z12 = 0 by omega), if_pos (show z12 = 0 by omega), if_pos (show z14 = 0 by omega), if_pos (show z14 = 0 by omega), hxa, hxb]); exact ⟨iM1, fM1, q99_0_M1, q99_1_M1, q99_2_M1, q99_3_M1, q100_0_M1, q100_1_M1, q100_2_M1, q100_3_M1, q100_49_M1, q100_50_M1, q100_51_M1, q100_52_M1, q103_0_M1, q103_1_M1, q97_12_M1, q97_17_M1, q97_33_M1, q97_10_M1, q97_44_M1, q97_1_M1, fun q => Or.inr ⟨rfl, by rw [hal]; omega⟩, fun q => by omega⟩)
                · refine g_iconst (pc' := 121) dX10_alike_120 rfl ?_
                  refine g_goto (tgt := 125) dX10_alike_121 rfl ?_
                  refine g_ireturn dX10_alike_125 ?_
                  first | exact False.elim (by omega) | (have hal : ALM (M 101) a b c ↔ xa = xb := (by unfold ALM; rw [flz12, flz14, if_pos (show z12 = 0 by omega), if_pos (show z12 = 0 by omega), if_pos (show z14 = 0 by omega), if_pos (show z14 = 0 by omega), hxa, hxb]); exact ⟨iM1, fM1, q99_0_M1, q99_1_M1, q99_2_M1, q99_3_M1, q100_0_M1, q100_1_M1, q100_2_M1, q100_3_M1, q100_49_M1, q100_50_M1, q100_51_M1, q100_52_M1, q103_0_M1, q103_1_M1, q97_12_M1, q97_17_M1, q97_33_M1, q97_10_M1, q97_44_M1, q97_1_M1, fun q => Or.inl ⟨rfl, by rw [hal]; omega⟩, fun q => by omega⟩)
            · refine g_iconst (pc' := 94) dX10_alike_93 rfl ?_
              refine g_goto (tgt := 99) dX10_alike_94 rfl ?_
              refine g_i2l (pc' := 100) (by decide) dX10_alike_99 rfl ?_
              refine g_lmul (pc' := 101) dX10_alike_100 rfl ?_
              obtain ⟨xa, hxa⟩ : ∃ z : Int, z = 0 * 1 := ⟨_, rfl⟩
              rw [← hxa]
              have bxa : 0 ≤ xa ∧ xa ≤ 360000000000000000 := by rw [hxa]; exact mulG (by omega) (by omega) (by omega) (by omega)
              refine g_lload (pc' := 103) 0 dX10_alike_101 rfl rfl ?_
              refine g_iload (pc' := 105) 3 dX10_alike_103 rfl rfl ?_
              refine g_if_ne (pc' := 108) (tgt := 112) ⟨by omega, by omega⟩ dX10_alike_105 rfl rfl (fun c46 => ?_) (fun c46 => ?_)
              · refine g_iload (pc' := 114) 3 dX10_alike_112 rfl rfl ?_
                refine g_i2l (pc' := 115) ⟨by omega, by omega⟩ dX10_alike_114 rfl ?_
                refine g_lmul (pc' := 116) dX10_alike_115 rfl ?_
                obtain ⟨xb, hxb⟩ : ∃ z : Int, z = 0 * z12 := ⟨_, rfl⟩
                rw [← hxb]
                have bxb : 0 ≤ xb ∧ xb ≤ 360000000000000000 := by rw [hxb]; exact mulG (by omega) (by omega) (by omega) (by omega)
                refine g_lc_ne (pc' := 120) (tgt := 124) ⟨by omega, by omega⟩ ⟨by omega, by omega⟩ dX10_alike_116 dX10_alike_117 rfl rfl (fun c47 => ?_) (fun c47 => ?_)
                · refine g_iconst (pc' := 125) dX10_alike_124 rfl ?_
                  refine g_ireturn dX10_alike_125 ?_
                  first | exact False.elim (by omega) | (have hal : ALM (M 101) a b c ↔ xa = xb := (by unfold ALM; rw [flz12, flz14, if_pos (show z12 = 0 by omega), if_pos (show z12 = 0 by omega), if_pos (show z14 = 0 by omega), if_pos (show z14 = 0 by omega), hxa, hxb]); exact ⟨iM1, fM1, q99_0_M1, q99_1_M1, q99_2_M1, q99_3_M1, q100_0_M1, q100_1_M1, q100_2_M1, q100_3_M1, q100_49_M1, q100_50_M1, q100_51_M1, q100_52_M1, q103_0_M1, q103_1_M1, q97_12_M1, q97_17_M1, q97_33_M1, q97_10_M1, q97_44_M1, q97_1_M1, fun q => Or.inr ⟨rfl, by rw [hal]; omega⟩, fun q => by omega⟩)
                · refine g_iconst (pc' := 121) dX10_alike_120 rfl ?_
                  refine g_goto (tgt := 125) dX10_alike_121 rfl ?_
                  refine g_ireturn dX10_alike_125 ?_
                  first | exact False.elim (by omega) | (have hal : ALM (M 101) a b c ↔ xa = xb := (by unfold ALM; rw [flz12, flz14, if_pos (show z12 = 0 by omega), if_pos (show z12 = 0 by omega), if_pos (show z14 = 0 by omega), if_pos (show z14 = 0 by omega), hxa, hxb]); exact ⟨iM1, fM1, q99_0_M1, q99_1_M1, q99_2_M1, q99_3_M1, q100_0_M1, q100_1_M1, q100_2_M1, q100_3_M1, q100_49_M1, q100_50_M1, q100_51_M1, q100_52_M1, q103_0_M1, q103_1_M1, q97_12_M1, q97_17_M1, q97_33_M1, q97_10_M1, q97_44_M1, q97_1_M1, fun q => Or.inl ⟨rfl, by rw [hal]; omega⟩, fun q => by omega⟩)
              · refine g_iconst (pc' := 109) dX10_alike_108 rfl ?_
                refine g_goto (tgt := 114) dX10_alike_109 rfl ?_
                refine g_i2l (pc' := 115) (by decide) dX10_alike_114 rfl ?_
                refine g_lmul (pc' := 116) dX10_alike_115 rfl ?_
                obtain ⟨xb, hxb⟩ : ∃ z : Int, z = 0 * 1 := ⟨_, rfl⟩
                rw [← hxb]
                have bxb : 0 ≤ xb ∧ xb ≤ 360000000000000000 := by rw [hxb]; exact mulG (by omega) (by omega) (by omega) (by omega)
                refine g_lc_ne (pc' := 120) (tgt := 124) ⟨by omega, by omega⟩ ⟨by omega, by omega⟩ dX10_alike_116 dX10_alike_117 rfl rfl (fun c48 => ?_) (fun c48 => ?_)
                · refine g_iconst (pc' := 125) dX10_alike_124 rfl ?_
                  refine g_ireturn dX10_alike_125 ?_
                  first | exact False.elim (by omega) | (have hal : ALM (M 101) a b c ↔ xa = xb := (by unfold ALM; rw [flz12, flz14, if_pos (show z12 = 0 by omega), if_pos (show z12 = 0 by omega), if_pos (show z14 = 0 by omega), if_pos (show z14 = 0 by omega), hxa, hxb]); exact ⟨iM1, fM1, q99_0_M1, q99_1_M1, q99_2_M1, q99_3_M1, q100_0_M1, q100_1_M1, q100_2_M1, q100_3_M1, q100_49_M1, q100_50_M1, q100_51_M1, q100_52_M1, q103_0_M1, q103_1_M1, q97_12_M1, q97_17_M1, q97_33_M1, q97_10_M1, q97_44_M1, q97_1_M1, fun q => Or.inr ⟨rfl, by rw [hal]; omega⟩, fun q => by omega⟩)
                · refine g_iconst (pc' := 121) dX10_alike_120 rfl ?_
                  refine g_goto (tgt := 125) dX10_alike_121 rfl ?_
                  refine g_ireturn dX10_alike_125 ?_
                  first | exact False.elim (by omega) | (have hal : ALM (M 101) a b c ↔ xa = xb := (by unfold ALM; rw [flz12, flz14, if_pos (show z12 = 0 by omega), if_pos (show z12 = 0 by omega), if_pos (show z14 = 0 by omega), if_pos (show z14 = 0 by omega), hxa, hxb]); exact ⟨iM1, fM1, q99_0_M1, q99_1_M1, q99_2_M1, q99_3_M1, q100_0_M1, q100_1_M1, q100_2_M1, q100_3_M1, q100_49_M1, q100_50_M1, q100_51_M1, q100_52_M1, q103_0_M1, q103_1_M1, q97_12_M1, q97_17_M1, q97_33_M1, q97_10_M1, q97_44_M1, q97_1_M1, fun q => Or.inl ⟨rfl, by rw [hal]; omega⟩, fun q => by omega⟩)
      · replace q8 := q8.resolve_left (fun h => absurd (c10.symm.trans h.1) (by decide))
        refine g_iconst (pc' := 29) dX10_alike_28 rfl ?_
        refine g_ireturn dX10_alike_29 ?_
        exact ⟨iM1, fM1, q99_0_M1, q99_1_M1, q99_2_M1, q99_3_M1, q100_0_M1, q100_1_M1, q100_2_M1, q100_3_M1, q100_49_M1, q100_50_M1, q100_51_M1, q100_52_M1, q103_0_M1, q103_1_M1, q97_12_M1, q97_17_M1, q97_33_M1, q97_10_M1, q97_44_M1, q97_1_M1, fun q => by omega, fun q => by omega⟩
