set_option maxHeartbeats 4000000 in
set_option maxRecDepth 100000 in
theorem c_X10_fault (X : Cx) (M : Mm) (hi : IM M) : Con X 12 yX10_fault cX10_fault 1 (some .int) [vr X 97] M (Qi (fun r M1 => IM M1 ∧ Fr (fun c => c = 97) M M1 ∧ M1 99 0 = M 99 0 ∧ M1 99 1 = M 99 1 ∧ M1 99 2 = M 99 2 ∧ M1 99 3 = M 99 3 ∧ M1 100 0 = M 100 0 ∧ M1 100 1 = M 100 1 ∧ M1 100 2 = M 100 2 ∧ M1 100 3 = M 100 3 ∧ M1 100 49 = M 100 49 ∧ M1 100 50 = M 100 50 ∧ M1 100 51 = M 100 51 ∧ M1 100 52 = M 100 52 ∧ M1 103 0 = M 103 0 ∧ M1 103 1 = M 103 1 ∧ M1 97 12 = M 97 12 ∧ M1 97 17 = M 97 17 ∧ M1 97 33 = M 97 33 ∧ M1 97 10 = M 97 10 ∧ M1 97 44 = M 97 44 ∧ M1 97 1 = M 97 1 ∧ (inI r))) := by
  refine Con.ofG rfl (Nat.le_of_ble_eq_true rfl) ?_
  show G X 12 RX10 cX10_fault 1 (some .int) (Qi (fun r M1 => IM M1 ∧ Fr (fun c => c = 97) M M1 ∧ M1 99 0 = M 99 0 ∧ M1 99 1 = M 99 1 ∧ M1 99 2 = M 99 2 ∧ M1 99 3 = M 99 3 ∧ M1 100 0 = M 100 0 ∧ M1 100 1 = M 100 1 ∧ M1 100 2 = M 100 2 ∧ M1 100 3 = M 100 3 ∧ M1 100 49 = M 100 49 ∧ M1 100 50 = M 100 50 ∧ M1 100 51 = M 100 51 ∧ M1 100 52 = M 100 52 ∧ M1 103 0 = M 103 0 ∧ M1 103 1 = M 103 1 ∧ M1 97 12 = M 97 12 ∧ M1 97 17 = M 97 17 ∧ M1 97 33 = M 97 33 ∧ M1 97 10 = M 97 10 ∧ M1 97 44 = M 97 44 ∧ M1 97 1 = M 97 1 ∧ (inI r))) 0 [(0, vr X 97)] [] M
  have p0 := hi.1.1
  have p1 := hi.1.2.1
  have p2 := hi.1.2.2.1
  have p3 := hi.1.2.2.2.1
  have p12 := hi.2.2.2.1
  refine g_aload_n (pc' := 1) 0 dX10_fault_0 rfl rfl ?_
  refine g_iconst (pc' := 2) dX10_fault_1 rfl ?_
  refine g_putI (pc' := 5) dX10_fault_2 rfl p_X10_77 rfl rfl (by decide) (fun M1 hM1 => ?_)
  have iM1 : IM M1 := IM.wr hi hM1 (by unfold okv; first | decide | omega)
  have fM1 : Fr (fun c => c = 97) M M1 := Fr.wr Fr.rf hM1 (by first | decide | omega | (dsimp only; omega))
  have q99_0_M1 : (M1 99 0 = M 99 0) := (show M1 99 0 = M 99 0 by rw [hM1]; exact mu_ne _ _ (by first | decide | omega))
  have q99_1_M1 : (M1 99 1 = M 99 1) := (show M1 99 1 = M 99 1 by rw [hM1]; exact mu_ne _ _ (by first | decide | omega))
  have q99_2_M1 : (M1 99 2 = M 99 2) := (show M1 99 2 = M 99 2 by rw [hM1]; exact mu_ne _ _ (by first | decide | omega))
  have q99_3_M1 : (M1 99 3 = M 99 3) := (show M1 99 3 = M 99 3 by rw [hM1]; exact mu_ne _ _ (by first | decide | omega))
  have q100_0_M1 : id (M1 100 0 = M 100 0) := (show M1 100 0 = M 100 0 by rw [hM1]; exact mu_ne _ _ (by first | decide | omega))
  have q100_1_M1 : id (M1 100 1 = M 100 1) := (show M1 100 1 = M 100 1 by rw [hM1]; exact mu_ne _ _ (by first | decide | omega))
  have q100_2_M1 : id (M1 100 2 = M 100 2) := (show M1 100 2 = M 100 2 by rw [hM1]; exact mu_ne _ _ (by first | decide | omega))
  have q100_3_M1 : id (M1 100 3 = M 100 3) := (show M1 100 3 = M 100 3 by rw [hM1]; exact mu_ne _ _ (by first | decide | omega))
  have q100_49_M1 : id (M1 100 49 = M 100 49) := (show M1 100 49 = M 100 49 by rw [hM1]; exact mu_ne _ _ (by first | decide | omega))
  have q100_50_M1 : id (M1 100 50 = M 100 50) := (show M1 100 50 = M 100 50 by rw [hM1]; exact mu_ne _ _ (by first | decide | omega))
  have q100_51_M1 : id (M1 100 51 = M 100 51) := (show M1 100 51 = M 100 51 by rw [hM1]; exact mu_ne _ _ (by first | decide | omega))
  have q100_52_M1 : id (M1 100 52 = M 100 52) := (show M1 100 52 = M 100 52 by rw [hM1]; exact mu_ne _ _ (by first | decide | omega))
  have q103_0_M1 : id (M1 103 0 = M 103 0) := (show M1 103 0 = M 103 0 by rw [hM1]; exact mu_ne _ _ (by first | decide | omega))
  have q103_1_M1 : id (M1 103 1 = M 103 1) := (show M1 103 1 = M 103 1 by rw [hM1]; exact mu_ne _ _ (by first | decide | omega))
  have q97_12_M1 : (M1 97 12 = M 97 12) := (show M1 97 12 = M 97 12 by rw [hM1]; exact mu_ne _ _ (by first | decide | omega))
  have q97_17_M1 : (M1 97 17 = M 97 17) := (show M1 97 17 = M 97 17 by rw [hM1]; exact mu_ne _ _ (by first | decide | omega))
  have q97_33_M1 : (M1 97 33 = M 97 33) := (show M1 97 33 = M 97 33 by rw [hM1]; exact mu_ne _ _ (by first | decide | omega))
  have q97_10_M1 : (M1 97 10 = M 97 10) := (show M1 97 10 = M 97 10 by rw [hM1]; exact mu_ne _ _ (by first | decide | omega))
  have q97_44_M1 : (M1 97 44 = M 97 44) := (show M1 97 44 = M 97 44 by rw [hM1]; exact mu_ne _ _ (by first | decide | omega))
  have q97_1_M1 : (M1 97 1 = M 97 1) := (show M1 97 1 = M 97 1 by rw [hM1]; exact mu_ne _ _ (by first | decide | omega))
  have xM1_97_0 : M1 97 0 = 0 := by rw [hM1]; exact mu_at _ _ _ _
  refine g_aload_n (pc' := 6) 0 dX10_fault_5 rfl rfl ?_
  refine g_getI (pc' := 9) dX10_fault_6 rfl f_X10_39 rfl rfl (fun v2 ev2 rv2 => ?_)
  have av2 : v2 = M 97 17 := ev2.trans q97_17_M1
  refine g_ireturn dX10_fault_9 ?_
  exact ⟨iM1, fM1, q99_0_M1, q99_1_M1, q99_2_M1, q99_3_M1, q100_0_M1, q100_1_M1, q100_2_M1, q100_3_M1, q100_49_M1, q100_50_M1, q100_51_M1, q100_52_M1, q103_0_M1, q103_1_M1, q97_12_M1, q97_17_M1, q97_33_M1, q97_10_M1, q97_44_M1, q97_1_M1, by first | assumption | decide | omega⟩
set_option maxHeartbeats 4000000 in
set_option maxRecDepth 100000 in
theorem c_X10_end (X : Cx) (M : Mm) (hi : IM M) (a : Int) (ha : inI a) : Con X 12 yX10_end cX10_end 2 (some .int) [vr X 97, vi a] M (Qi (fun r M1 => IM M1 ∧ Fr (fun c => c = 97) M M1 ∧ M1 99 0 = M 99 0 ∧ M1 99 1 = M 99 1 ∧ M1 99 2 = M 99 2 ∧ M1 99 3 = M 99 3 ∧ M1 100 0 = M 100 0 ∧ M1 100 1 = M 100 1 ∧ M1 100 2 = M 100 2 ∧ M1 100 3 = M 100 3 ∧ M1 100 49 = M 100 49 ∧ M1 100 50 = M 100 50 ∧ M1 100 51 = M 100 51 ∧ M1 100 52 = M 100 52 ∧ M1 103 0 = M 103 0 ∧ M1 103 1 = M 103 1 ∧ M1 97 17 = M 97 17 ∧ M1 97 33 = M 97 33 ∧ M1 97 10 = M 97 10 ∧ M1 97 44 = M 97 44 ∧ M1 97 1 = M 97 1 ∧ (((0 ≤ a ∧ a ≤ M 97 12) → r = a ∧ M1 97 12 = a) ∧ ((a < 0 ∨ M 97 12 < a) → r = -1 ∧ M1 97 12 = M 97 12)))) := by
  refine Con.ofG rfl (Nat.le_of_ble_eq_true rfl) ?_
  show G X 12 RX10 cX10_end 2 (some .int) (Qi (fun r M1 => IM M1 ∧ Fr (fun c => c = 97) M M1 ∧ M1 99 0 = M 99 0 ∧ M1 99 1 = M 99 1 ∧ M1 99 2 = M 99 2 ∧ M1 99 3 = M 99 3 ∧ M1 100 0 = M 100 0 ∧ M1 100 1 = M 100 1 ∧ M1 100 2 = M 100 2 ∧ M1 100 3 = M 100 3 ∧ M1 100 49 = M 100 49 ∧ M1 100 50 = M 100 50 ∧ M1 100 51 = M 100 51 ∧ M1 100 52 = M 100 52 ∧ M1 103 0 = M 103 0 ∧ M1 103 1 = M 103 1 ∧ M1 97 17 = M 97 17 ∧ M1 97 33 = M 97 33 ∧ M1 97 10 = M 97 10 ∧ M1 97 44 = M 97 44 ∧ M1 97 1 = M 97 1 ∧ (((0 ≤ a ∧ a ≤ M 97 12) → r = a ∧ M1 97 12 = a) ∧ ((a < 0 ∨ M 97 12 < a) → r = -1 ∧ M1 97 12 = M 97 12)))) 0 [(0, vr X 97), (1, vi a)] [] M
  have p0 := hi.1.1
  have p1 := hi.1.2.1
  have p2 := hi.1.2.2.1
  have p3 := hi.1.2.2.2.1
  have p12 := hi.2.2.2.1
  refine g_aload_n (pc' := 1) 0 dX10_end_0 rfl rfl ?_
  refine g_iconst (pc' := 2) dX10_end_1 rfl ?_
  refine g_putI (pc' := 5) dX10_end_2 rfl p_X10_77 rfl rfl (by decide) (fun M1 hM1 => ?_)
  have iM1 : IM M1 := IM.wr hi hM1 (by unfold okv; first | decide | omega)
  have fM1 : Fr (fun c => c = 97) M M1 := Fr.wr Fr.rf hM1 (by first | decide | omega | (dsimp only; omega))
  have q99_0_M1 : (M1 99 0 = M 99 0) := (show M1 99 0 = M 99 0 by rw [hM1]; exact mu_ne _ _ (by first | decide | omega))
  have q99_1_M1 : (M1 99 1 = M 99 1) := (show M1 99 1 = M 99 1 by rw [hM1]; exact mu_ne _ _ (by first | decide | omega))
  have q99_2_M1 : (M1 99 2 = M 99 2) := (show M1 99 2 = M 99 2 by rw [hM1]; exact mu_ne _ _ (by first | decide | omega))
  have q99_3_M1 : (M1 99 3 = M 99 3) := (show M1 99 3 = M 99 3 by rw [hM1]; exact mu_ne _ _ (by first | decide | omega))
  have q100_0_M1 : id (M1 100 0 = M 100 0) := (show M1 100 0 = M 100 0 by rw [hM1]; exact mu_ne _ _ (by first | decide | omega))
  have q100_1_M1 : id (M1 100 1 = M 100 1) := (show M1 100 1 = M 100 1 by rw [hM1]; exact mu_ne _ _ (by first | decide | omega))
  have q100_2_M1 : id (M1 100 2 = M 100 2) := (show M1 100 2 = M 100 2 by rw [hM1]; exact mu_ne _ _ (by first | decide | omega))
  have q100_3_M1 : id (M1 100 3 = M 100 3) := (show M1 100 3 = M 100 3 by rw [hM1]; exact mu_ne _ _ (by first | decide | omega))
  have q100_49_M1 : id (M1 100 49 = M 100 49) := (show M1 100 49 = M 100 49 by rw [hM1]; exact mu_ne _ _ (by first | decide | omega))
  have q100_50_M1 : id (M1 100 50 = M 100 50) := (show M1 100 50 = M 100 50 by rw [hM1]; exact mu_ne _ _ (by first | decide | omega))
  have q100_51_M1 : id (M1 100 51 = M 100 51) := (show M1 100 51 = M 100 51 by rw [hM1]; exact mu_ne _ _ (by first | decide | omega))
  have q100_52_M1 : id (M1 100 52 = M 100 52) := (show M1 100 52 = M 100 52 by rw [hM1]; exact mu_ne _ _ (by first | decide | omega))
  have q103_0_M1 : id (M1 103 0 = M 103 0) := (show M1 103 0 = M 103 0 by rw [hM1]; exact mu_ne _ _ (by first | decide | omega))
  have q103_1_M1 : id (M1 103 1 = M 103 1) := (show M1 103 1 = M 103 1 by rw [hM1]; exact mu_ne _ _ (by first | decide | omega))
  have q97_17_M1 : (M1 97 17 = M 97 17) := (show M1 97 17 = M 97 17 by rw [hM1]; exact mu_ne _ _ (by first | decide | omega))
  have q97_33_M1 : (M1 97 33 = M 97 33) := (show M1 97 33 = M 97 33 by rw [hM1]; exact mu_ne _ _ (by first | decide | omega))
  have q97_10_M1 : (M1 97 10 = M 97 10) := (show M1 97 10 = M 97 10 by rw [hM1]; exact mu_ne _ _ (by first | decide | omega))
  have q97_44_M1 : (M1 97 44 = M 97 44) := (show M1 97 44 = M 97 44 by rw [hM1]; exact mu_ne _ _ (by first | decide | omega))
  have q97_1_M1 : (M1 97 1 = M 97 1) := (show M1 97 1 = M 97 1 by rw [hM1]; exact mu_ne _ _ (by first | decide | omega))
  have q97_12_M1 : (M1 97 12 = M 97 12) := (show M1 97 12 = M 97 12 by rw [hM1]; exact mu_ne _ _ (by first | decide | omega))
  have wM1_97_12 : M1 97 12 = M 97 12 := by rw [hM1]; exact mu_ne _ _ (by first | decide | omega)
  have xM1_97_0 : M1 97 0 = 0 := by rw [hM1]; exact mu_at _ _ _ _
  refine g_iload_n (pc' := 6) 1 dX10_end_5 rfl rfl ?_
  refine g_if_lt (pc' := 9) (tgt := 17) ha dX10_end_6 rfl rfl (fun c2 => ?_) (fun c2 => ?_)
  · refine g_iconst (pc' := 18) dX10_end_17 rfl ?_
    refine g_ireturn dX10_end_18 ?_
    exact ⟨iM1, fM1, q99_0_M1, q99_1_M1, q99_2_M1, q99_3_M1, q100_0_M1, q100_1_M1, q100_2_M1, q100_3_M1, q100_49_M1, q100_50_M1, q100_51_M1, q100_52_M1, q103_0_M1, q103_1_M1, q97_17_M1, q97_33_M1, q97_10_M1, q97_44_M1, q97_1_M1, by omega⟩
  · refine g_iload_n (pc' := 10) 1 dX10_end_9 rfl rfl ?_
    refine g_aload_n (pc' := 11) 0 dX10_end_10 rfl rfl ?_
    refine g_getI (pc' := 14) dX10_end_11 rfl f_X10_142 rfl rfl (fun v3 ev3 rv3 => ?_)
    have bv3 : 0 ≤ v3 ∧ v3 ≤ 400 := by rw [ev3]; exact iM1.2.2.2.1
    have av3 : v3 = M 97 12 := ev3.trans q97_12_M1
    refine g_ic_le (pc' := 17) (tgt := 19) ha rv3 dX10_end_14 rfl rfl (fun c4 => ?_) (fun c4 => ?_)
    · refine g_aload_n (pc' := 20) 0 dX10_end_19 rfl rfl ?_
      refine g_iload_n (pc' := 21) 1 dX10_end_20 rfl rfl ?_
      refine g_putI (pc' := 24) dX10_end_21 rfl p_X10_142 rfl rfl ha (fun M5 hM5 => ?_)
      have iM5 : IM M5 := IM.wr iM1 hM5 (by unfold okv; first | decide | omega)
      have fM5 : Fr (fun c => c = 97) M M5 := Fr.wr fM1 hM5 (by first | decide | omega | (dsimp only; omega))
      have q99_0_M5 : (M5 99 0 = M 99 0) := (show M5 99 0 = M1 99 0 by rw [hM5]; exact mu_ne _ _ (by first | decide | omega)).trans q99_0_M1
      have q99_1_M5 : (M5 99 1 = M 99 1) := (show M5 99 1 = M1 99 1 by rw [hM5]; exact mu_ne _ _ (by first | decide | omega)).trans q99_1_M1
      have q99_2_M5 : (M5 99 2 = M 99 2) := (show M5 99 2 = M1 99 2 by rw [hM5]; exact mu_ne _ _ (by first | decide | omega)).trans q99_2_M1
      have q99_3_M5 : (M5 99 3 = M 99 3) := (show M5 99 3 = M1 99 3 by rw [hM5]; exact mu_ne _ _ (by first | decide | omega)).trans q99_3_M1
      have q100_0_M5 : id (M5 100 0 = M 100 0) := (show M5 100 0 = M1 100 0 by rw [hM5]; exact mu_ne _ _ (by first | decide | omega)).trans q100_0_M1
      have q100_1_M5 : id (M5 100 1 = M 100 1) := (show M5 100 1 = M1 100 1 by rw [hM5]; exact mu_ne _ _ (by first | decide | omega)).trans q100_1_M1
      have q100_2_M5 : id (M5 100 2 = M 100 2) := (show M5 100 2 = M1 100 2 by rw [hM5]; exact mu_ne _ _ (by first | decide | omega)).trans q100_2_M1
      have q100_3_M5 : id (M5 100 3 = M 100 3) := (show M5 100 3 = M1 100 3 by rw [hM5]; exact mu_ne _ _ (by first | decide | omega)).trans q100_3_M1
      have q100_49_M5 : id (M5 100 49 = M 100 49) := (show M5 100 49 = M1 100 49 by rw [hM5]; exact mu_ne _ _ (by first | decide | omega)).trans q100_49_M1
      have q100_50_M5 : id (M5 100 50 = M 100 50) := (show M5 100 50 = M1 100 50 by rw [hM5]; exact mu_ne _ _ (by first | decide | omega)).trans q100_50_M1
      have q100_51_M5 : id (M5 100 51 = M 100 51) := (show M5 100 51 = M1 100 51 by rw [hM5]; exact mu_ne _ _ (by first | decide | omega)).trans q100_51_M1
      have q100_52_M5 : id (M5 100 52 = M 100 52) := (show M5 100 52 = M1 100 52 by rw [hM5]; exact mu_ne _ _ (by first | decide | omega)).trans q100_52_M1
      have q103_0_M5 : id (M5 103 0 = M 103 0) := (show M5 103 0 = M1 103 0 by rw [hM5]; exact mu_ne _ _ (by first | decide | omega)).trans q103_0_M1
      have q103_1_M5 : id (M5 103 1 = M 103 1) := (show M5 103 1 = M1 103 1 by rw [hM5]; exact mu_ne _ _ (by first | decide | omega)).trans q103_1_M1
      have q97_17_M5 : (M5 97 17 = M 97 17) := (show M5 97 17 = M1 97 17 by rw [hM5]; exact mu_ne _ _ (by first | decide | omega)).trans q97_17_M1
      have q97_33_M5 : (M5 97 33 = M 97 33) := (show M5 97 33 = M1 97 33 by rw [hM5]; exact mu_ne _ _ (by first | decide | omega)).trans q97_33_M1
      have q97_10_M5 : (M5 97 10 = M 97 10) := (show M5 97 10 = M1 97 10 by rw [hM5]; exact mu_ne _ _ (by first | decide | omega)).trans q97_10_M1
      have q97_44_M5 : (M5 97 44 = M 97 44) := (show M5 97 44 = M1 97 44 by rw [hM5]; exact mu_ne _ _ (by first | decide | omega)).trans q97_44_M1
      have q97_1_M5 : (M5 97 1 = M 97 1) := (show M5 97 1 = M1 97 1 by rw [hM5]; exact mu_ne _ _ (by first | decide | omega)).trans q97_1_M1
      have xM5_97_0 : M5 97 0 = 0 := (show M5 97 0 = M1 97 0 by rw [hM5]; exact mu_ne _ _ (by first | decide | omega)).trans xM1_97_0
      have xM5_97_12 : M5 97 12 = a := by rw [hM5]; exact mu_at _ _ _ _
      refine g_iload_n (pc' := 25) 1 dX10_end_24 rfl rfl ?_
      refine g_ireturn dX10_end_25 ?_
      exact ⟨iM5, fM5, q99_0_M5, q99_1_M5, q99_2_M5, q99_3_M5, q100_0_M5, q100_1_M5, q100_2_M5, q100_3_M5, q100_49_M5, q100_50_M5, q100_51_M5, q100_52_M5, q103_0_M5, q103_1_M5, q97_17_M5, q97_33_M5, q97_10_M5, q97_44_M5, q97_1_M5, by omega⟩
    · refine g_iconst (pc' := 18) dX10_end_17 rfl ?_
      refine g_ireturn dX10_end_18 ?_
      exact ⟨iM1, fM1, q99_0_M1, q99_1_M1, q99_2_M1, q99_3_M1, q100_0_M1, q100_1_M1, q100_2_M1, q100_3_M1, q100_49_M1, q100_50_M1, q100_51_M1, q100_52_M1, q103_0_M1, q103_1_M1, q97_17_M1, q97_33_M1, q97_10_M1, q97_44_M1, q97_1_M1, by omega⟩
set_option maxHeartbeats 4000000 in
set_option maxRecDepth 100000 in
theorem l_X10_power_5 (X : Cx) (M : Mm) (a : Int) (ha : inL a) (n : Int) (hn : inI n) (pa : 0 ≤ a ∧ a ≤ 130) (pn : 0 ≤ n ∧ n ≤ 6) : ∀ (kk : Nat) (res : Int) (i : Int) (h0 : 0 ≤ i) (h1 : i ≤ n) (hr : res = a ^ i.toNat), (n - i).toNat = kk → G X 0 RX10 cX10_power 6 (some .long) (Ql (fun r M1 => M1 = M ∧ (r = a ^ n.toNat))) 5 [(3, vl res), (5, vi i), (0, vl a), (2, vi n)] [] M := by
  intro kk
  induction kk using Nat.strongRecOn with
  | ind kk ih =>
    intro res i h0 h1 hr hmes
    have hb0 := powR (a := a) (k := i.toNat) pa.1 pa.2 (by omega)
    rw [← hr] at hb0
    refine g_iload (pc' := 7) 1 dX10_power_5 rfl rfl ?_
    refine g_iload_n (pc' := 8) 3 dX10_power_7 rfl rfl ?_
    refine g_ic_ge (pc' := 11) (tgt := 21) ⟨by omega, by omega⟩ hn dX10_power_8 rfl rfl (fun c1 => ?_) (fun c1 => ?_)
    · refine g_lload_n (pc' := 22) 0 dX10_power_21 rfl rfl ?_
      refine g_lreturn dX10_power_22 ?_
      exact ⟨rfl, by rw [hr, show i.toNat = n.toNat by omega]⟩
    · refine g_lload_n (pc' := 12) 0 dX10_power_11 rfl rfl ?_
      refine g_lload_n (pc' := 13) 2 dX10_power_12 rfl rfl ?_
      refine g_lmul (pc' := 14) dX10_power_13 rfl ?_
      obtain ⟨pp, hpp⟩ : ∃ z : Int, z = res * a := ⟨_, rfl⟩
      rw [← hpp]
      have hpe : pp = a ^ (i + 1).toNat := by rw [show (i + 1).toNat = i.toNat + 1 by omega, Int.pow_succ, ← hr]; exact hpp
      have hb1 := powR (a := a) (k := (i + 1).toNat) pa.1 pa.2 (by omega)
      rw [← hpe] at hb1
      refine g_lstore_n (pc' := 15) (i := 3) (L' := [(3, vl pp), (5, vi i), (0, vl a), (2, vi n)]) dX10_power_14 rfl rfl (by decide) rfl ?_
      refine g_iinc (pc' := 18) (L' := [(5, vi (i + 1)), (3, vl pp), (0, vl a), (2, vi n)]) 1 dX10_power_15 rfl rfl (by decide) rfl ?_
      refine g_goto (tgt := 5) dX10_power_18 rfl ?_
      refine g_sub [1, 0, 2, 3] rfl ?_
      exact ih _ (by omega) pp (i + 1) (by omega) (by omega) hpe rfl
set_option maxHeartbeats 4000000 in
set_option maxRecDepth 100000 in
theorem c_X10_power (X : Cx) (M : Mm) (a : Int) (ha : inL a) (n : Int) (hn : inI n) (pa : 0 ≤ a ∧ a ≤ 130) (pn : 0 ≤ n ∧ n ≤ 6) : Con X 0 yX10_power cX10_power 6 (some .long) [vl a, vi n] M (Ql (fun r M1 => M1 = M ∧ (r = a ^ n.toNat))) := by
  refine Con.ofG rfl (Nat.le_of_ble_eq_true rfl) ?_
  show G X 0 RX10 cX10_power 6 (some .long) (Ql (fun r M1 => M1 = M ∧ (r = a ^ n.toNat))) 0 [(0, vl a), (2, vi n)] [] M
  refine g_lconst (pc' := 1) (v := 1) dX10_power_0 rfl (by decide) ?_
  refine g_lstore_n (pc' := 2) (i := 3) (L' := [(3, vl 1), (0, vl a), (2, vi n)]) dX10_power_1 rfl rfl (by decide) rfl ?_
  refine g_iconst (pc' := 3) dX10_power_2 rfl ?_
  refine g_istore (pc' := 5) (L' := [(5, vi 0), (3, vl 1), (0, vl a), (2, vi n)]) dX10_power_3 rfl (by decide) rfl ?_
  refine g_sub [1, 0, 2, 3] rfl ?_
  exact l_X10_power_5 X M a ha n hn pa pn _ 1 0 (by omega) (by omega) (by simp) rfl
set_option maxHeartbeats 4000000 in
set_option maxRecDepth 100000 in
theorem c_X10_lowest (X : Cx) (M : Mm) (a : Int) (ha : inL a) (b : Int) (hb : inL b) (c : Int) (hc : inI c) (pa : 0 ≤ a) (pb : 1 ≤ b) : Con X 1 yX10_lowest cX10_lowest 7 (some .long) [vl a, vl b, vi c] M (Ql (fun r M1 => M1 = M ∧ (inL r))) := by
  refine Con.ofG rfl (Nat.le_of_ble_eq_true rfl) ?_
  show G X 1 RX10 cX10_lowest 7 (some .long) (Ql (fun r M1 => M1 = M ∧ (inL r))) 0 [(0, vl a), (2, vl b), (4, vi c)] [] M
  refine g_lload_n (pc' := 1) 1 dX10_lowest_0 rfl rfl ?_
  refine g_lload_n (pc' := 2) 0 dX10_lowest_1 rfl rfl ?_
  refine g_callSlp (pc' := 5) (As := [vl b, vl a]) (S := []) dX10_lowest_2 rfl m_X10_116 w_X10_common (c_X10_common X M b hb a ha (by omega) (by omega)) rfl (by decide) (by decide) rfl (Nat.le_of_ble_eq_true rfl) (fun z2 q1 => ?_)
  refine g_lstore (pc' := 7) (L' := [(5, vl z2), (0, vl a), (2, vl b), (4, vi c)]) dX10_lowest_5 rfl (by decide) rfl ?_
  refine g_iload (pc' := 9) 3 dX10_lowest_7 rfl rfl ?_
  refine g_if_ne (pc' := 12) (tgt := 19) hc dX10_lowest_9 rfl rfl (fun c3 => ?_) (fun c3 => ?_)
  · refine g_lload_n (pc' := 20) 2 dX10_lowest_19 rfl rfl ?_
    refine g_lload (pc' := 22) 0 dX10_lowest_20 rfl rfl ?_
    refine g_ldiv (pc' := 23) hb ⟨by omega, by omega⟩ (by omega) dX10_lowest_22 rfl ?_
    refine g_nrmL (fun n4 rn4 en4 => ?_)
    refine g_lreturn dX10_lowest_23 ?_
    exact ⟨rfl, by first | assumption | decide⟩
  · refine g_lload_n (pc' := 13) 1 dX10_lowest_12 rfl rfl ?_
    refine g_lload (pc' := 15) 0 dX10_lowest_13 rfl rfl ?_
    refine g_ldiv (pc' := 16) ha ⟨by omega, by omega⟩ (by omega) dX10_lowest_15 rfl ?_
    refine g_nrmL (fun n5 rn5 en5 => ?_)
    refine g_goto (tgt := 23) dX10_lowest_16 rfl ?_
    refine g_lreturn dX10_lowest_23 ?_
    exact ⟨rfl, by first | assumption | decide⟩
set_option maxHeartbeats 4000000 in
set_option maxRecDepth 100000 in
theorem c_X10_areBoth (X : Cx) (M : Mm) (a : Int) (ha : inI a) (b : Int) (hb : inI b) : Con X 2 yX10_areBoth cX10_areBoth 2 (some .boolean) [vi a, vi b] M (Qi (fun r M1 => M1 = M ∧ ((r = 1 ∧ 1 ≤ a ∧ a ≤ 60 ∧ 1 ≤ b ∧ b ≤ a - 1) ∨ (r = 0 ∧ (a < 1 ∨ 60 < a ∨ b < 1 ∨ a - 1 < b))))) := by
  refine Con.ofG rfl (Nat.le_of_ble_eq_true rfl) ?_
  show G X 2 RX10 cX10_areBoth 2 (some .boolean) (Qi (fun r M1 => M1 = M ∧ ((r = 1 ∧ 1 ≤ a ∧ a ≤ 60 ∧ 1 ≤ b ∧ b ≤ a - 1) ∨ (r = 0 ∧ (a < 1 ∨ 60 < a ∨ b < 1 ∨ a - 1 < b))))) 0 [(0, vi a), (1, vi b)] [] M
  refine g_iload_n (pc' := 1) 0 dX10_areBoth_0 rfl rfl ?_
  refine g_callSip (pc' := 4) (As := [vi a]) (S := []) dX10_areBoth_1 rfl m_X10_95 w_X10_isAmount (c_X10_isAmount X M a ha) rfl (by decide) (by decide) rfl (Nat.le_of_ble_eq_true rfl) (fun z2 q1 => ?_)
  refine g_if_eq (pc' := 7) (tgt := 24) ⟨by omega, by omega⟩ dX10_areBoth_4 rfl rfl (fun c3 => ?_) (fun c3 => ?_)
  · replace q1 := q1.resolve_left (fun h => absurd (c3.symm.trans h.1) (by decide))
    refine g_iconst (pc' := 25) dX10_areBoth_24 rfl ?_
    refine g_zreturn dX10_areBoth_25 (by omega) ?_
    exact ⟨rfl, by omega⟩
  · replace q1 := q1.resolve_right (fun h => c3 h.1)
    refine g_iload_n (pc' := 8) 1 dX10_areBoth_7 rfl rfl ?_
    refine g_i2l (pc' := 9) hb dX10_areBoth_8 rfl ?_
    refine g_lconst (pc' := 10) (v := 1) dX10_areBoth_9 rfl (by decide) ?_
    refine g_iload_n (pc' := 11) 0 dX10_areBoth_10 rfl rfl ?_
    refine g_i2l (pc' := 12) ha dX10_areBoth_11 rfl ?_
    refine g_lconst (pc' := 13) (v := 1) dX10_areBoth_12 rfl (by decide) ?_
    refine g_lsub (pc' := 14) dX10_areBoth_13 rfl ?_
    refine g_callSip (pc' := 17) (As := [vl b, vl 1, vl (a - 1)]) (S := []) dX10_areBoth_14 rfl m_X10_83 w_X10_in (c_X10_in X M b ⟨by omega, by omega⟩ 1 (by decide) (a - 1) ⟨by omega, by omega⟩) rfl (by decide) (by decide) rfl (Nat.le_of_ble_eq_true rfl) (fun z5 q4 => ?_)
    refine g_if_eq (pc' := 20) (tgt := 24) ⟨by omega, by omega⟩ dX10_areBoth_17 rfl rfl (fun c6 => ?_) (fun c6 => ?_)
    · replace q4 := q4.resolve_left (fun h => absurd (c6.symm.trans h.1) (by decide))
      refine g_iconst (pc' := 25) dX10_areBoth_24 rfl ?_
      refine g_zreturn dX10_areBoth_25 (by omega) ?_
      exact ⟨rfl, by omega⟩
    · replace q4 := q4.resolve_right (fun h => c6 h.1)
      refine g_iconst (pc' := 21) dX10_areBoth_20 rfl ?_
      refine g_goto (tgt := 25) dX10_areBoth_21 rfl ?_
      refine g_zreturn dX10_areBoth_25 (by omega) ?_
      exact ⟨rfl, by omega⟩
set_option maxHeartbeats 4000000 in
set_option maxRecDepth 100000 in
theorem c_X10_isCask (X : Cx) (M : Mm) (a : Int) (ha : inI a) (b : Int) (hb : inI b) : Con X 2 yX10_isCask cX10_isCask 2 (some .boolean) [vi a, vi b] M (Qi (fun r M1 => M1 = M ∧ ((r = 1 ∧ 1 ≤ a ∧ a ≤ 60 ∧ 0 ≤ b ∧ b ≤ a) ∨ (r = 0 ∧ (a < 1 ∨ 60 < a ∨ b < 0 ∨ a < b))))) := by
  refine Con.ofG rfl (Nat.le_of_ble_eq_true rfl) ?_
  show G X 2 RX10 cX10_isCask 2 (some .boolean) (Qi (fun r M1 => M1 = M ∧ ((r = 1 ∧ 1 ≤ a ∧ a ≤ 60 ∧ 0 ≤ b ∧ b ≤ a) ∨ (r = 0 ∧ (a < 1 ∨ 60 < a ∨ b < 0 ∨ a < b))))) 0 [(0, vi a), (1, vi b)] [] M
  refine g_iload_n (pc' := 1) 0 dX10_isCask_0 rfl rfl ?_
  refine g_callSip (pc' := 4) (As := [vi a]) (S := []) dX10_isCask_1 rfl m_X10_95 w_X10_isAmount (c_X10_isAmount X M a ha) rfl (by decide) (by decide) rfl (Nat.le_of_ble_eq_true rfl) (fun z2 q1 => ?_)
  refine g_if_eq (pc' := 7) (tgt := 22) ⟨by omega, by omega⟩ dX10_isCask_4 rfl rfl (fun c3 => ?_) (fun c3 => ?_)
  · replace q1 := q1.resolve_left (fun h => absurd (c3.symm.trans h.1) (by decide))
    refine g_iconst (pc' := 23) dX10_isCask_22 rfl ?_
    refine g_zreturn dX10_isCask_23 (by omega) ?_
    exact ⟨rfl, by omega⟩
  · replace q1 := q1.resolve_right (fun h => c3 h.1)
    refine g_iload_n (pc' := 8) 1 dX10_isCask_7 rfl rfl ?_
    refine g_i2l (pc' := 9) hb dX10_isCask_8 rfl ?_
    refine g_lconst (pc' := 10) (v := 0) dX10_isCask_9 rfl (by decide) ?_
    refine g_iload_n (pc' := 11) 0 dX10_isCask_10 rfl rfl ?_
    refine g_i2l (pc' := 12) ha dX10_isCask_11 rfl ?_
    refine g_callSip (pc' := 15) (As := [vl b, vl 0, vl a]) (S := []) dX10_isCask_12 rfl m_X10_83 w_X10_in (c_X10_in X M b ⟨by omega, by omega⟩ 0 (by decide) a ⟨by omega, by omega⟩) rfl (by decide) (by decide) rfl (Nat.le_of_ble_eq_true rfl) (fun z5 q4 => ?_)
    refine g_if_eq (pc' := 18) (tgt := 22) ⟨by omega, by omega⟩ dX10_isCask_15 rfl rfl (fun c6 => ?_) (fun c6 => ?_)
    · replace q4 := q4.resolve_left (fun h => absurd (c6.symm.trans h.1) (by decide))
      refine g_iconst (pc' := 23) dX10_isCask_22 rfl ?_
      refine g_zreturn dX10_isCask_23 (by omega) ?_
      exact ⟨rfl, by omega⟩
    · replace q4 := q4.resolve_right (fun h => c6 h.1)
      refine g_iconst (pc' := 19) dX10_isCask_18 rfl ?_
      refine g_goto (tgt := 23) dX10_isCask_19 rfl ?_
      refine g_zreturn dX10_isCask_23 (by omega) ?_
      exact ⟨rfl, by omega⟩
set_option maxHeartbeats 4000000 in
set_option maxRecDepth 100000 in
theorem l_X10_choose_16 (X : Cx) (M : Mm) (a : Int) (ha : inI a) (b : Int) (hb : inI b) (pa : 0 ≤ a ∧ a ≤ 40) (pb : 0 ≤ b ∧ b ≤ 40) : ∀ (kk : Nat) (res : Int) (i : Int) (hr : inL res) (h0 : 1 ≤ i) (h1 : i ≤ 41), (41 - i).toNat = kk → G X 0 RX10 cX10_choose 5 (some .long) (Ql (fun r M1 => M1 = M ∧ (inL r))) 16 [(2, vl res), (4, vi i), (0, vi a), (1, vi b)] [] M := by
  intro kk
  induction kk using Nat.strongRecOn with
  | ind kk ih =>
    intro res i hr h0 h1 hmes
    refine g_iload (pc' := 18) 1 dX10_choose_16 rfl rfl ?_
    refine g_iload_n (pc' := 19) 3 dX10_choose_18 rfl rfl ?_
    refine g_ic_gt (pc' := 22) (tgt := 42) ⟨by omega, by omega⟩ hb dX10_choose_19 rfl rfl (fun c1 => ?_) (fun c1 => ?_)
    · refine g_lload_n (pc' := 43) 0 dX10_choose_42 rfl rfl ?_
      refine g_lreturn dX10_choose_43 ?_
      exact ⟨rfl, by first | assumption | decide⟩
    · refine g_lload_n (pc' := 23) 0 dX10_choose_22 rfl rfl ?_
      refine g_iload_n (pc' := 24) 2 dX10_choose_23 rfl rfl ?_
      refine g_iload_n (pc' := 25) 3 dX10_choose_24 rfl rfl ?_
      refine g_isub (pc' := 26) dX10_choose_25 rfl ?_
      refine g_iload (pc' := 28) 1 dX10_choose_26 rfl rfl ?_
      refine g_iadd (pc' := 29) dX10_choose_28 rfl ?_
      refine g_i2l (pc' := 30) ⟨by omega, by omega⟩ dX10_choose_29 rfl ?_
      refine g_lmul (pc' := 31) dX10_choose_30 rfl ?_
      refine g_nrmL (fun n2 rn2 en2 => ?_)
      refine g_iload (pc' := 33) 1 dX10_choose_31 rfl rfl ?_
      refine g_i2l (pc' := 34) ⟨by omega, by omega⟩ dX10_choose_33 rfl ?_
      refine g_ldiv (pc' := 35) rn2 ⟨by omega, by omega⟩ (by omega) dX10_choose_34 rfl ?_
      refine g_nrmL (fun n3 rn3 en3 => ?_)
      refine g_lstore_n (pc' := 36) (i := 2) (L' := [(2, vl n3), (4, vi i), (0, vi a), (1, vi b)]) dX10_choose_35 rfl rfl (by decide) rfl ?_
      refine g_iinc (pc' := 39) (L' := [(4, vi (i + 1)), (2, vl n3), (0, vi a), (1, vi b)]) 1 dX10_choose_36 rfl rfl (by decide) rfl ?_
      refine g_goto (tgt := 16) dX10_choose_39 rfl ?_
      refine g_sub [1, 0, 2, 3] rfl ?_
      exact ih _ (by omega) n3 (i + 1) (by first | assumption | decide) (by omega) (by omega) rfl
set_option maxHeartbeats 4000000 in
set_option maxRecDepth 100000 in
theorem c_X10_choose (X : Cx) (M : Mm) (a : Int) (ha : inI a) (b : Int) (hb : inI b) (pa : 0 ≤ a ∧ a ≤ 40) (pb : 0 ≤ b ∧ b ≤ 40) : Con X 0 yX10_choose cX10_choose 5 (some .long) [vi a, vi b] M (Ql (fun r M1 => M1 = M ∧ (inL r))) := by
  refine Con.ofG rfl (Nat.le_of_ble_eq_true rfl) ?_
  show G X 0 RX10 cX10_choose 5 (some .long) (Ql (fun r M1 => M1 = M ∧ (inL r))) 0 [(0, vi a), (1, vi b)] [] M
  refine g_iload_n (pc' := 1) 1 dX10_choose_0 rfl rfl ?_
  refine g_if_lt (pc' := 4) (tgt := 9) hb dX10_choose_1 rfl rfl (fun c1 => ?_) (fun c1 => ?_)
  · refine g_lconst (pc' := 10) (v := 0) dX10_choose_9 rfl (by decide) ?_
    refine g_lreturn dX10_choose_10 ?_
    exact ⟨rfl, by first | assumption | decide⟩
  · refine g_iload_n (pc' := 5) 1 dX10_choose_4 rfl rfl ?_
    refine g_iload_n (pc' := 6) 0 dX10_choose_5 rfl rfl ?_
    refine g_ic_le (pc' := 9) (tgt := 11) hb ha dX10_choose_6 rfl rfl (fun c2 => ?_) (fun c2 => ?_)
    · refine g_lconst (pc' := 12) (v := 1) dX10_choose_11 rfl (by decide) ?_
      refine g_lstore_n (pc' := 13) (i := 2) (L' := [(2, vl 1), (0, vi a), (1, vi b)]) dX10_choose_12 rfl rfl (by decide) rfl ?_
      refine g_iconst (pc' := 14) dX10_choose_13 rfl ?_
      refine g_istore (pc' := 16) (L' := [(4, vi 1), (2, vl 1), (0, vi a), (1, vi b)]) dX10_choose_14 rfl (by decide) rfl ?_
      refine g_sub [1, 0, 2, 3] rfl ?_
      exact l_X10_choose_16 X M a ha b hb pa pb _ 1 1 (by first | assumption | decide) (by omega) (by omega) rfl
    · refine g_lconst (pc' := 10) (v := 0) dX10_choose_9 rfl (by decide) ?_
      refine g_lreturn dX10_choose_10 ?_
      exact ⟨rfl, by first | assumption | decide⟩
set_option maxHeartbeats 4000000 in
set_option maxRecDepth 100000 in
theorem c_X10_both (X : Cx) (M : Mm) (hi : IM M) (a : Int) (ha : inI a) (b : Int) (hb : inI b) (c : Int) (hc : inI c) (e : Int) (he : inI e) : Con X 12 yX10_both cX10_both 5 (some .long) [vr X 97, vi a, vi b, vi c, vi e] M (Ql (fun r M1 => IM M1 ∧ Fr (fun c => c = 97) M M1 ∧ M1 99 0 = M 99 0 ∧ M1 99 1 = M 99 1 ∧ M1 99 2 = M 99 2 ∧ M1 99 3 = M 99 3 ∧ M1 100 0 = M 100 0 ∧ M1 100 1 = M 100 1 ∧ M1 100 2 = M 100 2 ∧ M1 100 3 = M 100 3 ∧ M1 100 49 = M 100 49 ∧ M1 100 50 = M 100 50 ∧ M1 100 51 = M 100 51 ∧ M1 100 52 = M 100 52 ∧ M1 103 0 = M 103 0 ∧ M1 103 1 = M 103 1 ∧ M1 97 12 = M 97 12 ∧ M1 97 17 = M 97 17 ∧ M1 97 33 = M 97 33 ∧ M1 97 10 = M 97 10 ∧ M1 97 44 = M 97 44 ∧ M1 97 1 = M 97 1 ∧ (inL r))) := by
  refine Con.ofG rfl (Nat.le_of_ble_eq_true rfl) ?_
  show G X 12 RX10 cX10_both 5 (some .long) (Ql (fun r M1 => IM M1 ∧ Fr (fun c => c = 97) M M1 ∧ M1 99 0 = M 99 0 ∧ M1 99 1 = M 99 1 ∧ M1 99 2 = M 99 2 ∧ M1 99 3 = M 99 3 ∧ M1 100 0 = M 100 0 ∧ M1 100 1 = M 100 1 ∧ M1 100 2 = M 100 2 ∧ M1 100 3 = M 100 3 ∧ M1 100 49 = M 100 49 ∧ M1 100 50 = M 100 50 ∧ M1 100 51 = M 100 51 ∧ M1 100 52 = M 100 52 ∧ M1 103 0 = M 103 0 ∧ M1 103 1 = M 103 1 ∧ M1 97 12 = M 97 12 ∧ M1 97 17 = M 97 17 ∧ M1 97 33 = M 97 33 ∧ M1 97 10 = M 97 10 ∧ M1 97 44 = M 97 44 ∧ M1 97 1 = M 97 1 ∧ (inL r))) 0 [(0, vr X 97), (1, vi a), (2, vi b), (3, vi c), (4, vi e)] [] M
  have p0 := hi.1.1
  have p1 := hi.1.2.1
  have p2 := hi.1.2.2.1
  have p3 := hi.1.2.2.2.1
  have p12 := hi.2.2.2.1
  refine g_aload_n (pc' := 1) 0 dX10_both_0 rfl rfl ?_
  refine g_iconst (pc' := 2) dX10_both_1 rfl ?_
  refine g_putI (pc' := 5) dX10_both_2 rfl p_X10_77 rfl rfl (by decide) (fun M1 hM1 => ?_)
  have iM1 : IM M1 := IM.wr hi hM1 (by unfold okv; first | decide | omega)
  have fM1 : Fr (fun c => c = 97) M M1 := Fr.wr Fr.rf hM1 (by first | decide | omega | (dsimp only; omega))
  have q99_0_M1 : (M1 99 0 = M 99 0) := (show M1 99 0 = M 99 0 by rw [hM1]; exact mu_ne _ _ (by first | decide | omega))
  have q99_1_M1 : (M1 99 1 = M 99 1) := (show M1 99 1 = M 99 1 by rw [hM1]; exact mu_ne _ _ (by first | decide | omega))
  have q99_2_M1 : (M1 99 2 = M 99 2) := (show M1 99 2 = M 99 2 by rw [hM1]; exact mu_ne _ _ (by first | decide | omega))
  have q99_3_M1 : (M1 99 3 = M 99 3) := (show M1 99 3 = M 99 3 by rw [hM1]; exact mu_ne _ _ (by first | decide | omega))
  have q100_0_M1 : id (M1 100 0 = M 100 0) := (show M1 100 0 = M 100 0 by rw [hM1]; exact mu_ne _ _ (by first | decide | omega))
  have q100_1_M1 : id (M1 100 1 = M 100 1) := (show M1 100 1 = M 100 1 by rw [hM1]; exact mu_ne _ _ (by first | decide | omega))
  have q100_2_M1 : id (M1 100 2 = M 100 2) := (show M1 100 2 = M 100 2 by rw [hM1]; exact mu_ne _ _ (by first | decide | omega))
  have q100_3_M1 : id (M1 100 3 = M 100 3) := (show M1 100 3 = M 100 3 by rw [hM1]; exact mu_ne _ _ (by first | decide | omega))
  have q100_49_M1 : id (M1 100 49 = M 100 49) := (show M1 100 49 = M 100 49 by rw [hM1]; exact mu_ne _ _ (by first | decide | omega))
  have q100_50_M1 : id (M1 100 50 = M 100 50) := (show M1 100 50 = M 100 50 by rw [hM1]; exact mu_ne _ _ (by first | decide | omega))
  have q100_51_M1 : id (M1 100 51 = M 100 51) := (show M1 100 51 = M 100 51 by rw [hM1]; exact mu_ne _ _ (by first | decide | omega))
  have q100_52_M1 : id (M1 100 52 = M 100 52) := (show M1 100 52 = M 100 52 by rw [hM1]; exact mu_ne _ _ (by first | decide | omega))
  have q103_0_M1 : id (M1 103 0 = M 103 0) := (show M1 103 0 = M 103 0 by rw [hM1]; exact mu_ne _ _ (by first | decide | omega))
  have q103_1_M1 : id (M1 103 1 = M 103 1) := (show M1 103 1 = M 103 1 by rw [hM1]; exact mu_ne _ _ (by first | decide | omega))
  have q97_12_M1 : (M1 97 12 = M 97 12) := (show M1 97 12 = M 97 12 by rw [hM1]; exact mu_ne _ _ (by first | decide | omega))
  have q97_17_M1 : (M1 97 17 = M 97 17) := (show M1 97 17 = M 97 17 by rw [hM1]; exact mu_ne _ _ (by first | decide | omega))
  have q97_33_M1 : (M1 97 33 = M 97 33) := (show M1 97 33 = M 97 33 by rw [hM1]; exact mu_ne _ _ (by first | decide | omega))
  have q97_10_M1 : (M1 97 10 = M 97 10) := (show M1 97 10 = M 97 10 by rw [hM1]; exact mu_ne _ _ (by first | decide | omega))
  have q97_44_M1 : (M1 97 44 = M 97 44) := (show M1 97 44 = M 97 44 by rw [hM1]; exact mu_ne _ _ (by first | decide | omega))
  have q97_1_M1 : (M1 97 1 = M 97 1) := (show M1 97 1 = M 97 1 by rw [hM1]; exact mu_ne _ _ (by first | decide | omega))
  have xM1_97_0 : M1 97 0 = 0 := by rw [hM1]; exact mu_at _ _ _ _
  refine g_iload_n (pc' := 6) 1 dX10_both_5 rfl rfl ?_
  refine g_iload_n (pc' := 7) 2 dX10_both_6 rfl rfl ?_
  refine g_callSip (pc' := 10) (As := [vi a, vi b]) (S := []) dX10_both_7 rfl m_X10_331 w_X10_areBoth (c_X10_areBoth X M1 a ha b hb) rfl (by decide) (by decide) rfl (Nat.le_of_ble_eq_true rfl) (fun z3 q2 => ?_)
  refine g_if_eq (pc' := 13) (tgt := 60) ⟨by omega, by omega⟩ dX10_both_10 rfl rfl (fun c4 => ?_) (fun c4 => ?_)
  · replace q2 := q2.resolve_left (fun h => absurd (c4.symm.trans h.1) (by decide))
    refine g_ldc2 (pc' := 63) (v := (-1)) dX10_both_60 rfl k_X10_108 ?_
    refine g_lreturn dX10_both_63 ?_
    exact ⟨iM1, fM1, q99_0_M1, q99_1_M1, q99_2_M1, q99_3_M1, q100_0_M1, q100_1_M1, q100_2_M1, q100_3_M1, q100_49_M1, q100_50_M1, q100_51_M1, q100_52_M1, q103_0_M1, q103_1_M1, q97_12_M1, q97_17_M1, q97_33_M1, q97_10_M1, q97_44_M1, q97_1_M1, by first | assumption | decide | omega⟩
  · replace q2 := q2.resolve_right (fun h => c4 h.1)
    refine g_iload_n (pc' := 14) 3 dX10_both_13 rfl rfl ?_
    refine g_i2l (pc' := 15) hc dX10_both_14 rfl ?_
    refine g_lconst (pc' := 16) (v := 0) dX10_both_15 rfl (by decide) ?_
    refine g_ldc2 (pc' := 19) (v := 6) dX10_both_16 rfl k_X10_335 ?_
    refine g_callSip (pc' := 22) (As := [vl c, vl 0, vl 6]) (S := []) dX10_both_19 rfl m_X10_83 w_X10_in (c_X10_in X M1 c ⟨by omega, by omega⟩ 0 (by decide) 6 (by decide)) rfl (by decide) (by decide) rfl (Nat.le_of_ble_eq_true rfl) (fun z6 q5 => ?_)
    refine g_if_eq (pc' := 25) (tgt := 60) ⟨by omega, by omega⟩ dX10_both_22 rfl rfl (fun c7 => ?_) (fun c7 => ?_)
    · replace q5 := q5.resolve_left (fun h => absurd (c7.symm.trans h.1) (by decide))
      refine g_ldc2 (pc' := 63) (v := (-1)) dX10_both_60 rfl k_X10_108 ?_
      refine g_lreturn dX10_both_63 ?_
      exact ⟨iM1, fM1, q99_0_M1, q99_1_M1, q99_2_M1, q99_3_M1, q100_0_M1, q100_1_M1, q100_2_M1, q100_3_M1, q100_49_M1, q100_50_M1, q100_51_M1, q100_52_M1, q103_0_M1, q103_1_M1, q97_12_M1, q97_17_M1, q97_33_M1, q97_10_M1, q97_44_M1, q97_1_M1, by first | assumption | decide | omega⟩
    · replace q5 := q5.resolve_right (fun h => c7 h.1)
      refine g_iload (pc' := 27) 4 dX10_both_25 rfl rfl ?_
      refine g_i2l (pc' := 28) he dX10_both_27 rfl ?_
      refine g_lconst (pc' := 29) (v := 0) dX10_both_28 rfl (by decide) ?_
      refine g_lconst (pc' := 30) (v := 1) dX10_both_29 rfl (by decide) ?_
      refine g_callSip (pc' := 33) (As := [vl e, vl 0, vl 1]) (S := []) dX10_both_30 rfl m_X10_83 w_X10_in (c_X10_in X M1 e ⟨by omega, by omega⟩ 0 (by decide) 1 (by decide)) rfl (by decide) (by decide) rfl (Nat.le_of_ble_eq_true rfl) (fun z9 q8 => ?_)
      refine g_if_eq (pc' := 36) (tgt := 60) ⟨by omega, by omega⟩ dX10_both_33 rfl rfl (fun c10 => ?_) (fun c10 => ?_)
      · replace q8 := q8.resolve_left (fun h => absurd (c10.symm.trans h.1) (by decide))
        refine g_ldc2 (pc' := 63) (v := (-1)) dX10_both_60 rfl k_X10_108 ?_
        refine g_lreturn dX10_both_63 ?_
        exact ⟨iM1, fM1, q99_0_M1, q99_1_M1, q99_2_M1, q99_3_M1, q100_0_M1, q100_1_M1, q100_2_M1, q100_3_M1, q100_49_M1, q100_50_M1, q100_51_M1, q100_52_M1, q103_0_M1, q103_1_M1, q97_12_M1, q97_17_M1, q97_33_M1, q97_10_M1, q97_44_M1, q97_1_M1, by first | assumption | decide | omega⟩
      · replace q8 := q8.resolve_right (fun h => c10 h.1)
        refine g_iload_n (pc' := 37) 1 dX10_both_36 rfl rfl ?_
        refine g_iload_n (pc' := 38) 2 dX10_both_37 rfl rfl ?_
        refine g_isub (pc' := 39) dX10_both_38 rfl ?_
        refine g_i2l (pc' := 40) ⟨by omega, by omega⟩ dX10_both_39 rfl ?_
        refine g_iload_n (pc' := 41) 3 dX10_both_40 rfl rfl ?_
        refine g_callSlp (pc' := 44) (As := [vl (a - b), vi c]) (S := []) dX10_both_41 rfl m_X10_337 w_X10_power (c_X10_power X M1 (a - b) ⟨by omega, by omega⟩ c hc (by omega) (by omega)) rfl (by decide) (by decide) rfl (Nat.le_of_ble_eq_true rfl) (fun z12 q11 => ?_)
        have hz12 := powR (a := a - b) (k := (c).toNat) (by omega) (by omega) (by omega)
        rw [← q11] at hz12
        refine g_iload_n (pc' := 45) 1 dX10_both_44 rfl rfl ?_
        refine g_iload_n (pc' := 46) 2 dX10_both_45 rfl rfl ?_
        refine g_iadd (pc' := 47) dX10_both_46 rfl ?_
        refine g_i2l (pc' := 48) ⟨by omega, by omega⟩ dX10_both_47 rfl ?_
        refine g_iload_n (pc' := 49) 3 dX10_both_48 rfl rfl ?_
        refine g_callSlp (pc' := 52) (As := [vl (a + b), vi c]) (S := [vl z12]) dX10_both_49 rfl m_X10_337 w_X10_power (c_X10_power X M1 (a + b) ⟨by omega, by omega⟩ c hc (by omega) (by omega)) rfl (by decide) (by decide) rfl (Nat.le_of_ble_eq_true rfl) (fun z14 q13 => ?_)
        have hz14 := powR (a := a + b) (k := (c).toNat) (by omega) (by omega) (by omega)
        rw [← q13] at hz14
        refine g_iload (pc' := 54) 4 dX10_both_52 rfl rfl ?_
        refine g_callSlp (pc' := 57) (As := [vl z12, vl z14, vi e]) (S := []) dX10_both_54 rfl m_X10_341 w_X10_lowest (c_X10_lowest X M1 z12 ⟨by omega, by omega⟩ z14 ⟨by omega, by omega⟩ e he (by omega) (by omega)) rfl (by decide) (by decide) rfl (Nat.le_of_ble_eq_true rfl) (fun z16 q15 => ?_)
        refine g_goto (tgt := 63) dX10_both_57 rfl ?_
        refine g_lreturn dX10_both_63 ?_
        exact ⟨iM1, fM1, q99_0_M1, q99_1_M1, q99_2_M1, q99_3_M1, q100_0_M1, q100_1_M1, q100_2_M1, q100_3_M1, q100_49_M1, q100_50_M1, q100_51_M1, q100_52_M1, q103_0_M1, q103_1_M1, q97_12_M1, q97_17_M1, q97_33_M1, q97_10_M1, q97_44_M1, q97_1_M1, by first | assumption | decide | omega⟩
set_option maxHeartbeats 4000000 in
set_option maxRecDepth 100000 in
theorem c_X10_cask (X : Cx) (M : Mm) (hi : IM M) (a : Int) (ha : inI a) (b : Int) (hb : inI b) (c : Int) (hc : inI c) (e : Int) (he : inI e) : Con X 12 yX10_cask cX10_cask 5 (some .long) [vr X 97, vi a, vi b, vi c, vi e] M (Ql (fun r M1 => IM M1 ∧ Fr (fun c => c = 97) M M1 ∧ M1 99 0 = M 99 0 ∧ M1 99 1 = M 99 1 ∧ M1 99 2 = M 99 2 ∧ M1 99 3 = M 99 3 ∧ M1 100 0 = M 100 0 ∧ M1 100 1 = M 100 1 ∧ M1 100 2 = M 100 2 ∧ M1 100 3 = M 100 3 ∧ M1 100 49 = M 100 49 ∧ M1 100 50 = M 100 50 ∧ M1 100 51 = M 100 51 ∧ M1 100 52 = M 100 52 ∧ M1 103 0 = M 103 0 ∧ M1 103 1 = M 103 1 ∧ M1 97 12 = M 97 12 ∧ M1 97 17 = M 97 17 ∧ M1 97 33 = M 97 33 ∧ M1 97 10 = M 97 10 ∧ M1 97 44 = M 97 44 ∧ M1 97 1 = M 97 1 ∧ (inL r))) := by
  refine Con.ofG rfl (Nat.le_of_ble_eq_true rfl) ?_
  show G X 12 RX10 cX10_cask 5 (some .long) (Ql (fun r M1 => IM M1 ∧ Fr (fun c => c = 97) M M1 ∧ M1 99 0 = M 99 0 ∧ M1 99 1 = M 99 1 ∧ M1 99 2 = M 99 2 ∧ M1 99 3 = M 99 3 ∧ M1 100 0 = M 100 0 ∧ M1 100 1 = M 100 1 ∧ M1 100 2 = M 100 2 ∧ M1 100 3 = M 100 3 ∧ M1 100 49 = M 100 49 ∧ M1 100 50 = M 100 50 ∧ M1 100 51 = M 100 51 ∧ M1 100 52 = M 100 52 ∧ M1 103 0 = M 103 0 ∧ M1 103 1 = M 103 1 ∧ M1 97 12 = M 97 12 ∧ M1 97 17 = M 97 17 ∧ M1 97 33 = M 97 33 ∧ M1 97 10 = M 97 10 ∧ M1 97 44 = M 97 44 ∧ M1 97 1 = M 97 1 ∧ (inL r))) 0 [(0, vr X 97), (1, vi a), (2, vi b), (3, vi c), (4, vi e)] [] M
  have p0 := hi.1.1
  have p1 := hi.1.2.1
  have p2 := hi.1.2.2.1
  have p3 := hi.1.2.2.2.1
  have p12 := hi.2.2.2.1
  refine g_aload_n (pc' := 1) 0 dX10_cask_0 rfl rfl ?_
  refine g_iconst (pc' := 2) dX10_cask_1 rfl ?_
  refine g_putI (pc' := 5) dX10_cask_2 rfl p_X10_77 rfl rfl (by decide) (fun M1 hM1 => ?_)
  have iM1 : IM M1 := IM.wr hi hM1 (by unfold okv; first | decide | omega)
  have fM1 : Fr (fun c => c = 97) M M1 := Fr.wr Fr.rf hM1 (by first | decide | omega | (dsimp only; omega))
  have q99_0_M1 : (M1 99 0 = M 99 0) := (show M1 99 0 = M 99 0 by rw [hM1]; exact mu_ne _ _ (by first | decide | omega))
  have q99_1_M1 : (M1 99 1 = M 99 1) := (show M1 99 1 = M 99 1 by rw [hM1]; exact mu_ne _ _ (by first | decide | omega))
  have q99_2_M1 : (M1 99 2 = M 99 2) := (show M1 99 2 = M 99 2 by rw [hM1]; exact mu_ne _ _ (by first | decide | omega))
  have q99_3_M1 : (M1 99 3 = M 99 3) := (show M1 99 3 = M 99 3 by rw [hM1]; exact mu_ne _ _ (by first | decide | omega))
  have q100_0_M1 : id (M1 100 0 = M 100 0) := (show M1 100 0 = M 100 0 by rw [hM1]; exact mu_ne _ _ (by first | decide | omega))
  have q100_1_M1 : id (M1 100 1 = M 100 1) := (show M1 100 1 = M 100 1 by rw [hM1]; exact mu_ne _ _ (by first | decide | omega))
  have q100_2_M1 : id (M1 100 2 = M 100 2) := (show M1 100 2 = M 100 2 by rw [hM1]; exact mu_ne _ _ (by first | decide | omega))
  have q100_3_M1 : id (M1 100 3 = M 100 3) := (show M1 100 3 = M 100 3 by rw [hM1]; exact mu_ne _ _ (by first | decide | omega))
  have q100_49_M1 : id (M1 100 49 = M 100 49) := (show M1 100 49 = M 100 49 by rw [hM1]; exact mu_ne _ _ (by first | decide | omega))
  have q100_50_M1 : id (M1 100 50 = M 100 50) := (show M1 100 50 = M 100 50 by rw [hM1]; exact mu_ne _ _ (by first | decide | omega))
  have q100_51_M1 : id (M1 100 51 = M 100 51) := (show M1 100 51 = M 100 51 by rw [hM1]; exact mu_ne _ _ (by first | decide | omega))
  have q100_52_M1 : id (M1 100 52 = M 100 52) := (show M1 100 52 = M 100 52 by rw [hM1]; exact mu_ne _ _ (by first | decide | omega))
  have q103_0_M1 : id (M1 103 0 = M 103 0) := (show M1 103 0 = M 103 0 by rw [hM1]; exact mu_ne _ _ (by first | decide | omega))
  have q103_1_M1 : id (M1 103 1 = M 103 1) := (show M1 103 1 = M 103 1 by rw [hM1]; exact mu_ne _ _ (by first | decide | omega))
  have q97_12_M1 : (M1 97 12 = M 97 12) := (show M1 97 12 = M 97 12 by rw [hM1]; exact mu_ne _ _ (by first | decide | omega))
  have q97_17_M1 : (M1 97 17 = M 97 17) := (show M1 97 17 = M 97 17 by rw [hM1]; exact mu_ne _ _ (by first | decide | omega))
  have q97_33_M1 : (M1 97 33 = M 97 33) := (show M1 97 33 = M 97 33 by rw [hM1]; exact mu_ne _ _ (by first | decide | omega))
  have q97_10_M1 : (M1 97 10 = M 97 10) := (show M1 97 10 = M 97 10 by rw [hM1]; exact mu_ne _ _ (by first | decide | omega))
  have q97_44_M1 : (M1 97 44 = M 97 44) := (show M1 97 44 = M 97 44 by rw [hM1]; exact mu_ne _ _ (by first | decide | omega))
  have q97_1_M1 : (M1 97 1 = M 97 1) := (show M1 97 1 = M 97 1 by rw [hM1]; exact mu_ne _ _ (by first | decide | omega))
  have xM1_97_0 : M1 97 0 = 0 := by rw [hM1]; exact mu_at _ _ _ _
  refine g_iload_n (pc' := 6) 1 dX10_cask_5 rfl rfl ?_
  refine g_iload_n (pc' := 7) 2 dX10_cask_6 rfl rfl ?_
  refine g_callSip (pc' := 10) (As := [vi a, vi b]) (S := []) dX10_cask_7 rfl m_X10_377 w_X10_isCask (c_X10_isCask X M1 a ha b hb) rfl (by decide) (by decide) rfl (Nat.le_of_ble_eq_true rfl) (fun z3 q2 => ?_)
  refine g_if_eq (pc' := 13) (tgt := 58) ⟨by omega, by omega⟩ dX10_cask_10 rfl rfl (fun c4 => ?_) (fun c4 => ?_)
  · replace q2 := q2.resolve_left (fun h => absurd (c4.symm.trans h.1) (by decide))
    refine g_ldc2 (pc' := 61) (v := (-1)) dX10_cask_58 rfl k_X10_108 ?_
    refine g_lreturn dX10_cask_61 ?_
    exact ⟨iM1, fM1, q99_0_M1, q99_1_M1, q99_2_M1, q99_3_M1, q100_0_M1, q100_1_M1, q100_2_M1, q100_3_M1, q100_49_M1, q100_50_M1, q100_51_M1, q100_52_M1, q103_0_M1, q103_1_M1, q97_12_M1, q97_17_M1, q97_33_M1, q97_10_M1, q97_44_M1, q97_1_M1, by first | assumption | decide | omega⟩
  · replace q2 := q2.resolve_right (fun h => c4 h.1)
    refine g_iload_n (pc' := 14) 3 dX10_cask_13 rfl rfl ?_
    refine g_i2l (pc' := 15) hc dX10_cask_14 rfl ?_
    refine g_lconst (pc' := 16) (v := 0) dX10_cask_15 rfl (by decide) ?_
    refine g_ldc2 (pc' := 19) (v := 6) dX10_cask_16 rfl k_X10_335 ?_
    refine g_callSip (pc' := 22) (As := [vl c, vl 0, vl 6]) (S := []) dX10_cask_19 rfl m_X10_83 w_X10_in (c_X10_in X M1 c ⟨by omega, by omega⟩ 0 (by decide) 6 (by decide)) rfl (by decide) (by decide) rfl (Nat.le_of_ble_eq_true rfl) (fun z6 q5 => ?_)
    refine g_if_eq (pc' := 25) (tgt := 58) ⟨by omega, by omega⟩ dX10_cask_22 rfl rfl (fun c7 => ?_) (fun c7 => ?_)
    · replace q5 := q5.resolve_left (fun h => absurd (c7.symm.trans h.1) (by decide))
      refine g_ldc2 (pc' := 61) (v := (-1)) dX10_cask_58 rfl k_X10_108 ?_
      refine g_lreturn dX10_cask_61 ?_
      exact ⟨iM1, fM1, q99_0_M1, q99_1_M1, q99_2_M1, q99_3_M1, q100_0_M1, q100_1_M1, q100_2_M1, q100_3_M1, q100_49_M1, q100_50_M1, q100_51_M1, q100_52_M1, q103_0_M1, q103_1_M1, q97_12_M1, q97_17_M1, q97_33_M1, q97_10_M1, q97_44_M1, q97_1_M1, by first | assumption | decide | omega⟩
    · replace q5 := q5.resolve_right (fun h => c7 h.1)
      refine g_iload (pc' := 27) 4 dX10_cask_25 rfl rfl ?_
      refine g_i2l (pc' := 28) he dX10_cask_27 rfl ?_
      refine g_lconst (pc' := 29) (v := 0) dX10_cask_28 rfl (by decide) ?_
      refine g_lconst (pc' := 30) (v := 1) dX10_cask_29 rfl (by decide) ?_
      refine g_callSip (pc' := 33) (As := [vl e, vl 0, vl 1]) (S := []) dX10_cask_30 rfl m_X10_83 w_X10_in (c_X10_in X M1 e ⟨by omega, by omega⟩ 0 (by decide) 1 (by decide)) rfl (by decide) (by decide) rfl (Nat.le_of_ble_eq_true rfl) (fun z9 q8 => ?_)
      refine g_if_eq (pc' := 36) (tgt := 58) ⟨by omega, by omega⟩ dX10_cask_33 rfl rfl (fun c10 => ?_) (fun c10 => ?_)
      · replace q8 := q8.resolve_left (fun h => absurd (c10.symm.trans h.1) (by decide))
        refine g_ldc2 (pc' := 61) (v := (-1)) dX10_cask_58 rfl k_X10_108 ?_
        refine g_lreturn dX10_cask_61 ?_
        exact ⟨iM1, fM1, q99_0_M1, q99_1_M1, q99_2_M1, q99_3_M1, q100_0_M1, q100_1_M1, q100_2_M1, q100_3_M1, q100_49_M1, q100_50_M1, q100_51_M1, q100_52_M1, q103_0_M1, q103_1_M1, q97_12_M1, q97_17_M1, q97_33_M1, q97_10_M1, q97_44_M1, q97_1_M1, by first | assumption | decide | omega⟩
      · replace q8 := q8.resolve_right (fun h => c10 h.1)
        refine g_iload_n (pc' := 37) 1 dX10_cask_36 rfl rfl ?_
        refine g_iload_n (pc' := 38) 2 dX10_cask_37 rfl rfl ?_
        refine g_isub (pc' := 39) dX10_cask_38 rfl ?_
        refine g_i2l (pc' := 40) ⟨by omega, by omega⟩ dX10_cask_39 rfl ?_
        refine g_iload_n (pc' := 41) 3 dX10_cask_40 rfl rfl ?_
        refine g_callSlp (pc' := 44) (As := [vl (a - b), vi c]) (S := []) dX10_cask_41 rfl m_X10_337 w_X10_power (c_X10_power X M1 (a - b) ⟨by omega, by omega⟩ c hc (by omega) (by omega)) rfl (by decide) (by decide) rfl (Nat.le_of_ble_eq_true rfl) (fun z12 q11 => ?_)
        have hz12 := powR (a := a - b) (k := (c).toNat) (by omega) (by omega) (by omega)
        rw [← q11] at hz12
        refine g_iload_n (pc' := 45) 1 dX10_cask_44 rfl rfl ?_
        refine g_i2l (pc' := 46) ha dX10_cask_45 rfl ?_
        refine g_iload_n (pc' := 47) 3 dX10_cask_46 rfl rfl ?_
        refine g_callSlp (pc' := 50) (As := [vl a, vi c]) (S := [vl z12]) dX10_cask_47 rfl m_X10_337 w_X10_power (c_X10_power X M1 a ⟨by omega, by omega⟩ c hc (by omega) (by omega)) rfl (by decide) (by decide) rfl (Nat.le_of_ble_eq_true rfl) (fun z14 q13 => ?_)
        have hz14 := powR (a := a) (k := (c).toNat) (by omega) (by omega) (by omega)
        rw [← q13] at hz14
        refine g_iload (pc' := 52) 4 dX10_cask_50 rfl rfl ?_
        refine g_callSlp (pc' := 55) (As := [vl z12, vl z14, vi e]) (S := []) dX10_cask_52 rfl m_X10_341 w_X10_lowest (c_X10_lowest X M1 z12 ⟨by omega, by omega⟩ z14 ⟨by omega, by omega⟩ e he (by omega) (by omega)) rfl (by decide) (by decide) rfl (Nat.le_of_ble_eq_true rfl) (fun z16 q15 => ?_)
        refine g_goto (tgt := 61) dX10_cask_55 rfl ?_
        refine g_lreturn dX10_cask_61 ?_
        exact ⟨iM1, fM1, q99_0_M1, q99_1_M1, q99_2_M1, q99_3_M1, q100_0_M1, q100_1_M1, q100_2_M1, q100_3_M1, q100_49_M1, q100_50_M1, q100_51_M1, q100_52_M1, q103_0_M1, q103_1_M1, q97_12_M1, q97_17_M1, q97_33_M1, q97_10_M1, q97_44_M1, q97_1_M1, by first | assumption | decide | omega⟩
set_option maxHeartbeats 4000000 in
set_option maxRecDepth 100000 in
theorem l_X10_rounds_30 (X : Cx) (M : Mm) (hi : IM M) (a : Int) (ha : inI a) (b : Int) (hb : inI b) (c : Int) (hc : inI c) : ∀ (kk : Nat) (i : Int) (M1 : Mm) (ic1 : IM M1) (fr1 : Fr (fun c => c = 97) M M1) (q99_0 : (M1 99 0 = M 99 0)) (q99_1 : (M1 99 1 = M 99 1)) (q99_2 : (M1 99 2 = M 99 2)) (q99_3 : (M1 99 3 = M 99 3)) (q100_0 : id (M1 100 0 = M 100 0)) (q100_1 : id (M1 100 1 = M 100 1)) (q100_2 : id (M1 100 2 = M 100 2)) (q100_3 : id (M1 100 3 = M 100 3)) (q100_49 : id (M1 100 49 = M 100 49)) (q100_50 : id (M1 100 50 = M 100 50)) (q100_51 : id (M1 100 51 = M 100 51)) (q100_52 : id (M1 100 52 = M 100 52)) (q103_0 : id (M1 103 0 = M 103 0)) (q103_1 : id (M1 103 1 = M 103 1)) (q97_12 : (M1 97 12 = M 97 12)) (q97_17 : (M1 97 17 = M 97 17)) (q97_33 : (M1 97 33 = M 97 33)) (q97_10 : (M1 97 10 = M 97 10)) (q97_44 : (M1 97 44 = M 97 44)) (q97_1 : (M1 97 1 = M 97 1)) (h0 : 0 ≤ i) (h1 : i ≤ 7) (k1 : 1 ≤ a ∧ a ≤ 60 ∧ 1 ≤ b ∧ b ≤ a - 1), (7 - i).toNat = kk → G X 12 RX10 cX10_rounds 5 (some .int) (Qi (fun r M1 => IM M1 ∧ Fr (fun c => c = 97) M M1 ∧ M1 99 0 = M 99 0 ∧ M1 99 1 = M 99 1 ∧ M1 99 2 = M 99 2 ∧ M1 99 3 = M 99 3 ∧ M1 100 0 = M 100 0 ∧ M1 100 1 = M 100 1 ∧ M1 100 2 = M 100 2 ∧ M1 100 3 = M 100 3 ∧ M1 100 49 = M 100 49 ∧ M1 100 50 = M 100 50 ∧ M1 100 51 = M 100 51 ∧ M1 100 52 = M 100 52 ∧ M1 103 0 = M 103 0 ∧ M1 103 1 = M 103 1 ∧ M1 97 12 = M 97 12 ∧ M1 97 17 = M 97 17 ∧ M1 97 33 = M 97 33 ∧ M1 97 10 = M 97 10 ∧ M1 97 44 = M 97 44 ∧ M1 97 1 = M 97 1 ∧ (inI r))) 30 [(4, vi i), (0, vr X 97), (1, vi a), (2, vi b), (3, vi c)] [] M1 := by
  intro kk
  induction kk using Nat.strongRecOn with
  | ind kk ih =>
    intro i M1 ic1 fr1 q99_0 q99_1 q99_2 q99_3 q100_0 q100_1 q100_2 q100_3 q100_49 q100_50 q100_51 q100_52 q103_0 q103_1 q97_12 q97_17 q97_33 q97_10 q97_44 q97_1 h0 h1 k1 hmes
    have p0 := hi.1.1
    have p1 := hi.1.2.1
    have p2 := hi.1.2.2.1
    have p3 := hi.1.2.2.2.1
    have p12 := hi.2.2.2.1
    refine g_iload (pc' := 32) 0 dX10_rounds_30 rfl rfl ?_
    refine g_bipush (pc' := 34) (v := 7) dX10_rounds_32 rfl (by decide) ?_
    refine g_ic_ge (pc' := 37) (tgt := 75) ⟨by omega, by omega⟩ (by decide) dX10_rounds_34 rfl rfl (fun c1 => ?_) (fun c1 => ?_)
    · refine g_iconst (pc' := 76) dX10_rounds_75 rfl ?_
      refine g_ireturn dX10_rounds_76 ?_
      exact ⟨ic1, fr1, q99_0, q99_1, q99_2, q99_3, q100_0, q100_1, q100_2, q100_3, q100_49, q100_50, q100_51, q100_52, q103_0, q103_1, q97_12, q97_17, q97_33, q97_10, q97_44, q97_1, by first | assumption | decide | omega⟩
    · refine g_ldc2 (pc' := 40) (v := 100) dX10_rounds_37 rfl k_X10_110 ?_
      refine g_iload_n (pc' := 41) 2 dX10_rounds_40 rfl rfl ?_
      refine g_iload_n (pc' := 42) 3 dX10_rounds_41 rfl rfl ?_
      refine g_isub (pc' := 43) dX10_rounds_42 rfl ?_
      refine g_i2l (pc' := 44) ⟨by omega, by omega⟩ dX10_rounds_43 rfl ?_
      refine g_iload (pc' := 46) 0 dX10_rounds_44 rfl rfl ?_
      refine g_callSlp (pc' := 49) (As := [vl (a - b), vi i]) (S := [vl 100]) dX10_rounds_46 rfl m_X10_337 w_X10_power (c_X10_power X M1 (a - b) ⟨by omega, by omega⟩ i ⟨by omega, by omega⟩ (by omega) (by omega)) rfl (by decide) (by decide) rfl (Nat.le_of_ble_eq_true rfl) (fun z3 q2 => ?_)
      have hz3 := powR (a := a - b) (k := (i).toNat) (by omega) (by omega) (by omega)
      rw [← q2] at hz3
      refine g_lmul (pc' := 50) dX10_rounds_49 rfl ?_
      refine g_nrmL (fun n4 rn4 en4 => ?_)
      refine g_iload_n (pc' := 51) 4 dX10_rounds_50 rfl rfl ?_
      refine g_i2l (pc' := 52) hc dX10_rounds_51 rfl ?_
      refine g_iload_n (pc' := 53) 2 dX10_rounds_52 rfl rfl ?_
      refine g_iload_n (pc' := 54) 3 dX10_rounds_53 rfl rfl ?_
      refine g_iadd (pc' := 55) dX10_rounds_54 rfl ?_
      refine g_i2l (pc' := 56) ⟨by omega, by omega⟩ dX10_rounds_55 rfl ?_
      refine g_iload (pc' := 58) 0 dX10_rounds_56 rfl rfl ?_
      refine g_callSlp (pc' := 61) (As := [vl (a + b), vi i]) (S := [vl c, vl n4]) dX10_rounds_58 rfl m_X10_337 w_X10_power (c_X10_power X M1 (a + b) ⟨by omega, by omega⟩ i ⟨by omega, by omega⟩ (by omega) (by omega)) rfl (by decide) (by decide) rfl (Nat.le_of_ble_eq_true rfl) (fun z6 q5 => ?_)
      have hz6 := powR (a := a + b) (k := (i).toNat) (by omega) (by omega) (by omega)
      rw [← q5] at hz6
      refine g_lmul (pc' := 62) dX10_rounds_61 rfl ?_
      refine g_nrmL (fun n7 rn7 en7 => ?_)
      refine g_lc_gt (pc' := 66) (tgt := 69) rn4 rn7 dX10_rounds_62 dX10_rounds_63 rfl rfl (fun c8 => ?_) (fun c8 => ?_)
      · refine g_iinc (pc' := 72) (L' := [(4, vi (i + 1)), (0, vr X 97), (1, vi a), (2, vi b), (3, vi c)]) 0 dX10_rounds_69 rfl rfl (by decide) rfl ?_
        refine g_goto (tgt := 30) dX10_rounds_72 rfl ?_
        refine g_sub [0, 1, 2, 3, 4] rfl ?_
        exact ih _ (by omega) (i + 1) M1 ic1 fr1 q99_0 q99_1 q99_2 q99_3 q100_0 q100_1 q100_2 q100_3 q100_49 q100_50 q100_51 q100_52 q103_0 q103_1 q97_12 q97_17 q97_33 q97_10 q97_44 q97_1 (by omega) (by omega) (by omega) rfl
      · refine g_iload (pc' := 68) 0 dX10_rounds_66 rfl rfl ?_
        refine g_ireturn dX10_rounds_68 ?_
        exact ⟨ic1, fr1, q99_0, q99_1, q99_2, q99_3, q100_0, q100_1, q100_2, q100_3, q100_49, q100_50, q100_51, q100_52, q103_0, q103_1, q97_12, q97_17, q97_33, q97_10, q97_44, q97_1, by first | assumption | decide | omega⟩
set_option maxHeartbeats 4000000 in
set_option maxRecDepth 100000 in
theorem c_X10_rounds (X : Cx) (M : Mm) (hi : IM M) (a : Int) (ha : inI a) (b : Int) (hb : inI b) (c : Int) (hc : inI c) : Con X 12 yX10_rounds cX10_rounds 5 (some .int) [vr X 97, vi a, vi b, vi c] M (Qi (fun r M1 => IM M1 ∧ Fr (fun c => c = 97) M M1 ∧ M1 99 0 = M 99 0 ∧ M1 99 1 = M 99 1 ∧ M1 99 2 = M 99 2 ∧ M1 99 3 = M 99 3 ∧ M1 100 0 = M 100 0 ∧ M1 100 1 = M 100 1 ∧ M1 100 2 = M 100 2 ∧ M1 100 3 = M 100 3 ∧ M1 100 49 = M 100 49 ∧ M1 100 50 = M 100 50 ∧ M1 100 51 = M 100 51 ∧ M1 100 52 = M 100 52 ∧ M1 103 0 = M 103 0 ∧ M1 103 1 = M 103 1 ∧ M1 97 12 = M 97 12 ∧ M1 97 17 = M 97 17 ∧ M1 97 33 = M 97 33 ∧ M1 97 10 = M 97 10 ∧ M1 97 44 = M 97 44 ∧ M1 97 1 = M 97 1 ∧ (inI r))) := by
  refine Con.ofG rfl (Nat.le_of_ble_eq_true rfl) ?_
  show G X 12 RX10 cX10_rounds 5 (some .int) (Qi (fun r M1 => IM M1 ∧ Fr (fun c => c = 97) M M1 ∧ M1 99 0 = M 99 0 ∧ M1 99 1 = M 99 1 ∧ M1 99 2 = M 99 2 ∧ M1 99 3 = M 99 3 ∧ M1 100 0 = M 100 0 ∧ M1 100 1 = M 100 1 ∧ M1 100 2 = M 100 2 ∧ M1 100 3 = M 100 3 ∧ M1 100 49 = M 100 49 ∧ M1 100 50 = M 100 50 ∧ M1 100 51 = M 100 51 ∧ M1 100 52 = M 100 52 ∧ M1 103 0 = M 103 0 ∧ M1 103 1 = M 103 1 ∧ M1 97 12 = M 97 12 ∧ M1 97 17 = M 97 17 ∧ M1 97 33 = M 97 33 ∧ M1 97 10 = M 97 10 ∧ M1 97 44 = M 97 44 ∧ M1 97 1 = M 97 1 ∧ (inI r))) 0 [(0, vr X 97), (1, vi a), (2, vi b), (3, vi c)] [] M
  have p0 := hi.1.1
  have p1 := hi.1.2.1
  have p2 := hi.1.2.2.1
  have p3 := hi.1.2.2.2.1
  have p12 := hi.2.2.2.1
  refine g_aload_n (pc' := 1) 0 dX10_rounds_0 rfl rfl ?_
  refine g_iconst (pc' := 2) dX10_rounds_1 rfl ?_
  refine g_putI (pc' := 5) dX10_rounds_2 rfl p_X10_77 rfl rfl (by decide) (fun M1 hM1 => ?_)
  have iM1 : IM M1 := IM.wr hi hM1 (by unfold okv; first | decide | omega)
  have fM1 : Fr (fun c => c = 97) M M1 := Fr.wr Fr.rf hM1 (by first | decide | omega | (dsimp only; omega))
  have q99_0_M1 : (M1 99 0 = M 99 0) := (show M1 99 0 = M 99 0 by rw [hM1]; exact mu_ne _ _ (by first | decide | omega))
  have q99_1_M1 : (M1 99 1 = M 99 1) := (show M1 99 1 = M 99 1 by rw [hM1]; exact mu_ne _ _ (by first | decide | omega))
  have q99_2_M1 : (M1 99 2 = M 99 2) := (show M1 99 2 = M 99 2 by rw [hM1]; exact mu_ne _ _ (by first | decide | omega))
  have q99_3_M1 : (M1 99 3 = M 99 3) := (show M1 99 3 = M 99 3 by rw [hM1]; exact mu_ne _ _ (by first | decide | omega))
  have q100_0_M1 : id (M1 100 0 = M 100 0) := (show M1 100 0 = M 100 0 by rw [hM1]; exact mu_ne _ _ (by first | decide | omega))
  have q100_1_M1 : id (M1 100 1 = M 100 1) := (show M1 100 1 = M 100 1 by rw [hM1]; exact mu_ne _ _ (by first | decide | omega))
  have q100_2_M1 : id (M1 100 2 = M 100 2) := (show M1 100 2 = M 100 2 by rw [hM1]; exact mu_ne _ _ (by first | decide | omega))
  have q100_3_M1 : id (M1 100 3 = M 100 3) := (show M1 100 3 = M 100 3 by rw [hM1]; exact mu_ne _ _ (by first | decide | omega))
  have q100_49_M1 : id (M1 100 49 = M 100 49) := (show M1 100 49 = M 100 49 by rw [hM1]; exact mu_ne _ _ (by first | decide | omega))
  have q100_50_M1 : id (M1 100 50 = M 100 50) := (show M1 100 50 = M 100 50 by rw [hM1]; exact mu_ne _ _ (by first | decide | omega))
  have q100_51_M1 : id (M1 100 51 = M 100 51) := (show M1 100 51 = M 100 51 by rw [hM1]; exact mu_ne _ _ (by first | decide | omega))
  have q100_52_M1 : id (M1 100 52 = M 100 52) := (show M1 100 52 = M 100 52 by rw [hM1]; exact mu_ne _ _ (by first | decide | omega))
  have q103_0_M1 : id (M1 103 0 = M 103 0) := (show M1 103 0 = M 103 0 by rw [hM1]; exact mu_ne _ _ (by first | decide | omega))
  have q103_1_M1 : id (M1 103 1 = M 103 1) := (show M1 103 1 = M 103 1 by rw [hM1]; exact mu_ne _ _ (by first | decide | omega))
  have q97_12_M1 : (M1 97 12 = M 97 12) := (show M1 97 12 = M 97 12 by rw [hM1]; exact mu_ne _ _ (by first | decide | omega))
  have q97_17_M1 : (M1 97 17 = M 97 17) := (show M1 97 17 = M 97 17 by rw [hM1]; exact mu_ne _ _ (by first | decide | omega))
  have q97_33_M1 : (M1 97 33 = M 97 33) := (show M1 97 33 = M 97 33 by rw [hM1]; exact mu_ne _ _ (by first | decide | omega))
  have q97_10_M1 : (M1 97 10 = M 97 10) := (show M1 97 10 = M 97 10 by rw [hM1]; exact mu_ne _ _ (by first | decide | omega))
  have q97_44_M1 : (M1 97 44 = M 97 44) := (show M1 97 44 = M 97 44 by rw [hM1]; exact mu_ne _ _ (by first | decide | omega))
  have q97_1_M1 : (M1 97 1 = M 97 1) := (show M1 97 1 = M 97 1 by rw [hM1]; exact mu_ne _ _ (by first | decide | omega))
  have xM1_97_0 : M1 97 0 = 0 := by rw [hM1]; exact mu_at _ _ _ _
  refine g_iload_n (pc' := 6) 1 dX10_rounds_5 rfl rfl ?_
  refine g_iload_n (pc' := 7) 2 dX10_rounds_6 rfl rfl ?_
  refine g_callSip (pc' := 10) (As := [vi a, vi b]) (S := []) dX10_rounds_7 rfl m_X10_331 w_X10_areBoth (c_X10_areBoth X M1 a ha b hb) rfl (by decide) (by decide) rfl (Nat.le_of_ble_eq_true rfl) (fun z3 q2 => ?_)
  refine g_if_eq (pc' := 13) (tgt := 25) ⟨by omega, by omega⟩ dX10_rounds_10 rfl rfl (fun c4 => ?_) (fun c4 => ?_)
  · replace q2 := q2.resolve_left (fun h => absurd (c4.symm.trans h.1) (by decide))
    refine g_iconst (pc' := 26) dX10_rounds_25 rfl ?_
    refine g_ireturn dX10_rounds_26 ?_
    exact ⟨iM1, fM1, q99_0_M1, q99_1_M1, q99_2_M1, q99_3_M1, q100_0_M1, q100_1_M1, q100_2_M1, q100_3_M1, q100_49_M1, q100_50_M1, q100_51_M1, q100_52_M1, q103_0_M1, q103_1_M1, q97_12_M1, q97_17_M1, q97_33_M1, q97_10_M1, q97_44_M1, q97_1_M1, by first | assumption | decide | omega⟩
  · replace q2 := q2.resolve_right (fun h => c4 h.1)
    refine g_iload_n (pc' := 14) 3 dX10_rounds_13 rfl rfl ?_
    refine g_i2l (pc' := 15) hc dX10_rounds_14 rfl ?_
    refine g_lconst (pc' := 16) (v := 0) dX10_rounds_15 rfl (by decide) ?_
    refine g_ldc2 (pc' := 19) (v := 100) dX10_rounds_16 rfl k_X10_110 ?_
    refine g_callSip (pc' := 22) (As := [vl c, vl 0, vl 100]) (S := []) dX10_rounds_19 rfl m_X10_83 w_X10_in (c_X10_in X M1 c ⟨by omega, by omega⟩ 0 (by decide) 100 (by decide)) rfl (by decide) (by decide) rfl (Nat.le_of_ble_eq_true rfl) (fun z6 q5 => ?_)
    refine g_if_ne (pc' := 25) (tgt := 27) ⟨by omega, by omega⟩ dX10_rounds_22 rfl rfl (fun c7 => ?_) (fun c7 => ?_)
    · replace q5 := q5.resolve_right (fun h => c7 h.1)
      refine g_iconst (pc' := 28) dX10_rounds_27 rfl ?_
      refine g_istore (pc' := 30) (L' := [(4, vi 0), (0, vr X 97), (1, vi a), (2, vi b), (3, vi c)]) dX10_rounds_28 rfl (by decide) rfl ?_
      refine g_sub [0, 1, 2, 3, 4] rfl ?_
      exact l_X10_rounds_30 X M hi a ha b hb c hc _ 0 M1 iM1 fM1 q99_0_M1 q99_1_M1 q99_2_M1 q99_3_M1 q100_0_M1 q100_1_M1 q100_2_M1 q100_3_M1 q100_49_M1 q100_50_M1 q100_51_M1 q100_52_M1 q103_0_M1 q103_1_M1 q97_12_M1 q97_17_M1 q97_33_M1 q97_10_M1 q97_44_M1 q97_1_M1 (by omega) (by omega) (by omega) rfl
    · replace q5 := q5.resolve_left (fun h => absurd (c7.symm.trans h.1) (by decide))
      refine g_iconst (pc' := 26) dX10_rounds_25 rfl ?_
      refine g_ireturn dX10_rounds_26 ?_
      exact ⟨iM1, fM1, q99_0_M1, q99_1_M1, q99_2_M1, q99_3_M1, q100_0_M1, q100_1_M1, q100_2_M1, q100_3_M1, q100_49_M1, q100_50_M1, q100_51_M1, q100_52_M1, q103_0_M1, q103_1_M1, q97_12_M1, q97_17_M1, q97_33_M1, q97_10_M1, q97_44_M1, q97_1_M1, by first | assumption | decide | omega⟩
set_option maxHeartbeats 4000000 in
set_option maxRecDepth 100000 in
theorem l_X10_guests_30 (X : Cx) (M : Mm) (hi : IM M) (a : Int) (ha : inI a) (b : Int) (hb : inI b) (c : Int) (hc : inI c) : ∀ (kk : Nat) (i : Int) (M1 : Mm) (ic1 : IM M1) (fr1 : Fr (fun c => c = 97) M M1) (q99_0 : (M1 99 0 = M 99 0)) (q99_1 : (M1 99 1 = M 99 1)) (q99_2 : (M1 99 2 = M 99 2)) (q99_3 : (M1 99 3 = M 99 3)) (q100_0 : id (M1 100 0 = M 100 0)) (q100_1 : id (M1 100 1 = M 100 1)) (q100_2 : id (M1 100 2 = M 100 2)) (q100_3 : id (M1 100 3 = M 100 3)) (q100_49 : id (M1 100 49 = M 100 49)) (q100_50 : id (M1 100 50 = M 100 50)) (q100_51 : id (M1 100 51 = M 100 51)) (q100_52 : id (M1 100 52 = M 100 52)) (q103_0 : id (M1 103 0 = M 103 0)) (q103_1 : id (M1 103 1 = M 103 1)) (q97_12 : (M1 97 12 = M 97 12)) (q97_17 : (M1 97 17 = M 97 17)) (q97_33 : (M1 97 33 = M 97 33)) (q97_10 : (M1 97 10 = M 97 10)) (q97_44 : (M1 97 44 = M 97 44)) (q97_1 : (M1 97 1 = M 97 1)) (h0 : 0 ≤ i) (h1 : i ≤ 7) (k1 : 1 ≤ a ∧ a ≤ 60 ∧ 0 ≤ b ∧ b ≤ a), (7 - i).toNat = kk → G X 12 RX10 cX10_guests 5 (some .int) (Qi (fun r M1 => IM M1 ∧ Fr (fun c => c = 97) M M1 ∧ M1 99 0 = M 99 0 ∧ M1 99 1 = M 99 1 ∧ M1 99 2 = M 99 2 ∧ M1 99 3 = M 99 3 ∧ M1 100 0 = M 100 0 ∧ M1 100 1 = M 100 1 ∧ M1 100 2 = M 100 2 ∧ M1 100 3 = M 100 3 ∧ M1 100 49 = M 100 49 ∧ M1 100 50 = M 100 50 ∧ M1 100 51 = M 100 51 ∧ M1 100 52 = M 100 52 ∧ M1 103 0 = M 103 0 ∧ M1 103 1 = M 103 1 ∧ M1 97 12 = M 97 12 ∧ M1 97 17 = M 97 17 ∧ M1 97 33 = M 97 33 ∧ M1 97 10 = M 97 10 ∧ M1 97 44 = M 97 44 ∧ M1 97 1 = M 97 1 ∧ (inI r))) 30 [(4, vi i), (0, vr X 97), (1, vi a), (2, vi b), (3, vi c)] [] M1 := by
  intro kk
  induction kk using Nat.strongRecOn with
  | ind kk ih =>
    intro i M1 ic1 fr1 q99_0 q99_1 q99_2 q99_3 q100_0 q100_1 q100_2 q100_3 q100_49 q100_50 q100_51 q100_52 q103_0 q103_1 q97_12 q97_17 q97_33 q97_10 q97_44 q97_1 h0 h1 k1 hmes
    have p0 := hi.1.1
    have p1 := hi.1.2.1
    have p2 := hi.1.2.2.1
    have p3 := hi.1.2.2.2.1
    have p12 := hi.2.2.2.1
    refine g_iload (pc' := 32) 0 dX10_guests_30 rfl rfl ?_
    refine g_bipush (pc' := 34) (v := 7) dX10_guests_32 rfl (by decide) ?_
    refine g_ic_ge (pc' := 37) (tgt := 73) ⟨by omega, by omega⟩ (by decide) dX10_guests_34 rfl rfl (fun c1 => ?_) (fun c1 => ?_)
    · refine g_iconst (pc' := 74) dX10_guests_73 rfl ?_
      refine g_ireturn dX10_guests_74 ?_
      exact ⟨ic1, fr1, q99_0, q99_1, q99_2, q99_3, q100_0, q100_1, q100_2, q100_3, q100_49, q100_50, q100_51, q100_52, q103_0, q103_1, q97_12, q97_17, q97_33, q97_10, q97_44, q97_1, by first | assumption | decide | omega⟩
    · refine g_ldc2 (pc' := 40) (v := 100) dX10_guests_37 rfl k_X10_110 ?_
      refine g_iload_n (pc' := 41) 2 dX10_guests_40 rfl rfl ?_
      refine g_iload_n (pc' := 42) 3 dX10_guests_41 rfl rfl ?_
      refine g_isub (pc' := 43) dX10_guests_42 rfl ?_
      refine g_i2l (pc' := 44) ⟨by omega, by omega⟩ dX10_guests_43 rfl ?_
      refine g_iload (pc' := 46) 0 dX10_guests_44 rfl rfl ?_
      refine g_callSlp (pc' := 49) (As := [vl (a - b), vi i]) (S := [vl 100]) dX10_guests_46 rfl m_X10_337 w_X10_power (c_X10_power X M1 (a - b) ⟨by omega, by omega⟩ i ⟨by omega, by omega⟩ (by omega) (by omega)) rfl (by decide) (by decide) rfl (Nat.le_of_ble_eq_true rfl) (fun z3 q2 => ?_)
      have hz3 := powR (a := a - b) (k := (i).toNat) (by omega) (by omega) (by omega)
      rw [← q2] at hz3
      refine g_lmul (pc' := 50) dX10_guests_49 rfl ?_
      refine g_nrmL (fun n4 rn4 en4 => ?_)
      refine g_iload_n (pc' := 51) 4 dX10_guests_50 rfl rfl ?_
      refine g_i2l (pc' := 52) hc dX10_guests_51 rfl ?_
      refine g_iload_n (pc' := 53) 2 dX10_guests_52 rfl rfl ?_
      refine g_i2l (pc' := 54) ha dX10_guests_53 rfl ?_
      refine g_iload (pc' := 56) 0 dX10_guests_54 rfl rfl ?_
      refine g_callSlp (pc' := 59) (As := [vl a, vi i]) (S := [vl c, vl n4]) dX10_guests_56 rfl m_X10_337 w_X10_power (c_X10_power X M1 a ⟨by omega, by omega⟩ i ⟨by omega, by omega⟩ (by omega) (by omega)) rfl (by decide) (by decide) rfl (Nat.le_of_ble_eq_true rfl) (fun z6 q5 => ?_)
      have hz6 := powR (a := a) (k := (i).toNat) (by omega) (by omega) (by omega)
      rw [← q5] at hz6
      refine g_lmul (pc' := 60) dX10_guests_59 rfl ?_
      refine g_nrmL (fun n7 rn7 en7 => ?_)
      refine g_lc_ge (pc' := 64) (tgt := 67) rn4 rn7 dX10_guests_60 dX10_guests_61 rfl rfl (fun c8 => ?_) (fun c8 => ?_)
      · refine g_iinc (pc' := 70) (L' := [(4, vi (i + 1)), (0, vr X 97), (1, vi a), (2, vi b), (3, vi c)]) 0 dX10_guests_67 rfl rfl (by decide) rfl ?_
        refine g_goto (tgt := 30) dX10_guests_70 rfl ?_
        refine g_sub [0, 1, 2, 3, 4] rfl ?_
        exact ih _ (by omega) (i + 1) M1 ic1 fr1 q99_0 q99_1 q99_2 q99_3 q100_0 q100_1 q100_2 q100_3 q100_49 q100_50 q100_51 q100_52 q103_0 q103_1 q97_12 q97_17 q97_33 q97_10 q97_44 q97_1 (by omega) (by omega) (by omega) rfl
      · refine g_iload (pc' := 66) 0 dX10_guests_64 rfl rfl ?_
        refine g_ireturn dX10_guests_66 ?_
        exact ⟨ic1, fr1, q99_0, q99_1, q99_2, q99_3, q100_0, q100_1, q100_2, q100_3, q100_49, q100_50, q100_51, q100_52, q103_0, q103_1, q97_12, q97_17, q97_33, q97_10, q97_44, q97_1, by first | assumption | decide | omega⟩
set_option maxHeartbeats 4000000 in
set_option maxRecDepth 100000 in
theorem c_X10_guests (X : Cx) (M : Mm) (hi : IM M) (a : Int) (ha : inI a) (b : Int) (hb : inI b) (c : Int) (hc : inI c) : Con X 12 yX10_guests cX10_guests 5 (some .int) [vr X 97, vi a, vi b, vi c] M (Qi (fun r M1 => IM M1 ∧ Fr (fun c => c = 97) M M1 ∧ M1 99 0 = M 99 0 ∧ M1 99 1 = M 99 1 ∧ M1 99 2 = M 99 2 ∧ M1 99 3 = M 99 3 ∧ M1 100 0 = M 100 0 ∧ M1 100 1 = M 100 1 ∧ M1 100 2 = M 100 2 ∧ M1 100 3 = M 100 3 ∧ M1 100 49 = M 100 49 ∧ M1 100 50 = M 100 50 ∧ M1 100 51 = M 100 51 ∧ M1 100 52 = M 100 52 ∧ M1 103 0 = M 103 0 ∧ M1 103 1 = M 103 1 ∧ M1 97 12 = M 97 12 ∧ M1 97 17 = M 97 17 ∧ M1 97 33 = M 97 33 ∧ M1 97 10 = M 97 10 ∧ M1 97 44 = M 97 44 ∧ M1 97 1 = M 97 1 ∧ (inI r))) := by
  refine Con.ofG rfl (Nat.le_of_ble_eq_true rfl) ?_
  show G X 12 RX10 cX10_guests 5 (some .int) (Qi (fun r M1 => IM M1 ∧ Fr (fun c => c = 97) M M1 ∧ M1 99 0 = M 99 0 ∧ M1 99 1 = M 99 1 ∧ M1 99 2 = M 99 2 ∧ M1 99 3 = M 99 3 ∧ M1 100 0 = M 100 0 ∧ M1 100 1 = M 100 1 ∧ M1 100 2 = M 100 2 ∧ M1 100 3 = M 100 3 ∧ M1 100 49 = M 100 49 ∧ M1 100 50 = M 100 50 ∧ M1 100 51 = M 100 51 ∧ M1 100 52 = M 100 52 ∧ M1 103 0 = M 103 0 ∧ M1 103 1 = M 103 1 ∧ M1 97 12 = M 97 12 ∧ M1 97 17 = M 97 17 ∧ M1 97 33 = M 97 33 ∧ M1 97 10 = M 97 10 ∧ M1 97 44 = M 97 44 ∧ M1 97 1 = M 97 1 ∧ (inI r))) 0 [(0, vr X 97), (1, vi a), (2, vi b), (3, vi c)] [] M
  have p0 := hi.1.1
  have p1 := hi.1.2.1
  have p2 := hi.1.2.2.1
  have p3 := hi.1.2.2.2.1
  have p12 := hi.2.2.2.1
  refine g_aload_n (pc' := 1) 0 dX10_guests_0 rfl rfl ?_
  refine g_iconst (pc' := 2) dX10_guests_1 rfl ?_
  refine g_putI (pc' := 5) dX10_guests_2 rfl p_X10_77 rfl rfl (by decide) (fun M1 hM1 => ?_)
  have iM1 : IM M1 := IM.wr hi hM1 (by unfold okv; first | decide | omega)
  have fM1 : Fr (fun c => c = 97) M M1 := Fr.wr Fr.rf hM1 (by first | decide | omega | (dsimp only; omega))
  have q99_0_M1 : (M1 99 0 = M 99 0) := (show M1 99 0 = M 99 0 by rw [hM1]; exact mu_ne _ _ (by first | decide | omega))
  have q99_1_M1 : (M1 99 1 = M 99 1) := (show M1 99 1 = M 99 1 by rw [hM1]; exact mu_ne _ _ (by first | decide | omega))
  have q99_2_M1 : (M1 99 2 = M 99 2) := (show M1 99 2 = M 99 2 by rw [hM1]; exact mu_ne _ _ (by first | decide | omega))
  have q99_3_M1 : (M1 99 3 = M 99 3) := (show M1 99 3 = M 99 3 by rw [hM1]; exact mu_ne _ _ (by first | decide | omega))
  have q100_0_M1 : id (M1 100 0 = M 100 0) := (show M1 100 0 = M 100 0 by rw [hM1]; exact mu_ne _ _ (by first | decide | omega))
  have q100_1_M1 : id (M1 100 1 = M 100 1) := (show M1 100 1 = M 100 1 by rw [hM1]; exact mu_ne _ _ (by first | decide | omega))
  have q100_2_M1 : id (M1 100 2 = M 100 2) := (show M1 100 2 = M 100 2 by rw [hM1]; exact mu_ne _ _ (by first | decide | omega))
  have q100_3_M1 : id (M1 100 3 = M 100 3) := (show M1 100 3 = M 100 3 by rw [hM1]; exact mu_ne _ _ (by first | decide | omega))
  have q100_49_M1 : id (M1 100 49 = M 100 49) := (show M1 100 49 = M 100 49 by rw [hM1]; exact mu_ne _ _ (by first | decide | omega))
  have q100_50_M1 : id (M1 100 50 = M 100 50) := (show M1 100 50 = M 100 50 by rw [hM1]; exact mu_ne _ _ (by first | decide | omega))
  have q100_51_M1 : id (M1 100 51 = M 100 51) := (show M1 100 51 = M 100 51 by rw [hM1]; exact mu_ne _ _ (by first | decide | omega))
  have q100_52_M1 : id (M1 100 52 = M 100 52) := (show M1 100 52 = M 100 52 by rw [hM1]; exact mu_ne _ _ (by first | decide | omega))
  have q103_0_M1 : id (M1 103 0 = M 103 0) := (show M1 103 0 = M 103 0 by rw [hM1]; exact mu_ne _ _ (by first | decide | omega))
  have q103_1_M1 : id (M1 103 1 = M 103 1) := (show M1 103 1 = M 103 1 by rw [hM1]; exact mu_ne _ _ (by first | decide | omega))
  have q97_12_M1 : (M1 97 12 = M 97 12) := (show M1 97 12 = M 97 12 by rw [hM1]; exact mu_ne _ _ (by first | decide | omega))
  have q97_17_M1 : (M1 97 17 = M 97 17) := (show M1 97 17 = M 97 17 by rw [hM1]; exact mu_ne _ _ (by first | decide | omega))
  have q97_33_M1 : (M1 97 33 = M 97 33) := (show M1 97 33 = M 97 33 by rw [hM1]; exact mu_ne _ _ (by first | decide | omega))
  have q97_10_M1 : (M1 97 10 = M 97 10) := (show M1 97 10 = M 97 10 by rw [hM1]; exact mu_ne _ _ (by first | decide | omega))
  have q97_44_M1 : (M1 97 44 = M 97 44) := (show M1 97 44 = M 97 44 by rw [hM1]; exact mu_ne _ _ (by first | decide | omega))
  have q97_1_M1 : (M1 97 1 = M 97 1) := (show M1 97 1 = M 97 1 by rw [hM1]; exact mu_ne _ _ (by first | decide | omega))
  have xM1_97_0 : M1 97 0 = 0 := by rw [hM1]; exact mu_at _ _ _ _
  refine g_iload_n (pc' := 6) 1 dX10_guests_5 rfl rfl ?_
  refine g_iload_n (pc' := 7) 2 dX10_guests_6 rfl rfl ?_
  refine g_callSip (pc' := 10) (As := [vi a, vi b]) (S := []) dX10_guests_7 rfl m_X10_377 w_X10_isCask (c_X10_isCask X M1 a ha b hb) rfl (by decide) (by decide) rfl (Nat.le_of_ble_eq_true rfl) (fun z3 q2 => ?_)
  refine g_if_eq (pc' := 13) (tgt := 25) ⟨by omega, by omega⟩ dX10_guests_10 rfl rfl (fun c4 => ?_) (fun c4 => ?_)
  · replace q2 := q2.resolve_left (fun h => absurd (c4.symm.trans h.1) (by decide))
    refine g_iconst (pc' := 26) dX10_guests_25 rfl ?_
    refine g_ireturn dX10_guests_26 ?_
    exact ⟨iM1, fM1, q99_0_M1, q99_1_M1, q99_2_M1, q99_3_M1, q100_0_M1, q100_1_M1, q100_2_M1, q100_3_M1, q100_49_M1, q100_50_M1, q100_51_M1, q100_52_M1, q103_0_M1, q103_1_M1, q97_12_M1, q97_17_M1, q97_33_M1, q97_10_M1, q97_44_M1, q97_1_M1, by first | assumption | decide | omega⟩
  · replace q2 := q2.resolve_right (fun h => c4 h.1)
    refine g_iload_n (pc' := 14) 3 dX10_guests_13 rfl rfl ?_
    refine g_i2l (pc' := 15) hc dX10_guests_14 rfl ?_
    refine g_lconst (pc' := 16) (v := 0) dX10_guests_15 rfl (by decide) ?_
    refine g_ldc2 (pc' := 19) (v := 100) dX10_guests_16 rfl k_X10_110 ?_
    refine g_callSip (pc' := 22) (As := [vl c, vl 0, vl 100]) (S := []) dX10_guests_19 rfl m_X10_83 w_X10_in (c_X10_in X M1 c ⟨by omega, by omega⟩ 0 (by decide) 100 (by decide)) rfl (by decide) (by decide) rfl (Nat.le_of_ble_eq_true rfl) (fun z6 q5 => ?_)
    refine g_if_ne (pc' := 25) (tgt := 27) ⟨by omega, by omega⟩ dX10_guests_22 rfl rfl (fun c7 => ?_) (fun c7 => ?_)
    · replace q5 := q5.resolve_right (fun h => c7 h.1)
      refine g_iconst (pc' := 28) dX10_guests_27 rfl ?_
      refine g_istore (pc' := 30) (L' := [(4, vi 0), (0, vr X 97), (1, vi a), (2, vi b), (3, vi c)]) dX10_guests_28 rfl (by decide) rfl ?_
      refine g_sub [0, 1, 2, 3, 4] rfl ?_
      exact l_X10_guests_30 X M hi a ha b hb c hc _ 0 M1 iM1 fM1 q99_0_M1 q99_1_M1 q99_2_M1 q99_3_M1 q100_0_M1 q100_1_M1 q100_2_M1 q100_3_M1 q100_49_M1 q100_50_M1 q100_51_M1 q100_52_M1 q103_0_M1 q103_1_M1 q97_12_M1 q97_17_M1 q97_33_M1 q97_10_M1 q97_44_M1 q97_1_M1 (by omega) (by omega) (by omega) rfl
    · replace q5 := q5.resolve_left (fun h => absurd (c7.symm.trans h.1) (by decide))
      refine g_iconst (pc' := 26) dX10_guests_25 rfl ?_
      refine g_ireturn dX10_guests_26 ?_
      exact ⟨iM1, fM1, q99_0_M1, q99_1_M1, q99_2_M1, q99_3_M1, q100_0_M1, q100_1_M1, q100_2_M1, q100_3_M1, q100_49_M1, q100_50_M1, q100_51_M1, q100_52_M1, q103_0_M1, q103_1_M1, q97_12_M1, q97_17_M1, q97_33_M1, q97_10_M1, q97_44_M1, q97_1_M1, by first | assumption | decide | omega⟩
set_option maxHeartbeats 4000000 in
set_option maxRecDepth 100000 in
theorem c_X10_cards (X : Cx) (M : Mm) (hi : IM M) (a : Int) (ha : inI a) (b : Int) (hb : inI b) (c : Int) (hc : inI c) (j : Int) (hj : inI j) (e : Int) (he : inI e) : Con X 12 yX10_cards cX10_cards 6 (some .long) [vr X 97, vi a, vi b, vi c, vi j, vi e] M (Ql (fun r M1 => IM M1 ∧ Fr (fun c => c = 97) M M1 ∧ M1 99 0 = M 99 0 ∧ M1 99 1 = M 99 1 ∧ M1 99 2 = M 99 2 ∧ M1 99 3 = M 99 3 ∧ M1 100 0 = M 100 0 ∧ M1 100 1 = M 100 1 ∧ M1 100 2 = M 100 2 ∧ M1 100 3 = M 100 3 ∧ M1 100 49 = M 100 49 ∧ M1 100 50 = M 100 50 ∧ M1 100 51 = M 100 51 ∧ M1 100 52 = M 100 52 ∧ M1 103 0 = M 103 0 ∧ M1 103 1 = M 103 1 ∧ M1 97 12 = M 97 12 ∧ M1 97 17 = M 97 17 ∧ M1 97 33 = M 97 33 ∧ M1 97 10 = M 97 10 ∧ M1 97 44 = M 97 44 ∧ M1 97 1 = M 97 1 ∧ (inL r))) := by
  refine Con.ofG rfl (Nat.le_of_ble_eq_true rfl) ?_
  show G X 12 RX10 cX10_cards 6 (some .long) (Ql (fun r M1 => IM M1 ∧ Fr (fun c => c = 97) M M1 ∧ M1 99 0 = M 99 0 ∧ M1 99 1 = M 99 1 ∧ M1 99 2 = M 99 2 ∧ M1 99 3 = M 99 3 ∧ M1 100 0 = M 100 0 ∧ M1 100 1 = M 100 1 ∧ M1 100 2 = M 100 2 ∧ M1 100 3 = M 100 3 ∧ M1 100 49 = M 100 49 ∧ M1 100 50 = M 100 50 ∧ M1 100 51 = M 100 51 ∧ M1 100 52 = M 100 52 ∧ M1 103 0 = M 103 0 ∧ M1 103 1 = M 103 1 ∧ M1 97 12 = M 97 12 ∧ M1 97 17 = M 97 17 ∧ M1 97 33 = M 97 33 ∧ M1 97 10 = M 97 10 ∧ M1 97 44 = M 97 44 ∧ M1 97 1 = M 97 1 ∧ (inL r))) 0 [(0, vr X 97), (1, vi a), (2, vi b), (3, vi c), (4, vi j), (5, vi e)] [] M
  have p0 := hi.1.1
  have p1 := hi.1.2.1
  have p2 := hi.1.2.2.1
  have p3 := hi.1.2.2.2.1
  have p12 := hi.2.2.2.1
  refine g_aload_n (pc' := 1) 0 dX10_cards_0 rfl rfl ?_
  refine g_iconst (pc' := 2) dX10_cards_1 rfl ?_
  refine g_putI (pc' := 5) dX10_cards_2 rfl p_X10_77 rfl rfl (by decide) (fun M1 hM1 => ?_)
  have iM1 : IM M1 := IM.wr hi hM1 (by unfold okv; first | decide | omega)
  have fM1 : Fr (fun c => c = 97) M M1 := Fr.wr Fr.rf hM1 (by first | decide | omega | (dsimp only; omega))
  have q99_0_M1 : (M1 99 0 = M 99 0) := (show M1 99 0 = M 99 0 by rw [hM1]; exact mu_ne _ _ (by first | decide | omega))
  have q99_1_M1 : (M1 99 1 = M 99 1) := (show M1 99 1 = M 99 1 by rw [hM1]; exact mu_ne _ _ (by first | decide | omega))
  have q99_2_M1 : (M1 99 2 = M 99 2) := (show M1 99 2 = M 99 2 by rw [hM1]; exact mu_ne _ _ (by first | decide | omega))
  have q99_3_M1 : (M1 99 3 = M 99 3) := (show M1 99 3 = M 99 3 by rw [hM1]; exact mu_ne _ _ (by first | decide | omega))
  have q100_0_M1 : id (M1 100 0 = M 100 0) := (show M1 100 0 = M 100 0 by rw [hM1]; exact mu_ne _ _ (by first | decide | omega))
  have q100_1_M1 : id (M1 100 1 = M 100 1) := (show M1 100 1 = M 100 1 by rw [hM1]; exact mu_ne _ _ (by first | decide | omega))
  have q100_2_M1 : id (M1 100 2 = M 100 2) := (show M1 100 2 = M 100 2 by rw [hM1]; exact mu_ne _ _ (by first | decide | omega))
  have q100_3_M1 : id (M1 100 3 = M 100 3) := (show M1 100 3 = M 100 3 by rw [hM1]; exact mu_ne _ _ (by first | decide | omega))
  have q100_49_M1 : id (M1 100 49 = M 100 49) := (show M1 100 49 = M 100 49 by rw [hM1]; exact mu_ne _ _ (by first | decide | omega))
  have q100_50_M1 : id (M1 100 50 = M 100 50) := (show M1 100 50 = M 100 50 by rw [hM1]; exact mu_ne _ _ (by first | decide | omega))
  have q100_51_M1 : id (M1 100 51 = M 100 51) := (show M1 100 51 = M 100 51 by rw [hM1]; exact mu_ne _ _ (by first | decide | omega))
  have q100_52_M1 : id (M1 100 52 = M 100 52) := (show M1 100 52 = M 100 52 by rw [hM1]; exact mu_ne _ _ (by first | decide | omega))
  have q103_0_M1 : id (M1 103 0 = M 103 0) := (show M1 103 0 = M 103 0 by rw [hM1]; exact mu_ne _ _ (by first | decide | omega))
  have q103_1_M1 : id (M1 103 1 = M 103 1) := (show M1 103 1 = M 103 1 by rw [hM1]; exact mu_ne _ _ (by first | decide | omega))
  have q97_12_M1 : (M1 97 12 = M 97 12) := (show M1 97 12 = M 97 12 by rw [hM1]; exact mu_ne _ _ (by first | decide | omega))
  have q97_17_M1 : (M1 97 17 = M 97 17) := (show M1 97 17 = M 97 17 by rw [hM1]; exact mu_ne _ _ (by first | decide | omega))
  have q97_33_M1 : (M1 97 33 = M 97 33) := (show M1 97 33 = M 97 33 by rw [hM1]; exact mu_ne _ _ (by first | decide | omega))
  have q97_10_M1 : (M1 97 10 = M 97 10) := (show M1 97 10 = M 97 10 by rw [hM1]; exact mu_ne _ _ (by first | decide | omega))
  have q97_44_M1 : (M1 97 44 = M 97 44) := (show M1 97 44 = M 97 44 by rw [hM1]; exact mu_ne _ _ (by first | decide | omega))
  have q97_1_M1 : (M1 97 1 = M 97 1) := (show M1 97 1 = M 97 1 by rw [hM1]; exact mu_ne _ _ (by first | decide | omega))
  have xM1_97_0 : M1 97 0 = 0 := by rw [hM1]; exact mu_at _ _ _ _
  refine g_iload_n (pc' := 6) 1 dX10_cards_5 rfl rfl ?_
  refine g_i2l (pc' := 7) ha dX10_cards_6 rfl ?_
  refine g_lconst (pc' := 8) (v := 0) dX10_cards_7 rfl (by decide) ?_
  refine g_ldc2 (pc' := 11) (v := 20) dX10_cards_8 rfl k_X10_204 ?_
  refine g_callSip (pc' := 14) (As := [vl a, vl 0, vl 20]) (S := []) dX10_cards_11 rfl m_X10_83 w_X10_in (c_X10_in X M1 a ⟨by omega, by omega⟩ 0 (by decide) 20 (by decide)) rfl (by decide) (by decide) rfl (Nat.le_of_ble_eq_true rfl) (fun z3 q2 => ?_)
  refine g_if_eq (pc' := 17) (tgt := 63) ⟨by omega, by omega⟩ dX10_cards_14 rfl rfl (fun c4 => ?_) (fun c4 => ?_)
  · replace q2 := q2.resolve_left (fun h => absurd (c4.symm.trans h.1) (by decide))
    refine g_ldc2 (pc' := 66) (v := (-1)) dX10_cards_63 rfl k_X10_108 ?_
    refine g_lreturn dX10_cards_66 ?_
    exact ⟨iM1, fM1, q99_0_M1, q99_1_M1, q99_2_M1, q99_3_M1, q100_0_M1, q100_1_M1, q100_2_M1, q100_3_M1, q100_49_M1, q100_50_M1, q100_51_M1, q100_52_M1, q103_0_M1, q103_1_M1, q97_12_M1, q97_17_M1, q97_33_M1, q97_10_M1, q97_44_M1, q97_1_M1, by first | assumption | decide | omega⟩
  · replace q2 := q2.resolve_right (fun h => c4 h.1)
    refine g_iload_n (pc' := 18) 2 dX10_cards_17 rfl rfl ?_
    refine g_i2l (pc' := 19) hb dX10_cards_18 rfl ?_
    refine g_lconst (pc' := 20) (v := 0) dX10_cards_19 rfl (by decide) ?_
    refine g_ldc2 (pc' := 23) (v := 20) dX10_cards_20 rfl k_X10_204 ?_
    refine g_callSip (pc' := 26) (As := [vl b, vl 0, vl 20]) (S := []) dX10_cards_23 rfl m_X10_83 w_X10_in (c_X10_in X M1 b ⟨by omega, by omega⟩ 0 (by decide) 20 (by decide)) rfl (by decide) (by decide) rfl (Nat.le_of_ble_eq_true rfl) (fun z6 q5 => ?_)
    refine g_if_eq (pc' := 29) (tgt := 63) ⟨by omega, by omega⟩ dX10_cards_26 rfl rfl (fun c7 => ?_) (fun c7 => ?_)
    · replace q5 := q5.resolve_left (fun h => absurd (c7.symm.trans h.1) (by decide))
      refine g_ldc2 (pc' := 66) (v := (-1)) dX10_cards_63 rfl k_X10_108 ?_
      refine g_lreturn dX10_cards_66 ?_
      exact ⟨iM1, fM1, q99_0_M1, q99_1_M1, q99_2_M1, q99_3_M1, q100_0_M1, q100_1_M1, q100_2_M1, q100_3_M1, q100_49_M1, q100_50_M1, q100_51_M1, q100_52_M1, q103_0_M1, q103_1_M1, q97_12_M1, q97_17_M1, q97_33_M1, q97_10_M1, q97_44_M1, q97_1_M1, by first | assumption | decide | omega⟩
    · replace q5 := q5.resolve_right (fun h => c7 h.1)
      refine g_iload_n (pc' := 30) 3 dX10_cards_29 rfl rfl ?_
      refine g_i2l (pc' := 31) hc dX10_cards_30 rfl ?_
      refine g_lconst (pc' := 32) (v := 0) dX10_cards_31 rfl (by decide) ?_
      refine g_iload_n (pc' := 33) 1 dX10_cards_32 rfl rfl ?_
      refine g_i2l (pc' := 34) ha dX10_cards_33 rfl ?_
      refine g_callSip (pc' := 37) (As := [vl c, vl 0, vl a]) (S := []) dX10_cards_34 rfl m_X10_83 w_X10_in (c_X10_in X M1 c ⟨by omega, by omega⟩ 0 (by decide) a ⟨by omega, by omega⟩) rfl (by decide) (by decide) rfl (Nat.le_of_ble_eq_true rfl) (fun z9 q8 => ?_)
      refine g_if_eq (pc' := 40) (tgt := 63) ⟨by omega, by omega⟩ dX10_cards_37 rfl rfl (fun c10 => ?_) (fun c10 => ?_)
      · replace q8 := q8.resolve_left (fun h => absurd (c10.symm.trans h.1) (by decide))
        refine g_ldc2 (pc' := 66) (v := (-1)) dX10_cards_63 rfl k_X10_108 ?_
        refine g_lreturn dX10_cards_66 ?_
        exact ⟨iM1, fM1, q99_0_M1, q99_1_M1, q99_2_M1, q99_3_M1, q100_0_M1, q100_1_M1, q100_2_M1, q100_3_M1, q100_49_M1, q100_50_M1, q100_51_M1, q100_52_M1, q103_0_M1, q103_1_M1, q97_12_M1, q97_17_M1, q97_33_M1, q97_10_M1, q97_44_M1, q97_1_M1, by first | assumption | decide | omega⟩
      · replace q8 := q8.resolve_right (fun h => c10 h.1)
        refine g_iload (pc' := 42) 4 dX10_cards_40 rfl rfl ?_
        refine g_i2l (pc' := 43) hj dX10_cards_42 rfl ?_
        refine g_lconst (pc' := 44) (v := 0) dX10_cards_43 rfl (by decide) ?_
        refine g_iload_n (pc' := 45) 3 dX10_cards_44 rfl rfl ?_
        refine g_i2l (pc' := 46) hc dX10_cards_45 rfl ?_
        refine g_callSip (pc' := 49) (As := [vl j, vl 0, vl c]) (S := []) dX10_cards_46 rfl m_X10_83 w_X10_in (c_X10_in X M1 j ⟨by omega, by omega⟩ 0 (by decide) c ⟨by omega, by omega⟩) rfl (by decide) (by decide) rfl (Nat.le_of_ble_eq_true rfl) (fun z12 q11 => ?_)
        refine g_if_eq (pc' := 52) (tgt := 63) ⟨by omega, by omega⟩ dX10_cards_49 rfl rfl (fun c13 => ?_) (fun c13 => ?_)
        · replace q11 := q11.resolve_left (fun h => absurd (c13.symm.trans h.1) (by decide))
          refine g_ldc2 (pc' := 66) (v := (-1)) dX10_cards_63 rfl k_X10_108 ?_
          refine g_lreturn dX10_cards_66 ?_
          exact ⟨iM1, fM1, q99_0_M1, q99_1_M1, q99_2_M1, q99_3_M1, q100_0_M1, q100_1_M1, q100_2_M1, q100_3_M1, q100_49_M1, q100_50_M1, q100_51_M1, q100_52_M1, q103_0_M1, q103_1_M1, q97_12_M1, q97_17_M1, q97_33_M1, q97_10_M1, q97_44_M1, q97_1_M1, by first | assumption | decide | omega⟩
        · replace q11 := q11.resolve_right (fun h => c13 h.1)
          refine g_iload (pc' := 54) 5 dX10_cards_52 rfl rfl ?_
          refine g_i2l (pc' := 55) he dX10_cards_54 rfl ?_
          refine g_lconst (pc' := 56) (v := 0) dX10_cards_55 rfl (by decide) ?_
          refine g_lconst (pc' := 57) (v := 1) dX10_cards_56 rfl (by decide) ?_
          refine g_callSip (pc' := 60) (As := [vl e, vl 0, vl 1]) (S := []) dX10_cards_57 rfl m_X10_83 w_X10_in (c_X10_in X M1 e ⟨by omega, by omega⟩ 0 (by decide) 1 (by decide)) rfl (by decide) (by decide) rfl (Nat.le_of_ble_eq_true rfl) (fun z15 q14 => ?_)
          refine g_if_ne (pc' := 63) (tgt := 67) ⟨by omega, by omega⟩ dX10_cards_60 rfl rfl (fun c16 => ?_) (fun c16 => ?_)
          · replace q14 := q14.resolve_right (fun h => c16 h.1)
            refine g_iload_n (pc' := 68) 1 dX10_cards_67 rfl rfl ?_
            refine g_iload_n (pc' := 69) 3 dX10_cards_68 rfl rfl ?_
            refine g_callSlp (pc' := 72) (As := [vi a, vi c]) (S := []) dX10_cards_69 rfl m_X10_396 w_X10_choose (c_X10_choose X M1 a ha c hc (by omega) (by omega)) rfl (by decide) (by decide) rfl (Nat.le_of_ble_eq_true rfl) (fun z18 q17 => ?_)
            refine g_iload (pc' := 74) 5 dX10_cards_72 rfl rfl ?_
            refine g_iconst (pc' := 75) dX10_cards_74 rfl ?_
            refine g_ic_ne (pc' := 78) (tgt := 88) he (by decide) dX10_cards_75 rfl rfl (fun c19 => ?_) (fun c19 => ?_)
            · refine g_iload_n (pc' := 89) 3 dX10_cards_88 rfl rfl ?_
              refine g_iload (pc' := 91) 4 dX10_cards_89 rfl rfl ?_
              refine g_callSlp (pc' := 94) (As := [vi c, vi j]) (S := [vl z18]) dX10_cards_91 rfl m_X10_396 w_X10_choose (c_X10_choose X M1 c hc j hj (by omega) (by omega)) rfl (by decide) (by decide) rfl (Nat.le_of_ble_eq_true rfl) (fun z21 q20 => ?_)
              refine g_iload_n (pc' := 95) 2 dX10_cards_94 rfl rfl ?_
              refine g_iload (pc' := 97) 4 dX10_cards_95 rfl rfl ?_
              refine g_callSlp (pc' := 100) (As := [vi b, vi j]) (S := [vl z21, vl z18]) dX10_cards_97 rfl m_X10_396 w_X10_choose (c_X10_choose X M1 b hb j hj (by omega) (by omega)) rfl (by decide) (by decide) rfl (Nat.le_of_ble_eq_true rfl) (fun z23 q22 => ?_)
              refine g_lmul (pc' := 101) dX10_cards_100 rfl ?_
              refine g_nrmL (fun n24 rn24 en24 => ?_)
              refine g_lmul (pc' := 102) dX10_cards_101 rfl ?_
              refine g_nrmL (fun n25 rn25 en25 => ?_)
              refine g_lreturn dX10_cards_102 ?_
              exact ⟨iM1, fM1, q99_0_M1, q99_1_M1, q99_2_M1, q99_3_M1, q100_0_M1, q100_1_M1, q100_2_M1, q100_3_M1, q100_49_M1, q100_50_M1, q100_51_M1, q100_52_M1, q103_0_M1, q103_1_M1, q97_12_M1, q97_17_M1, q97_33_M1, q97_10_M1, q97_44_M1, q97_1_M1, by first | assumption | decide | omega⟩
            · refine g_iload_n (pc' := 79) 2 dX10_cards_78 rfl rfl ?_
              refine g_iload_n (pc' := 80) 3 dX10_cards_79 rfl rfl ?_
              refine g_iadd (pc' := 81) dX10_cards_80 rfl ?_
              refine g_iload_n (pc' := 82) 3 dX10_cards_81 rfl rfl ?_
              refine g_callSlp (pc' := 85) (As := [vi (b + c), vi c]) (S := [vl z18]) dX10_cards_82 rfl m_X10_396 w_X10_choose (c_X10_choose X M1 (b + c) ⟨by omega, by omega⟩ c hc (by omega) (by omega)) rfl (by decide) (by decide) rfl (Nat.le_of_ble_eq_true rfl) (fun z27 q26 => ?_)
              refine g_goto (tgt := 101) dX10_cards_85 rfl ?_
              refine g_lmul (pc' := 102) dX10_cards_101 rfl ?_
              refine g_nrmL (fun n28 rn28 en28 => ?_)
              refine g_lreturn dX10_cards_102 ?_
              exact ⟨iM1, fM1, q99_0_M1, q99_1_M1, q99_2_M1, q99_3_M1, q100_0_M1, q100_1_M1, q100_2_M1, q100_3_M1, q100_49_M1, q100_50_M1, q100_51_M1, q100_52_M1, q103_0_M1, q103_1_M1, q97_12_M1, q97_17_M1, q97_33_M1, q97_10_M1, q97_44_M1, q97_1_M1, by first | assumption | decide | omega⟩
          · replace q14 := q14.resolve_left (fun h => absurd (c16.symm.trans h.1) (by decide))
            refine g_ldc2 (pc' := 66) (v := (-1)) dX10_cards_63 rfl k_X10_108 ?_
            refine g_lreturn dX10_cards_66 ?_
            exact ⟨iM1, fM1, q99_0_M1, q99_1_M1, q99_2_M1, q99_3_M1, q100_0_M1, q100_1_M1, q100_2_M1, q100_3_M1, q100_49_M1, q100_50_M1, q100_51_M1, q100_52_M1, q103_0_M1, q103_1_M1, q97_12_M1, q97_17_M1, q97_33_M1, q97_10_M1, q97_44_M1, q97_1_M1, by first | assumption | decide | omega⟩
