set_option maxHeartbeats 4000000 in
set_option maxRecDepth 100000 in
theorem c_X10_glass (X : Cx) (M : Mm) (hi : IM M) (a : Int) (ha : inI a) : Con X 12 yX10_glass cX10_glass 3 (some .int) [vr X 97, vi a] M (Qi (fun r M1 => IM M1 ∧ Fr (fun c => 97 ≤ c ∧ c ≤ 116) M M1 ∧ M1 99 1 = M 99 1 ∧ M1 99 2 = M 99 2 ∧ M1 99 3 = M 99 3 ∧ M1 100 0 = M 100 0 ∧ M1 100 1 = M 100 1 ∧ M1 100 2 = M 100 2 ∧ M1 100 3 = M 100 3 ∧ M1 100 49 = M 100 49 ∧ M1 100 50 = M 100 50 ∧ M1 100 51 = M 100 51 ∧ M1 100 52 = M 100 52 ∧ M1 103 0 = M 103 0 ∧ M1 103 1 = M 103 1 ∧ M1 97 12 = M 97 12 ∧ (((a < 1 ∨ 60 < a) → r = -1 ∧ M1 99 0 = M 99 0) ∧ (1 ≤ a → a ≤ 60 → M 99 0 = 6 → r = -5 ∧ M1 99 0 = M 99 0) ∧ (1 ≤ a → a ≤ 60 → M 99 0 < 6 → r = M 99 0 ∧ M1 99 0 = M 99 0 + 1)))) := by
  refine Con.ofG rfl (Nat.le_of_ble_eq_true rfl) ?_
  show G X 12 RX10 cX10_glass 3 (some .int) (Qi (fun r M1 => IM M1 ∧ Fr (fun c => 97 ≤ c ∧ c ≤ 116) M M1 ∧ M1 99 1 = M 99 1 ∧ M1 99 2 = M 99 2 ∧ M1 99 3 = M 99 3 ∧ M1 100 0 = M 100 0 ∧ M1 100 1 = M 100 1 ∧ M1 100 2 = M 100 2 ∧ M1 100 3 = M 100 3 ∧ M1 100 49 = M 100 49 ∧ M1 100 50 = M 100 50 ∧ M1 100 51 = M 100 51 ∧ M1 100 52 = M 100 52 ∧ M1 103 0 = M 103 0 ∧ M1 103 1 = M 103 1 ∧ M1 97 12 = M 97 12 ∧ (((a < 1 ∨ 60 < a) → r = -1 ∧ M1 99 0 = M 99 0) ∧ (1 ≤ a → a ≤ 60 → M 99 0 = 6 → r = -5 ∧ M1 99 0 = M 99 0) ∧ (1 ≤ a → a ≤ 60 → M 99 0 < 6 → r = M 99 0 ∧ M1 99 0 = M 99 0 + 1)))) 0 [(0, vr X 97), (1, vi a)] [] M
  have p0 := hi.1.1
  have p1 := hi.1.2.1
  have p2 := hi.1.2.2.1
  have p3 := hi.1.2.2.2.1
  have p12 := hi.2.2.2.1
  refine g_aload_n (pc' := 1) 0 dX10_glass_0 rfl rfl ?_
  refine g_iconst (pc' := 2) dX10_glass_1 rfl ?_
  refine g_putI (pc' := 5) dX10_glass_2 rfl p_X10_77 rfl rfl (by decide) (fun M1 hM1 => ?_)
  have iM1 : IM M1 := IM.wr hi hM1 (by unfold okv; first | decide | omega)
  have fM1 : Fr (fun c => 97 ≤ c ∧ c ≤ 116) M M1 := Fr.wr Fr.rf hM1 (by first | decide | omega | (dsimp only; omega))
  have q99_1_M1 : (M1 99 1 = M 99 1) := (show M1 99 1 = M 99 1 by rw [hM1]; exact mu_ne _ _ (by first | decide | omega))
  have q99_2_M1 : (M1 99 2 = M 99 2) := (show M1 99 2 = M 99 2 by rw [hM1]; exact mu_ne _ _ (by first | decide | omega))
  have q99_3_M1 : (M1 99 3 = M 99 3) := (show M1 99 3 = M 99 3 by rw [hM1]; exact mu_ne _ _ (by first | decide | omega))
  have q100_0_M1 : id (M1 100 0 = M 100 0) := (show M1 100 0 = M 100 0 by rw [hM1]; exact mu_ne _ _ (by first | decide | omega))
  have q100_1_M1 : id (M1 100 1 = M 100 1) := (show M1 100 1 = M 100 1 by rw [hM1]; exact mu_ne _ _ (by first | decide | omega))
  have q100_2_M1 : id (M1 100 2 = M 100 2) := (show M1 100 2 = M 100 2 by rw [hM1]; exact mu_ne _ _ (by first | decide | omega))
  have q100_3_M1 : id (M1 100 3 = M 100 3) := (show M1 100 3 = M 100 3 by rw [hM1]; exact mu_ne _ _ (by first | decide | omega))
  have q100_49_M1 : id (M1 100 49 = M 100 49) := (show M1 100 49 = M 100 49 by rw [hM1]; exact mu_ne _ _ (by first | decide | omega))
  have q100_50_M1 : id (M1 100 50 = M 100 50) := (show M1 100 50 = M 100 50 by rw [hM1]; exact mu_ne _ _ (by first | decide | omega))
  have q100_51_M1 : id (M1 100 51 = M 100 51) := (show M1 100 51 = M 100 51 by rw [hM1]; exact mu_ne _ _ (by first | decide | omega))
  have q100_52_M1 : id (M1 100 52 = M 100 52) := (show M1 100 52 = M 100 52 by rw [hM1]; exact mu_ne _ _ (by first | decide | omega))
  have q103_0_M1 : id (M1 103 0 = M 103 0) := (show M1 103 0 = M 103 0 by rw [hM1]; exact mu_ne _ _ (by first | decide | omega))
  have q103_1_M1 : id (M1 103 1 = M 103 1) := (show M1 103 1 = M 103 1 by rw [hM1]; exact mu_ne _ _ (by first | decide | omega))
  have q97_12_M1 : (M1 97 12 = M 97 12) := (show M1 97 12 = M 97 12 by rw [hM1]; exact mu_ne _ _ (by first | decide | omega))
  have q99_0_M1 : (M1 99 0 = M 99 0) := (show M1 99 0 = M 99 0 by rw [hM1]; exact mu_ne _ _ (by first | decide | omega))
  have wM1_99_0 : M1 99 0 = M 99 0 := by rw [hM1]; exact mu_ne _ _ (by first | decide | omega)
  have xM1_97_0 : M1 97 0 = 0 := by rw [hM1]; exact mu_at _ _ _ _
  refine g_iload_n (pc' := 6) 1 dX10_glass_5 rfl rfl ?_
  refine g_callSip (pc' := 9) (As := [vi a]) (S := []) dX10_glass_6 rfl m_X10_95 w_X10_isAmount (c_X10_isAmount X M1 a ha) rfl (by decide) (by decide) rfl (Nat.le_of_ble_eq_true rfl) (fun z3 q2 => ?_)
  refine g_if_ne (pc' := 12) (tgt := 18) ⟨by omega, by omega⟩ dX10_glass_9 rfl rfl (fun c4 => ?_) (fun c4 => ?_)
  · replace q2 := q2.resolve_right (fun h => c4 h.1)
    refine g_aload_n (pc' := 19) 0 dX10_glass_18 rfl rfl ?_
    refine g_getR (pc' := 22) dX10_glass_19 rfl f_X10_13 rfl rfl ?_
    refine g_iconst (pc' := 23) dX10_glass_22 rfl ?_
    refine g_iald (pc' := 24) dX10_glass_23 rfl rfl (by decide) (by decide) (fun v5 ev5 rv5 => ?_)
    have ev5 : v5 = M1 99 0 := ev5
    have bv5 : 0 ≤ v5 ∧ v5 ≤ 6 := by rw [ev5]; exact iM1.1.1
    have av5 : v5 = M 99 0 := ev5.trans q99_0_M1
    refine g_istore_n (pc' := 25) (i := 2) (L' := [(2, vi v5), (0, vr X 97), (1, vi a)]) dX10_glass_24 rfl rfl (by decide) rfl ?_
    refine g_iload_n (pc' := 26) 0 dX10_glass_25 rfl rfl ?_
    refine g_bipush (pc' := 28) (v := 6) dX10_glass_26 rfl (by decide) ?_
    refine g_ic_ne (pc' := 31) (tgt := 38) rv5 (by decide) dX10_glass_28 rfl rfl (fun c6 => ?_) (fun c6 => ?_)
    · refine g_aload_n (pc' := 39) 1 dX10_glass_38 rfl rfl ?_
      refine g_getR (pc' := 42) dX10_glass_39 rfl f_X10_13 rfl rfl ?_
      refine g_iconst (pc' := 43) dX10_glass_42 rfl ?_
      refine g_iload_n (pc' := 44) 0 dX10_glass_43 rfl rfl ?_
      refine g_iadd (pc' := 45) dX10_glass_44 rfl ?_
      refine g_iload_n (pc' := 46) 2 dX10_glass_45 rfl rfl ?_
      refine g_iast (pc' := 47) dX10_glass_46 rfl rfl (by omega) (by omega) ha (fun M7 hM7 => ?_)
      have iM7 : IM M7 := IM.wrow iM1 hM7 (by unfold okrow; omega)
      have fM7 : Fr (fun c => 97 ≤ c ∧ c ≤ 116) M M7 := Fr.wr fM1 hM7 (by first | decide | omega | (dsimp only; omega))
      have q99_1_M7 : (M7 99 1 = M 99 1) := (show M7 99 1 = M1 99 1 by rw [hM7]; exact mu_ne _ _ (by first | decide | omega)).trans q99_1_M1
      have q99_2_M7 : (M7 99 2 = M 99 2) := (show M7 99 2 = M1 99 2 by rw [hM7]; exact mu_ne _ _ (by first | decide | omega)).trans q99_2_M1
      have q99_3_M7 : (M7 99 3 = M 99 3) := (show M7 99 3 = M1 99 3 by rw [hM7]; exact mu_ne _ _ (by first | decide | omega)).trans q99_3_M1
      have q100_0_M7 : id (M7 100 0 = M 100 0) := (show M7 100 0 = M1 100 0 by rw [hM7]; exact mu_ne _ _ (by first | decide | omega)).trans q100_0_M1
      have q100_1_M7 : id (M7 100 1 = M 100 1) := (show M7 100 1 = M1 100 1 by rw [hM7]; exact mu_ne _ _ (by first | decide | omega)).trans q100_1_M1
      have q100_2_M7 : id (M7 100 2 = M 100 2) := (show M7 100 2 = M1 100 2 by rw [hM7]; exact mu_ne _ _ (by first | decide | omega)).trans q100_2_M1
      have q100_3_M7 : id (M7 100 3 = M 100 3) := (show M7 100 3 = M1 100 3 by rw [hM7]; exact mu_ne _ _ (by first | decide | omega)).trans q100_3_M1
      have q100_49_M7 : id (M7 100 49 = M 100 49) := (show M7 100 49 = M1 100 49 by rw [hM7]; exact mu_ne _ _ (by first | decide | omega)).trans q100_49_M1
      have q100_50_M7 : id (M7 100 50 = M 100 50) := (show M7 100 50 = M1 100 50 by rw [hM7]; exact mu_ne _ _ (by first | decide | omega)).trans q100_50_M1
      have q100_51_M7 : id (M7 100 51 = M 100 51) := (show M7 100 51 = M1 100 51 by rw [hM7]; exact mu_ne _ _ (by first | decide | omega)).trans q100_51_M1
      have q100_52_M7 : id (M7 100 52 = M 100 52) := (show M7 100 52 = M1 100 52 by rw [hM7]; exact mu_ne _ _ (by first | decide | omega)).trans q100_52_M1
      have q103_0_M7 : id (M7 103 0 = M 103 0) := (show M7 103 0 = M1 103 0 by rw [hM7]; exact mu_ne _ _ (by first | decide | omega)).trans q103_0_M1
      have q103_1_M7 : id (M7 103 1 = M 103 1) := (show M7 103 1 = M1 103 1 by rw [hM7]; exact mu_ne _ _ (by first | decide | omega)).trans q103_1_M1
      have q97_12_M7 : (M7 97 12 = M 97 12) := (show M7 97 12 = M1 97 12 by rw [hM7]; exact mu_ne _ _ (by first | decide | omega)).trans q97_12_M1
      have q99_0_M7 : (M7 99 0 = M 99 0) := (show M7 99 0 = M1 99 0 by rw [hM7]; exact mu_ne _ _ (by first | decide | omega)).trans q99_0_M1
      have wM7_99_0 : M7 99 0 = M1 99 0 := by rw [hM7]; exact mu_ne _ _ (by first | decide | omega)
      have xM7_97_0 : M7 97 0 = 0 := (show M7 97 0 = M1 97 0 by rw [hM7]; exact mu_ne _ _ (by first | decide | omega)).trans xM1_97_0
      refine g_aload_n (pc' := 48) 1 dX10_glass_47 rfl rfl ?_
      refine g_getR (pc' := 51) dX10_glass_48 rfl f_X10_13 rfl rfl ?_
      refine g_iconst (pc' := 52) dX10_glass_51 rfl ?_
      refine g_dup2_11 (pc' := 53) dX10_glass_52 rfl rfl rfl ?_
      refine g_iald (pc' := 54) dX10_glass_53 rfl rfl (by decide) (by decide) (fun v8 ev8 rv8 => ?_)
      have ev8 : v8 = M7 99 0 := ev8
      have bv8 : 0 ≤ v8 ∧ v8 ≤ 6 := by rw [ev8]; exact iM7.1.1
      have av8 : v8 = M 99 0 := ev8.trans q99_0_M7
      obtain rfl : v5 = v8 := av5.trans av8.symm
      refine g_iconst (pc' := 55) dX10_glass_54 rfl ?_
      refine g_iadd (pc' := 56) dX10_glass_55 rfl ?_
      refine g_iast (pc' := 57) dX10_glass_56 rfl rfl (by decide) (by decide) ⟨by omega, by omega⟩ (fun M9 hM9 => ?_)
      have hM9 : M9 = mu M7 99 0 (v5 + 1) := hM9
      have iM9 : IM M9 := IM.wrow iM7 hM9 (by unfold okrow; omega)
      have fM9 : Fr (fun c => 97 ≤ c ∧ c ≤ 116) M M9 := Fr.wr fM7 hM9 (by first | decide | omega | (dsimp only; omega))
      have q99_1_M9 : (M9 99 1 = M 99 1) := (show M9 99 1 = M7 99 1 by rw [hM9]; exact mu_ne _ _ (by first | decide | omega)).trans q99_1_M7
      have q99_2_M9 : (M9 99 2 = M 99 2) := (show M9 99 2 = M7 99 2 by rw [hM9]; exact mu_ne _ _ (by first | decide | omega)).trans q99_2_M7
      have q99_3_M9 : (M9 99 3 = M 99 3) := (show M9 99 3 = M7 99 3 by rw [hM9]; exact mu_ne _ _ (by first | decide | omega)).trans q99_3_M7
      have q100_0_M9 : id (M9 100 0 = M 100 0) := (show M9 100 0 = M7 100 0 by rw [hM9]; exact mu_ne _ _ (by first | decide | omega)).trans q100_0_M7
      have q100_1_M9 : id (M9 100 1 = M 100 1) := (show M9 100 1 = M7 100 1 by rw [hM9]; exact mu_ne _ _ (by first | decide | omega)).trans q100_1_M7
      have q100_2_M9 : id (M9 100 2 = M 100 2) := (show M9 100 2 = M7 100 2 by rw [hM9]; exact mu_ne _ _ (by first | decide | omega)).trans q100_2_M7
      have q100_3_M9 : id (M9 100 3 = M 100 3) := (show M9 100 3 = M7 100 3 by rw [hM9]; exact mu_ne _ _ (by first | decide | omega)).trans q100_3_M7
      have q100_49_M9 : id (M9 100 49 = M 100 49) := (show M9 100 49 = M7 100 49 by rw [hM9]; exact mu_ne _ _ (by first | decide | omega)).trans q100_49_M7
      have q100_50_M9 : id (M9 100 50 = M 100 50) := (show M9 100 50 = M7 100 50 by rw [hM9]; exact mu_ne _ _ (by first | decide | omega)).trans q100_50_M7
      have q100_51_M9 : id (M9 100 51 = M 100 51) := (show M9 100 51 = M7 100 51 by rw [hM9]; exact mu_ne _ _ (by first | decide | omega)).trans q100_51_M7
      have q100_52_M9 : id (M9 100 52 = M 100 52) := (show M9 100 52 = M7 100 52 by rw [hM9]; exact mu_ne _ _ (by first | decide | omega)).trans q100_52_M7
      have q103_0_M9 : id (M9 103 0 = M 103 0) := (show M9 103 0 = M7 103 0 by rw [hM9]; exact mu_ne _ _ (by first | decide | omega)).trans q103_0_M7
      have q103_1_M9 : id (M9 103 1 = M 103 1) := (show M9 103 1 = M7 103 1 by rw [hM9]; exact mu_ne _ _ (by first | decide | omega)).trans q103_1_M7
      have q97_12_M9 : (M9 97 12 = M 97 12) := (show M9 97 12 = M7 97 12 by rw [hM9]; exact mu_ne _ _ (by first | decide | omega)).trans q97_12_M7
      have xM9_97_0 : M9 97 0 = 0 := (show M9 97 0 = M7 97 0 by rw [hM9]; exact mu_ne _ _ (by first | decide | omega)).trans xM7_97_0
      have xM9_99_0 : M9 99 0 = v5 + 1 := by rw [hM9]; exact mu_at _ _ _ _
      refine g_aload_n (pc' := 58) 1 dX10_glass_57 rfl rfl ?_
      refine g_iload_n (pc' := 59) 0 dX10_glass_58 rfl rfl ?_
      refine g_callVi (pc' := 62) (As := [vi v5]) (b := 97) (S := []) dX10_glass_59 rfl m_X10_87 w_X10_tell (c_X10_tell X M9 iM9 v5 rv5 (by omega)) rfl ⟨_, _, _, rfl, rfl, rfl⟩ (by decide) (by decide) rfl (Nat.le_of_ble_eq_true rfl) (fun z11 M12 q10 => ?_)
      obtain ⟨iM12, fM120, eM12_99_0, eM12_99_1, eM12_99_2, eM12_99_3, eM12_100_0, eM12_100_1, eM12_100_2, eM12_100_3, eM12_100_49, eM12_100_50, eM12_100_51, eM12_100_52, eM12_103_0, eM12_103_1, eM12_97_12, pM12⟩ := q10
      have fM12 : Fr (fun c => 97 ≤ c ∧ c ≤ 116) M M12 := Fr.tr fM9 fM120 fi_23
      have q99_1_M12 : (M12 99 1 = M 99 1) := eM12_99_1.trans q99_1_M9
      have q99_2_M12 : (M12 99 2 = M 99 2) := eM12_99_2.trans q99_2_M9
      have q99_3_M12 : (M12 99 3 = M 99 3) := eM12_99_3.trans q99_3_M9
      have q100_0_M12 : id (M12 100 0 = M 100 0) := eM12_100_0.trans q100_0_M9
      have q100_1_M12 : id (M12 100 1 = M 100 1) := eM12_100_1.trans q100_1_M9
      have q100_2_M12 : id (M12 100 2 = M 100 2) := eM12_100_2.trans q100_2_M9
      have q100_3_M12 : id (M12 100 3 = M 100 3) := eM12_100_3.trans q100_3_M9
      have q100_49_M12 : id (M12 100 49 = M 100 49) := eM12_100_49.trans q100_49_M9
      have q100_50_M12 : id (M12 100 50 = M 100 50) := eM12_100_50.trans q100_50_M9
      have q100_51_M12 : id (M12 100 51 = M 100 51) := eM12_100_51.trans q100_51_M9
      have q100_52_M12 : id (M12 100 52 = M 100 52) := eM12_100_52.trans q100_52_M9
      have q103_0_M12 : id (M12 103 0 = M 103 0) := eM12_103_0.trans q103_0_M9
      have q103_1_M12 : id (M12 103 1 = M 103 1) := eM12_103_1.trans q103_1_M9
      have q97_12_M12 : (M12 97 12 = M 97 12) := eM12_97_12.trans q97_12_M9
      have wM12_99_0 : M12 99 0 = M9 99 0 := eM12_99_0
      have xM12_99_0 : M12 99 0 = v5 + 1 := eM12_99_0.trans xM9_99_0
      clear eM12_100_0 eM12_100_1 eM12_100_2 eM12_100_3 eM12_100_49 eM12_100_50 eM12_100_51 eM12_100_52 eM12_103_0 eM12_103_1
      refine g_ireturn dX10_glass_62 ?_
      exact ⟨iM12, fM12, q99_1_M12, q99_2_M12, q99_3_M12, q100_0_M12, q100_1_M12, q100_2_M12, q100_3_M12, q100_49_M12, q100_50_M12, q100_51_M12, q100_52_M12, q103_0_M12, q103_1_M12, q97_12_M12, by omega⟩
    · refine g_aload_n (pc' := 32) 1 dX10_glass_31 rfl rfl ?_
      refine g_bipush (pc' := 34) (v := (-5)) dX10_glass_32 rfl (by decide) ?_
      refine g_callVi (pc' := 37) (As := [vi (-5)]) (b := 97) (S := []) dX10_glass_34 rfl m_X10_87 w_X10_tell (c_X10_tell X M1 iM1 (-5) (by decide) (by omega)) rfl ⟨_, _, _, rfl, rfl, rfl⟩ (by decide) (by decide) rfl (Nat.le_of_ble_eq_true rfl) (fun z14 M15 q13 => ?_)
      obtain ⟨iM15, fM150, eM15_99_0, eM15_99_1, eM15_99_2, eM15_99_3, eM15_100_0, eM15_100_1, eM15_100_2, eM15_100_3, eM15_100_49, eM15_100_50, eM15_100_51, eM15_100_52, eM15_103_0, eM15_103_1, eM15_97_12, pM15⟩ := q13
      have fM15 : Fr (fun c => 97 ≤ c ∧ c ≤ 116) M M15 := Fr.tr fM1 fM150 fi_23
      have q99_1_M15 : (M15 99 1 = M 99 1) := eM15_99_1.trans q99_1_M1
      have q99_2_M15 : (M15 99 2 = M 99 2) := eM15_99_2.trans q99_2_M1
      have q99_3_M15 : (M15 99 3 = M 99 3) := eM15_99_3.trans q99_3_M1
      have q100_0_M15 : id (M15 100 0 = M 100 0) := eM15_100_0.trans q100_0_M1
      have q100_1_M15 : id (M15 100 1 = M 100 1) := eM15_100_1.trans q100_1_M1
      have q100_2_M15 : id (M15 100 2 = M 100 2) := eM15_100_2.trans q100_2_M1
      have q100_3_M15 : id (M15 100 3 = M 100 3) := eM15_100_3.trans q100_3_M1
      have q100_49_M15 : id (M15 100 49 = M 100 49) := eM15_100_49.trans q100_49_M1
      have q100_50_M15 : id (M15 100 50 = M 100 50) := eM15_100_50.trans q100_50_M1
      have q100_51_M15 : id (M15 100 51 = M 100 51) := eM15_100_51.trans q100_51_M1
      have q100_52_M15 : id (M15 100 52 = M 100 52) := eM15_100_52.trans q100_52_M1
      have q103_0_M15 : id (M15 103 0 = M 103 0) := eM15_103_0.trans q103_0_M1
      have q103_1_M15 : id (M15 103 1 = M 103 1) := eM15_103_1.trans q103_1_M1
      have q97_12_M15 : (M15 97 12 = M 97 12) := eM15_97_12.trans q97_12_M1
      have q99_0_M15 : (M15 99 0 = M 99 0) := eM15_99_0.trans q99_0_M1
      have wM15_99_0 : M15 99 0 = M1 99 0 := eM15_99_0
      clear eM15_100_0 eM15_100_1 eM15_100_2 eM15_100_3 eM15_100_49 eM15_100_50 eM15_100_51 eM15_100_52 eM15_103_0 eM15_103_1
      refine g_ireturn dX10_glass_37 ?_
      exact ⟨iM15, fM15, q99_1_M15, q99_2_M15, q99_3_M15, q100_0_M15, q100_1_M15, q100_2_M15, q100_3_M15, q100_49_M15, q100_50_M15, q100_51_M15, q100_52_M15, q103_0_M15, q103_1_M15, q97_12_M15, by omega⟩
  · replace q2 := q2.resolve_left (fun h => absurd (c4.symm.trans h.1) (by decide))
    refine g_aload_n (pc' := 13) 0 dX10_glass_12 rfl rfl ?_
    refine g_iconst (pc' := 14) dX10_glass_13 rfl ?_
    refine g_callVi (pc' := 17) (As := [vi (-1)]) (b := 97) (S := []) dX10_glass_14 rfl m_X10_87 w_X10_tell (c_X10_tell X M1 iM1 (-1) (by decide) (by omega)) rfl ⟨_, _, _, rfl, rfl, rfl⟩ (by decide) (by decide) rfl (Nat.le_of_ble_eq_true rfl) (fun z17 M18 q16 => ?_)
    obtain ⟨iM18, fM180, eM18_99_0, eM18_99_1, eM18_99_2, eM18_99_3, eM18_100_0, eM18_100_1, eM18_100_2, eM18_100_3, eM18_100_49, eM18_100_50, eM18_100_51, eM18_100_52, eM18_103_0, eM18_103_1, eM18_97_12, pM18⟩ := q16
    have fM18 : Fr (fun c => 97 ≤ c ∧ c ≤ 116) M M18 := Fr.tr fM1 fM180 fi_23
    have q99_1_M18 : (M18 99 1 = M 99 1) := eM18_99_1.trans q99_1_M1
    have q99_2_M18 : (M18 99 2 = M 99 2) := eM18_99_2.trans q99_2_M1
    have q99_3_M18 : (M18 99 3 = M 99 3) := eM18_99_3.trans q99_3_M1
    have q100_0_M18 : id (M18 100 0 = M 100 0) := eM18_100_0.trans q100_0_M1
    have q100_1_M18 : id (M18 100 1 = M 100 1) := eM18_100_1.trans q100_1_M1
    have q100_2_M18 : id (M18 100 2 = M 100 2) := eM18_100_2.trans q100_2_M1
    have q100_3_M18 : id (M18 100 3 = M 100 3) := eM18_100_3.trans q100_3_M1
    have q100_49_M18 : id (M18 100 49 = M 100 49) := eM18_100_49.trans q100_49_M1
    have q100_50_M18 : id (M18 100 50 = M 100 50) := eM18_100_50.trans q100_50_M1
    have q100_51_M18 : id (M18 100 51 = M 100 51) := eM18_100_51.trans q100_51_M1
    have q100_52_M18 : id (M18 100 52 = M 100 52) := eM18_100_52.trans q100_52_M1
    have q103_0_M18 : id (M18 103 0 = M 103 0) := eM18_103_0.trans q103_0_M1
    have q103_1_M18 : id (M18 103 1 = M 103 1) := eM18_103_1.trans q103_1_M1
    have q97_12_M18 : (M18 97 12 = M 97 12) := eM18_97_12.trans q97_12_M1
    have q99_0_M18 : (M18 99 0 = M 99 0) := eM18_99_0.trans q99_0_M1
    have wM18_99_0 : M18 99 0 = M1 99 0 := eM18_99_0
    clear eM18_100_0 eM18_100_1 eM18_100_2 eM18_100_3 eM18_100_49 eM18_100_50 eM18_100_51 eM18_100_52 eM18_103_0 eM18_103_1
    refine g_ireturn dX10_glass_17 ?_
    exact ⟨iM18, fM18, q99_1_M18, q99_2_M18, q99_3_M18, q100_0_M18, q100_1_M18, q100_2_M18, q100_3_M18, q100_49_M18, q100_50_M18, q100_51_M18, q100_52_M18, q103_0_M18, q103_1_M18, q97_12_M18, by omega⟩
set_option maxHeartbeats 4000000 in
set_option maxRecDepth 100000 in
theorem c_X10_of (X : Cx) (M : Mm) (hi : IM M) (a : Int) (ha : inI a) (b : Int) (hb : inI b) : Con X 12 yX10_of cX10_of 3 (some .int) [vr X 97, vi a, vi b] M (Qi (fun r M1 => IM M1 ∧ Fr (fun c => 97 ≤ c ∧ c ≤ 116) M M1 ∧ M1 99 0 = M 99 0 ∧ M1 99 1 = M 99 1 ∧ M1 99 2 = M 99 2 ∧ M1 99 3 = M 99 3 ∧ M1 100 0 = M 100 0 ∧ M1 100 1 = M 100 1 ∧ M1 100 2 = M 100 2 ∧ M1 100 3 = M 100 3 ∧ M1 100 49 = M 100 49 ∧ M1 100 50 = M 100 50 ∧ M1 100 51 = M 100 51 ∧ M1 100 52 = M 100 52 ∧ M1 103 0 = M 103 0 ∧ M1 103 1 = M 103 1 ∧ M1 97 12 = M 97 12 ∧ (inI r))) := by
  refine Con.ofG rfl (Nat.le_of_ble_eq_true rfl) ?_
  show G X 12 RX10 cX10_of 3 (some .int) (Qi (fun r M1 => IM M1 ∧ Fr (fun c => 97 ≤ c ∧ c ≤ 116) M M1 ∧ M1 99 0 = M 99 0 ∧ M1 99 1 = M 99 1 ∧ M1 99 2 = M 99 2 ∧ M1 99 3 = M 99 3 ∧ M1 100 0 = M 100 0 ∧ M1 100 1 = M 100 1 ∧ M1 100 2 = M 100 2 ∧ M1 100 3 = M 100 3 ∧ M1 100 49 = M 100 49 ∧ M1 100 50 = M 100 50 ∧ M1 100 51 = M 100 51 ∧ M1 100 52 = M 100 52 ∧ M1 103 0 = M 103 0 ∧ M1 103 1 = M 103 1 ∧ M1 97 12 = M 97 12 ∧ (inI r))) 0 [(0, vr X 97), (1, vi a), (2, vi b)] [] M
  have p0 := hi.1.1
  have p1 := hi.1.2.1
  have p2 := hi.1.2.2.1
  have p3 := hi.1.2.2.2.1
  have p12 := hi.2.2.2.1
  refine g_aload_n (pc' := 1) 0 dX10_of_0 rfl rfl ?_
  refine g_iconst (pc' := 2) dX10_of_1 rfl ?_
  refine g_putI (pc' := 5) dX10_of_2 rfl p_X10_77 rfl rfl (by decide) (fun M1 hM1 => ?_)
  have iM1 : IM M1 := IM.wr hi hM1 (by unfold okv; first | decide | omega)
  have fM1 : Fr (fun c => 97 ≤ c ∧ c ≤ 116) M M1 := Fr.wr Fr.rf hM1 (by first | decide | omega | (dsimp only; omega))
  have q99_0_M1 : (M1 99 0 = M 99 0) := (show M1 99 0 = M 99 0 by rw [hM1]; exact mu_ne _ _ (by first | decide | omega))
  have q99_1_M1 : (M1 99 1 = M 99 1) := (show M1 99 1 = M 99 1 by rw [hM1]; exact mu_ne _ _ (by first | decide | omega))
  have q99_2_M1 : (M1 99 2 = M 99 2) := (show M1 99 2 = M 99 2 by rw [hM1]; exact mu_ne _ _ (by first | decide | omega))
  have q99_3_M1 : (M1 99 3 = M 99 3) := (show M1 99 3 = M 99 3 by rw [hM1]; exact mu_ne _ _ (by first | decide | omega))
  have q100_0_M1 : id (M1 100 0 = M 100 0) := (show M1 100 0 = M 100 0 by rw [hM1]; exact mu_ne _ _ (by first | decide | omega))
  have q100_1_M1 : id (M1 100 1 = M 100 1) := (show M1 100 1 = M 100 1 by rw [hM1]; exact mu_ne _ _ (by first | decide | omega))
  have q100_2_M1 : id (M1 100 2 = M 100 2) := (show M1 100 2 = M 100 2 by rw [hM1]; exact mu_ne _ _ (by first | decide | omega))
  have q100_3_M1 : id (M1 100 3 = M 100 3) := (show M1 100 3 = M 100 3 by rw [hM1]; exact mu_ne _ _ (by first | decide | omega))
  have q100_49_M1 : id (M1 100 49 = M 100 49) := (show M1 100 49 = M 100 49 by rw [hM1]; exact mu_ne _ _ (by first | decide | omega))
  have q100_50_M1 : id (M1 100 50 = M 100 50) := (show M1 100 50 = M 100 50 by rw [hM1]; exact mu_ne _ _ (by first | decide | omega))
  have q100_51_M1 : id (M1 100 51 = M 100 51) := (show M1 100 51 = M 100 51 by rw [hM1]; exact mu_ne _ _ (by first | decide | omega))
  have q100_52_M1 : id (M1 100 52 = M 100 52) := (show M1 100 52 = M 100 52 by rw [hM1]; exact mu_ne _ _ (by first | decide | omega))
  have q103_0_M1 : id (M1 103 0 = M 103 0) := (show M1 103 0 = M 103 0 by rw [hM1]; exact mu_ne _ _ (by first | decide | omega))
  have q103_1_M1 : id (M1 103 1 = M 103 1) := (show M1 103 1 = M 103 1 by rw [hM1]; exact mu_ne _ _ (by first | decide | omega))
  have q97_12_M1 : (M1 97 12 = M 97 12) := (show M1 97 12 = M 97 12 by rw [hM1]; exact mu_ne _ _ (by first | decide | omega))
  have xM1_97_0 : M1 97 0 = 0 := by rw [hM1]; exact mu_at _ _ _ _
  refine g_aload_n (pc' := 6) 0 dX10_of_5 rfl rfl ?_
  refine g_iload_n (pc' := 7) 1 dX10_of_6 rfl rfl ?_
  refine g_callVip (pc' := 10) (As := [vi a]) (b := 97) (S := []) dX10_of_7 rfl m_X10_102 w_X10_isGlass (c_X10_isGlass X M1 iM1 a ha) rfl ⟨_, _, _, rfl, rfl, rfl⟩ (by decide) (by decide) rfl (Nat.le_of_ble_eq_true rfl) (fun z3 q2 => ?_)
  refine g_if_eq (pc' := 13) (tgt := 46) ⟨by omega, by omega⟩ dX10_of_10 rfl rfl (fun c4 => ?_) (fun c4 => ?_)
  · replace q2 := q2.resolve_left (fun h => absurd (c4.symm.trans h.1) (by decide))
    refine g_iconst (pc' := 47) dX10_of_46 rfl ?_
    refine g_ireturn dX10_of_47 ?_
    exact ⟨iM1, fM1, q99_0_M1, q99_1_M1, q99_2_M1, q99_3_M1, q100_0_M1, q100_1_M1, q100_2_M1, q100_3_M1, q100_49_M1, q100_50_M1, q100_51_M1, q100_52_M1, q103_0_M1, q103_1_M1, q97_12_M1, by first | assumption | decide | omega⟩
  · replace q2 := q2.resolve_right (fun h => c4 h.1)
    refine g_iload_n (pc' := 14) 2 dX10_of_13 rfl rfl ?_
    refine g_i2l (pc' := 15) hb dX10_of_14 rfl ?_
    refine g_lconst (pc' := 16) (v := 0) dX10_of_15 rfl (by decide) ?_
    refine g_lconst (pc' := 17) (v := 1) dX10_of_16 rfl (by decide) ?_
    refine g_callSip (pc' := 20) (As := [vl b, vl 0, vl 1]) (S := []) dX10_of_17 rfl m_X10_83 w_X10_in (c_X10_in X M1 b ⟨by omega, by omega⟩ 0 (by decide) 1 (by decide)) rfl (by decide) (by decide) rfl (Nat.le_of_ble_eq_true rfl) (fun z6 q5 => ?_)
    refine g_if_eq (pc' := 23) (tgt := 46) ⟨by omega, by omega⟩ dX10_of_20 rfl rfl (fun c7 => ?_) (fun c7 => ?_)
    · replace q5 := q5.resolve_left (fun h => absurd (c7.symm.trans h.1) (by decide))
      refine g_iconst (pc' := 47) dX10_of_46 rfl ?_
      refine g_ireturn dX10_of_47 ?_
      exact ⟨iM1, fM1, q99_0_M1, q99_1_M1, q99_2_M1, q99_3_M1, q100_0_M1, q100_1_M1, q100_2_M1, q100_3_M1, q100_49_M1, q100_50_M1, q100_51_M1, q100_52_M1, q103_0_M1, q103_1_M1, q97_12_M1, by first | assumption | decide | omega⟩
    · replace q5 := q5.resolve_right (fun h => c7 h.1)
      refine g_iload_n (pc' := 24) 2 dX10_of_23 rfl rfl ?_
      refine g_if_ne (pc' := 27) (tgt := 38) hb dX10_of_24 rfl rfl (fun c8 => ?_) (fun c8 => ?_)
      · refine g_aload_n (pc' := 39) 0 dX10_of_38 rfl rfl ?_
        refine g_iload_n (pc' := 40) 1 dX10_of_39 rfl rfl ?_
        refine g_callVip (pc' := 43) (As := [vi a]) (b := 97) (S := []) dX10_of_40 rfl m_X10_99 w_X10_full (c_X10_full X M1 iM1 a ha ⟨by omega, by omega⟩) rfl ⟨_, _, _, rfl, rfl, rfl⟩ (by decide) (by decide) rfl (Nat.le_of_ble_eq_true rfl) (fun z10 q9 => ?_)
        refine g_goto (tgt := 47) dX10_of_43 rfl ?_
        refine g_ireturn dX10_of_47 ?_
        exact ⟨iM1, fM1, q99_0_M1, q99_1_M1, q99_2_M1, q99_3_M1, q100_0_M1, q100_1_M1, q100_2_M1, q100_3_M1, q100_49_M1, q100_50_M1, q100_51_M1, q100_52_M1, q103_0_M1, q103_1_M1, q97_12_M1, by first | assumption | decide | omega⟩
      · refine g_aload_n (pc' := 28) 0 dX10_of_27 rfl rfl ?_
        refine g_getR (pc' := 31) dX10_of_28 rfl f_X10_13 rfl rfl ?_
        refine g_iconst (pc' := 32) dX10_of_31 rfl ?_
        refine g_iload_n (pc' := 33) 1 dX10_of_32 rfl rfl ?_
        refine g_iadd (pc' := 34) dX10_of_33 rfl ?_
        refine g_iald (pc' := 35) dX10_of_34 rfl rfl (by omega) (by omega) (fun v11 ev11 rv11 => ?_)
        have dv11 : 0 ≤ v11 ∧ v11 ≤ 60 := by rw [ev11]; exact iM1.1.sz (by omega) (by omega)
        refine g_goto (tgt := 47) dX10_of_35 rfl ?_
        refine g_ireturn dX10_of_47 ?_
        exact ⟨iM1, fM1, q99_0_M1, q99_1_M1, q99_2_M1, q99_3_M1, q100_0_M1, q100_1_M1, q100_2_M1, q100_3_M1, q100_49_M1, q100_50_M1, q100_51_M1, q100_52_M1, q103_0_M1, q103_1_M1, q97_12_M1, by first | assumption | decide | omega⟩
set_option maxHeartbeats 4000000 in
set_option maxRecDepth 100000 in
theorem c_X10_part (X : Cx) (M : Mm) (hi : IM M) (a : Int) (ha : inI a) (b : Int) (hb : inI b) : Con X 12 yX10_part cX10_part 3 (some .long) [vr X 97, vi a, vi b] M (Ql (fun r M1 => IM M1 ∧ Fr (fun c => 97 ≤ c ∧ c ≤ 116) M M1 ∧ M1 99 0 = M 99 0 ∧ M1 99 1 = M 99 1 ∧ M1 99 2 = M 99 2 ∧ M1 99 3 = M 99 3 ∧ M1 100 0 = M 100 0 ∧ M1 100 1 = M 100 1 ∧ M1 100 2 = M 100 2 ∧ M1 100 3 = M 100 3 ∧ M1 100 49 = M 100 49 ∧ M1 100 50 = M 100 50 ∧ M1 100 51 = M 100 51 ∧ M1 100 52 = M 100 52 ∧ M1 103 0 = M 103 0 ∧ M1 103 1 = M 103 1 ∧ M1 97 12 = M 97 12 ∧ (inL r))) := by
  refine Con.ofG rfl (Nat.le_of_ble_eq_true rfl) ?_
  show G X 12 RX10 cX10_part 3 (some .long) (Ql (fun r M1 => IM M1 ∧ Fr (fun c => 97 ≤ c ∧ c ≤ 116) M M1 ∧ M1 99 0 = M 99 0 ∧ M1 99 1 = M 99 1 ∧ M1 99 2 = M 99 2 ∧ M1 99 3 = M 99 3 ∧ M1 100 0 = M 100 0 ∧ M1 100 1 = M 100 1 ∧ M1 100 2 = M 100 2 ∧ M1 100 3 = M 100 3 ∧ M1 100 49 = M 100 49 ∧ M1 100 50 = M 100 50 ∧ M1 100 51 = M 100 51 ∧ M1 100 52 = M 100 52 ∧ M1 103 0 = M 103 0 ∧ M1 103 1 = M 103 1 ∧ M1 97 12 = M 97 12 ∧ (inL r))) 0 [(0, vr X 97), (1, vi a), (2, vi b)] [] M
  have p0 := hi.1.1
  have p1 := hi.1.2.1
  have p2 := hi.1.2.2.1
  have p3 := hi.1.2.2.2.1
  have p12 := hi.2.2.2.1
  refine g_aload_n (pc' := 1) 0 dX10_part_0 rfl rfl ?_
  refine g_iconst (pc' := 2) dX10_part_1 rfl ?_
  refine g_putI (pc' := 5) dX10_part_2 rfl p_X10_77 rfl rfl (by decide) (fun M1 hM1 => ?_)
  have iM1 : IM M1 := IM.wr hi hM1 (by unfold okv; first | decide | omega)
  have fM1 : Fr (fun c => 97 ≤ c ∧ c ≤ 116) M M1 := Fr.wr Fr.rf hM1 (by first | decide | omega | (dsimp only; omega))
  have q99_0_M1 : (M1 99 0 = M 99 0) := (show M1 99 0 = M 99 0 by rw [hM1]; exact mu_ne _ _ (by first | decide | omega))
  have q99_1_M1 : (M1 99 1 = M 99 1) := (show M1 99 1 = M 99 1 by rw [hM1]; exact mu_ne _ _ (by first | decide | omega))
  have q99_2_M1 : (M1 99 2 = M 99 2) := (show M1 99 2 = M 99 2 by rw [hM1]; exact mu_ne _ _ (by first | decide | omega))
  have q99_3_M1 : (M1 99 3 = M 99 3) := (show M1 99 3 = M 99 3 by rw [hM1]; exact mu_ne _ _ (by first | decide | omega))
  have q100_0_M1 : id (M1 100 0 = M 100 0) := (show M1 100 0 = M 100 0 by rw [hM1]; exact mu_ne _ _ (by first | decide | omega))
  have q100_1_M1 : id (M1 100 1 = M 100 1) := (show M1 100 1 = M 100 1 by rw [hM1]; exact mu_ne _ _ (by first | decide | omega))
  have q100_2_M1 : id (M1 100 2 = M 100 2) := (show M1 100 2 = M 100 2 by rw [hM1]; exact mu_ne _ _ (by first | decide | omega))
  have q100_3_M1 : id (M1 100 3 = M 100 3) := (show M1 100 3 = M 100 3 by rw [hM1]; exact mu_ne _ _ (by first | decide | omega))
  have q100_49_M1 : id (M1 100 49 = M 100 49) := (show M1 100 49 = M 100 49 by rw [hM1]; exact mu_ne _ _ (by first | decide | omega))
  have q100_50_M1 : id (M1 100 50 = M 100 50) := (show M1 100 50 = M 100 50 by rw [hM1]; exact mu_ne _ _ (by first | decide | omega))
  have q100_51_M1 : id (M1 100 51 = M 100 51) := (show M1 100 51 = M 100 51 by rw [hM1]; exact mu_ne _ _ (by first | decide | omega))
  have q100_52_M1 : id (M1 100 52 = M 100 52) := (show M1 100 52 = M 100 52 by rw [hM1]; exact mu_ne _ _ (by first | decide | omega))
  have q103_0_M1 : id (M1 103 0 = M 103 0) := (show M1 103 0 = M 103 0 by rw [hM1]; exact mu_ne _ _ (by first | decide | omega))
  have q103_1_M1 : id (M1 103 1 = M 103 1) := (show M1 103 1 = M 103 1 by rw [hM1]; exact mu_ne _ _ (by first | decide | omega))
  have q97_12_M1 : (M1 97 12 = M 97 12) := (show M1 97 12 = M 97 12 by rw [hM1]; exact mu_ne _ _ (by first | decide | omega))
  have xM1_97_0 : M1 97 0 = 0 := by rw [hM1]; exact mu_at _ _ _ _
  refine g_aload_n (pc' := 6) 0 dX10_part_5 rfl rfl ?_
  refine g_iload_n (pc' := 7) 1 dX10_part_6 rfl rfl ?_
  refine g_callVip (pc' := 10) (As := [vi a]) (b := 97) (S := []) dX10_part_7 rfl m_X10_102 w_X10_isGlass (c_X10_isGlass X M1 iM1 a ha) rfl ⟨_, _, _, rfl, rfl, rfl⟩ (by decide) (by decide) rfl (Nat.le_of_ble_eq_true rfl) (fun z3 q2 => ?_)
  refine g_if_eq (pc' := 13) (tgt := 33) ⟨by omega, by omega⟩ dX10_part_10 rfl rfl (fun c4 => ?_) (fun c4 => ?_)
  · replace q2 := q2.resolve_left (fun h => absurd (c4.symm.trans h.1) (by decide))
    refine g_ldc2 (pc' := 36) (v := (-1)) dX10_part_33 rfl k_X10_108 ?_
    refine g_lreturn dX10_part_36 ?_
    exact ⟨iM1, fM1, q99_0_M1, q99_1_M1, q99_2_M1, q99_3_M1, q100_0_M1, q100_1_M1, q100_2_M1, q100_3_M1, q100_49_M1, q100_50_M1, q100_51_M1, q100_52_M1, q103_0_M1, q103_1_M1, q97_12_M1, by first | assumption | decide | omega⟩
  · replace q2 := q2.resolve_right (fun h => c4 h.1)
    refine g_iload_n (pc' := 14) 2 dX10_part_13 rfl rfl ?_
    refine g_callSip (pc' := 17) (As := [vi b]) (S := []) dX10_part_14 rfl m_X10_105 w_X10_isStuff (c_X10_isStuff X M1 b hb) rfl (by decide) (by decide) rfl (Nat.le_of_ble_eq_true rfl) (fun z6 q5 => ?_)
    refine g_if_eq (pc' := 20) (tgt := 33) ⟨by omega, by omega⟩ dX10_part_17 rfl rfl (fun c7 => ?_) (fun c7 => ?_)
    · replace q5 := q5.resolve_left (fun h => absurd (c7.symm.trans h.1) (by decide))
      refine g_ldc2 (pc' := 36) (v := (-1)) dX10_part_33 rfl k_X10_108 ?_
      refine g_lreturn dX10_part_36 ?_
      exact ⟨iM1, fM1, q99_0_M1, q99_1_M1, q99_2_M1, q99_3_M1, q100_0_M1, q100_1_M1, q100_2_M1, q100_3_M1, q100_49_M1, q100_50_M1, q100_51_M1, q100_52_M1, q103_0_M1, q103_1_M1, q97_12_M1, by first | assumption | decide | omega⟩
    · replace q5 := q5.resolve_right (fun h => c7 h.1)
      refine g_aload_n (pc' := 21) 0 dX10_part_20 rfl rfl ?_
      refine g_getR (pc' := 24) dX10_part_21 rfl f_X10_19 rfl rfl ?_
      refine g_iconst (pc' := 25) dX10_part_24 rfl ?_
      refine g_iload_n (pc' := 26) 1 dX10_part_25 rfl rfl ?_
      refine g_imul (pc' := 27) dX10_part_26 rfl ?_
      refine g_iload_n (pc' := 28) 2 dX10_part_27 rfl rfl ?_
      refine g_iadd (pc' := 29) dX10_part_28 rfl ?_
      refine g_lald (pc' := 30) dX10_part_29 rfl rfl (by omega) (by omega) (fun v8 ev8 rv8 => ?_)
      have bv8 : 0 ≤ v8 ∧ v8 ≤ 6000000000000000 := by rw [ev8]; exact PIw.le iM1.2.1 (by omega)
      refine g_goto (tgt := 36) dX10_part_30 rfl ?_
      refine g_lreturn dX10_part_36 ?_
      exact ⟨iM1, fM1, q99_0_M1, q99_1_M1, q99_2_M1, q99_3_M1, q100_0_M1, q100_1_M1, q100_2_M1, q100_3_M1, q100_49_M1, q100_50_M1, q100_51_M1, q100_52_M1, q103_0_M1, q103_1_M1, q97_12_M1, by first | assumption | decide | omega⟩
set_option maxHeartbeats 4000000 in
set_option maxRecDepth 100000 in
theorem c_X10_lower (X : Cx) (M : Mm) (hi : IM M) : Con X 12 yX10_lower cX10_lower 1 (some .long) [vr X 97] M (Ql (fun r M1 => IM M1 ∧ Fr (fun c => 97 ≤ c ∧ c ≤ 116) M M1 ∧ M1 99 0 = M 99 0 ∧ M1 99 1 = M 99 1 ∧ M1 99 2 = M 99 2 ∧ M1 99 3 = M 99 3 ∧ M1 100 0 = M 100 0 ∧ M1 100 1 = M 100 1 ∧ M1 100 2 = M 100 2 ∧ M1 100 3 = M 100 3 ∧ M1 100 49 = M 100 49 ∧ M1 100 50 = M 100 50 ∧ M1 100 51 = M 100 51 ∧ M1 100 52 = M 100 52 ∧ M1 103 0 = M 103 0 ∧ M1 103 1 = M 103 1 ∧ M1 97 12 = M 97 12 ∧ (inL r))) := by
  refine Con.ofG rfl (Nat.le_of_ble_eq_true rfl) ?_
  show G X 12 RX10 cX10_lower 1 (some .long) (Ql (fun r M1 => IM M1 ∧ Fr (fun c => 97 ≤ c ∧ c ≤ 116) M M1 ∧ M1 99 0 = M 99 0 ∧ M1 99 1 = M 99 1 ∧ M1 99 2 = M 99 2 ∧ M1 99 3 = M 99 3 ∧ M1 100 0 = M 100 0 ∧ M1 100 1 = M 100 1 ∧ M1 100 2 = M 100 2 ∧ M1 100 3 = M 100 3 ∧ M1 100 49 = M 100 49 ∧ M1 100 50 = M 100 50 ∧ M1 100 51 = M 100 51 ∧ M1 100 52 = M 100 52 ∧ M1 103 0 = M 103 0 ∧ M1 103 1 = M 103 1 ∧ M1 97 12 = M 97 12 ∧ (inL r))) 0 [(0, vr X 97)] [] M
  have p0 := hi.1.1
  have p1 := hi.1.2.1
  have p2 := hi.1.2.2.1
  have p3 := hi.1.2.2.2.1
  have p12 := hi.2.2.2.1
  refine g_aload_n (pc' := 1) 0 dX10_lower_0 rfl rfl ?_
  refine g_iconst (pc' := 2) dX10_lower_1 rfl ?_
  refine g_putI (pc' := 5) dX10_lower_2 rfl p_X10_77 rfl rfl (by decide) (fun M1 hM1 => ?_)
  have iM1 : IM M1 := IM.wr hi hM1 (by unfold okv; first | decide | omega)
  have fM1 : Fr (fun c => 97 ≤ c ∧ c ≤ 116) M M1 := Fr.wr Fr.rf hM1 (by first | decide | omega | (dsimp only; omega))
  have q99_0_M1 : (M1 99 0 = M 99 0) := (show M1 99 0 = M 99 0 by rw [hM1]; exact mu_ne _ _ (by first | decide | omega))
  have q99_1_M1 : (M1 99 1 = M 99 1) := (show M1 99 1 = M 99 1 by rw [hM1]; exact mu_ne _ _ (by first | decide | omega))
  have q99_2_M1 : (M1 99 2 = M 99 2) := (show M1 99 2 = M 99 2 by rw [hM1]; exact mu_ne _ _ (by first | decide | omega))
  have q99_3_M1 : (M1 99 3 = M 99 3) := (show M1 99 3 = M 99 3 by rw [hM1]; exact mu_ne _ _ (by first | decide | omega))
  have q100_0_M1 : id (M1 100 0 = M 100 0) := (show M1 100 0 = M 100 0 by rw [hM1]; exact mu_ne _ _ (by first | decide | omega))
  have q100_1_M1 : id (M1 100 1 = M 100 1) := (show M1 100 1 = M 100 1 by rw [hM1]; exact mu_ne _ _ (by first | decide | omega))
  have q100_2_M1 : id (M1 100 2 = M 100 2) := (show M1 100 2 = M 100 2 by rw [hM1]; exact mu_ne _ _ (by first | decide | omega))
  have q100_3_M1 : id (M1 100 3 = M 100 3) := (show M1 100 3 = M 100 3 by rw [hM1]; exact mu_ne _ _ (by first | decide | omega))
  have q100_49_M1 : id (M1 100 49 = M 100 49) := (show M1 100 49 = M 100 49 by rw [hM1]; exact mu_ne _ _ (by first | decide | omega))
  have q100_50_M1 : id (M1 100 50 = M 100 50) := (show M1 100 50 = M 100 50 by rw [hM1]; exact mu_ne _ _ (by first | decide | omega))
  have q100_51_M1 : id (M1 100 51 = M 100 51) := (show M1 100 51 = M 100 51 by rw [hM1]; exact mu_ne _ _ (by first | decide | omega))
  have q100_52_M1 : id (M1 100 52 = M 100 52) := (show M1 100 52 = M 100 52 by rw [hM1]; exact mu_ne _ _ (by first | decide | omega))
  have q103_0_M1 : id (M1 103 0 = M 103 0) := (show M1 103 0 = M 103 0 by rw [hM1]; exact mu_ne _ _ (by first | decide | omega))
  have q103_1_M1 : id (M1 103 1 = M 103 1) := (show M1 103 1 = M 103 1 by rw [hM1]; exact mu_ne _ _ (by first | decide | omega))
  have q97_12_M1 : (M1 97 12 = M 97 12) := (show M1 97 12 = M 97 12 by rw [hM1]; exact mu_ne _ _ (by first | decide | omega))
  have xM1_97_0 : M1 97 0 = 0 := by rw [hM1]; exact mu_at _ _ _ _
  refine g_aload_n (pc' := 6) 0 dX10_lower_5 rfl rfl ?_
  refine g_getR (pc' := 9) dX10_lower_6 rfl f_X10_19 rfl rfl ?_
  refine g_bipush (pc' := 11) (v := 24) dX10_lower_9 rfl (by decide) ?_
  refine g_lald (pc' := 12) dX10_lower_11 rfl rfl (by decide) (by decide) (fun v2 ev2 rv2 => ?_)
  have ev2 : v2 = M1 101 24 := ev2
  have bv2 : 1 ≤ v2 ∧ v2 ≤ 100000000000000 := by rw [ev2]; exact iM1.2.1.1
  refine g_lreturn dX10_lower_12 ?_
  exact ⟨iM1, fM1, q99_0_M1, q99_1_M1, q99_2_M1, q99_3_M1, q100_0_M1, q100_1_M1, q100_2_M1, q100_3_M1, q100_49_M1, q100_50_M1, q100_51_M1, q100_52_M1, q103_0_M1, q103_1_M1, q97_12_M1, by first | assumption | decide | omega⟩
set_option maxHeartbeats 4000000 in
set_option maxRecDepth 100000 in
theorem c_X10_taste (X : Cx) (M : Mm) (hi : IM M) (a : Int) (ha : inI a) (b : Int) (hb : inI b) : Con X 12 yX10_taste cX10_taste 3 (some .int) [vr X 97, vi a, vi b] M (Qi (fun r M1 => IM M1 ∧ Fr (fun c => 97 ≤ c ∧ c ≤ 116) M M1 ∧ M1 99 0 = M 99 0 ∧ M1 99 1 = M 99 1 ∧ M1 99 2 = M 99 2 ∧ M1 99 3 = M 99 3 ∧ M1 100 0 = M 100 0 ∧ M1 100 1 = M 100 1 ∧ M1 100 2 = M 100 2 ∧ M1 100 3 = M 100 3 ∧ M1 100 49 = M 100 49 ∧ M1 100 50 = M 100 50 ∧ M1 100 51 = M 100 51 ∧ M1 100 52 = M 100 52 ∧ M1 103 0 = M 103 0 ∧ M1 103 1 = M 103 1 ∧ M1 97 12 = M 97 12 ∧ (inI r))) := by
  refine Con.ofG rfl (Nat.le_of_ble_eq_true rfl) ?_
  show G X 12 RX10 cX10_taste 3 (some .int) (Qi (fun r M1 => IM M1 ∧ Fr (fun c => 97 ≤ c ∧ c ≤ 116) M M1 ∧ M1 99 0 = M 99 0 ∧ M1 99 1 = M 99 1 ∧ M1 99 2 = M 99 2 ∧ M1 99 3 = M 99 3 ∧ M1 100 0 = M 100 0 ∧ M1 100 1 = M 100 1 ∧ M1 100 2 = M 100 2 ∧ M1 100 3 = M 100 3 ∧ M1 100 49 = M 100 49 ∧ M1 100 50 = M 100 50 ∧ M1 100 51 = M 100 51 ∧ M1 100 52 = M 100 52 ∧ M1 103 0 = M 103 0 ∧ M1 103 1 = M 103 1 ∧ M1 97 12 = M 97 12 ∧ (inI r))) 0 [(0, vr X 97), (1, vi a), (2, vi b)] [] M
  have p0 := hi.1.1
  have p1 := hi.1.2.1
  have p2 := hi.1.2.2.1
  have p3 := hi.1.2.2.2.1
  have p12 := hi.2.2.2.1
  refine g_aload_n (pc' := 1) 0 dX10_taste_0 rfl rfl ?_
  refine g_iconst (pc' := 2) dX10_taste_1 rfl ?_
  refine g_putI (pc' := 5) dX10_taste_2 rfl p_X10_77 rfl rfl (by decide) (fun M1 hM1 => ?_)
  have iM1 : IM M1 := IM.wr hi hM1 (by unfold okv; first | decide | omega)
  have fM1 : Fr (fun c => 97 ≤ c ∧ c ≤ 116) M M1 := Fr.wr Fr.rf hM1 (by first | decide | omega | (dsimp only; omega))
  have q99_0_M1 : (M1 99 0 = M 99 0) := (show M1 99 0 = M 99 0 by rw [hM1]; exact mu_ne _ _ (by first | decide | omega))
  have q99_1_M1 : (M1 99 1 = M 99 1) := (show M1 99 1 = M 99 1 by rw [hM1]; exact mu_ne _ _ (by first | decide | omega))
  have q99_2_M1 : (M1 99 2 = M 99 2) := (show M1 99 2 = M 99 2 by rw [hM1]; exact mu_ne _ _ (by first | decide | omega))
  have q99_3_M1 : (M1 99 3 = M 99 3) := (show M1 99 3 = M 99 3 by rw [hM1]; exact mu_ne _ _ (by first | decide | omega))
  have q100_0_M1 : id (M1 100 0 = M 100 0) := (show M1 100 0 = M 100 0 by rw [hM1]; exact mu_ne _ _ (by first | decide | omega))
  have q100_1_M1 : id (M1 100 1 = M 100 1) := (show M1 100 1 = M 100 1 by rw [hM1]; exact mu_ne _ _ (by first | decide | omega))
  have q100_2_M1 : id (M1 100 2 = M 100 2) := (show M1 100 2 = M 100 2 by rw [hM1]; exact mu_ne _ _ (by first | decide | omega))
  have q100_3_M1 : id (M1 100 3 = M 100 3) := (show M1 100 3 = M 100 3 by rw [hM1]; exact mu_ne _ _ (by first | decide | omega))
  have q100_49_M1 : id (M1 100 49 = M 100 49) := (show M1 100 49 = M 100 49 by rw [hM1]; exact mu_ne _ _ (by first | decide | omega))
  have q100_50_M1 : id (M1 100 50 = M 100 50) := (show M1 100 50 = M 100 50 by rw [hM1]; exact mu_ne _ _ (by first | decide | omega))
  have q100_51_M1 : id (M1 100 51 = M 100 51) := (show M1 100 51 = M 100 51 by rw [hM1]; exact mu_ne _ _ (by first | decide | omega))
  have q100_52_M1 : id (M1 100 52 = M 100 52) := (show M1 100 52 = M 100 52 by rw [hM1]; exact mu_ne _ _ (by first | decide | omega))
  have q103_0_M1 : id (M1 103 0 = M 103 0) := (show M1 103 0 = M 103 0 by rw [hM1]; exact mu_ne _ _ (by first | decide | omega))
  have q103_1_M1 : id (M1 103 1 = M 103 1) := (show M1 103 1 = M 103 1 by rw [hM1]; exact mu_ne _ _ (by first | decide | omega))
  have q97_12_M1 : (M1 97 12 = M 97 12) := (show M1 97 12 = M 97 12 by rw [hM1]; exact mu_ne _ _ (by first | decide | omega))
  have xM1_97_0 : M1 97 0 = 0 := by rw [hM1]; exact mu_at _ _ _ _
  refine g_aload_n (pc' := 6) 0 dX10_taste_5 rfl rfl ?_
  refine g_iload_n (pc' := 7) 1 dX10_taste_6 rfl rfl ?_
  refine g_callVip (pc' := 10) (As := [vi a]) (b := 97) (S := []) dX10_taste_7 rfl m_X10_102 w_X10_isGlass (c_X10_isGlass X M1 iM1 a ha) rfl ⟨_, _, _, rfl, rfl, rfl⟩ (by decide) (by decide) rfl (Nat.le_of_ble_eq_true rfl) (fun z3 q2 => ?_)
  refine g_if_eq (pc' := 13) (tgt := 29) ⟨by omega, by omega⟩ dX10_taste_10 rfl rfl (fun c4 => ?_) (fun c4 => ?_)
  · replace q2 := q2.resolve_left (fun h => absurd (c4.symm.trans h.1) (by decide))
    refine g_iconst (pc' := 30) dX10_taste_29 rfl ?_
    refine g_ireturn dX10_taste_30 ?_
    exact ⟨iM1, fM1, q99_0_M1, q99_1_M1, q99_2_M1, q99_3_M1, q100_0_M1, q100_1_M1, q100_2_M1, q100_3_M1, q100_49_M1, q100_50_M1, q100_51_M1, q100_52_M1, q103_0_M1, q103_1_M1, q97_12_M1, by first | assumption | decide | omega⟩
  · replace q2 := q2.resolve_right (fun h => c4 h.1)
    refine g_iload_n (pc' := 14) 2 dX10_taste_13 rfl rfl ?_
    refine g_callSip (pc' := 17) (As := [vi b]) (S := []) dX10_taste_14 rfl m_X10_105 w_X10_isStuff (c_X10_isStuff X M1 b hb) rfl (by decide) (by decide) rfl (Nat.le_of_ble_eq_true rfl) (fun z6 q5 => ?_)
    refine g_if_eq (pc' := 20) (tgt := 29) ⟨by omega, by omega⟩ dX10_taste_17 rfl rfl (fun c7 => ?_) (fun c7 => ?_)
    · replace q5 := q5.resolve_left (fun h => absurd (c7.symm.trans h.1) (by decide))
      refine g_iconst (pc' := 30) dX10_taste_29 rfl ?_
      refine g_ireturn dX10_taste_30 ?_
      exact ⟨iM1, fM1, q99_0_M1, q99_1_M1, q99_2_M1, q99_3_M1, q100_0_M1, q100_1_M1, q100_2_M1, q100_3_M1, q100_49_M1, q100_50_M1, q100_51_M1, q100_52_M1, q103_0_M1, q103_1_M1, q97_12_M1, by first | assumption | decide | omega⟩
    · replace q5 := q5.resolve_right (fun h => c7 h.1)
      refine g_aload_n (pc' := 21) 0 dX10_taste_20 rfl rfl ?_
      refine g_iload_n (pc' := 22) 1 dX10_taste_21 rfl rfl ?_
      refine g_iload_n (pc' := 23) 2 dX10_taste_22 rfl rfl ?_
      refine g_callVip (pc' := 26) (As := [vi a, vi b]) (b := 97) (S := []) dX10_taste_23 rfl m_X10_112 w_X10_tasteOf (c_X10_tasteOf X M1 iM1 a ha b hb (by omega) (by omega)) rfl ⟨_, _, _, rfl, rfl, rfl⟩ (by decide) (by decide) rfl (Nat.le_of_ble_eq_true rfl) (fun z9 q8 => ?_)
      refine g_goto (tgt := 30) dX10_taste_26 rfl ?_
      refine g_ireturn dX10_taste_30 ?_
      exact ⟨iM1, fM1, q99_0_M1, q99_1_M1, q99_2_M1, q99_3_M1, q100_0_M1, q100_1_M1, q100_2_M1, q100_3_M1, q100_49_M1, q100_50_M1, q100_51_M1, q100_52_M1, q103_0_M1, q103_1_M1, q97_12_M1, by first | assumption | decide | omega⟩
set_option maxHeartbeats 4000000 in
set_option maxRecDepth 100000 in
theorem c_X10_fill (X : Cx) (M : Mm) (hi : IM M) (a : Int) (ha : inI a) (b : Int) (hb : inI b) (c : Int) (hc : inI c) : Con X 12 yX10_fill cX10_fill 4 (some .int) [vr X 97, vi a, vi b, vi c] M (Qi (fun r M1 => IM M1 ∧ Fr (fun c => 97 ≤ c ∧ c ≤ 116) M M1 ∧ M1 99 0 = M 99 0 ∧ M1 99 1 = M 99 1 ∧ M1 99 2 = M 99 2 ∧ M1 99 3 = M 99 3 ∧ M1 100 0 = M 100 0 ∧ M1 100 1 = M 100 1 ∧ M1 100 2 = M 100 2 ∧ M1 100 3 = M 100 3 ∧ M1 100 49 = M 100 49 ∧ M1 100 50 = M 100 50 ∧ M1 100 51 = M 100 51 ∧ M1 100 52 = M 100 52 ∧ M1 103 0 = M 103 0 ∧ M1 103 1 = M 103 1 ∧ M1 97 12 = M 97 12 ∧ (inI r))) := by
  refine Con.ofG rfl (Nat.le_of_ble_eq_true rfl) ?_
  show G X 12 RX10 cX10_fill 4 (some .int) (Qi (fun r M1 => IM M1 ∧ Fr (fun c => 97 ≤ c ∧ c ≤ 116) M M1 ∧ M1 99 0 = M 99 0 ∧ M1 99 1 = M 99 1 ∧ M1 99 2 = M 99 2 ∧ M1 99 3 = M 99 3 ∧ M1 100 0 = M 100 0 ∧ M1 100 1 = M 100 1 ∧ M1 100 2 = M 100 2 ∧ M1 100 3 = M 100 3 ∧ M1 100 49 = M 100 49 ∧ M1 100 50 = M 100 50 ∧ M1 100 51 = M 100 51 ∧ M1 100 52 = M 100 52 ∧ M1 103 0 = M 103 0 ∧ M1 103 1 = M 103 1 ∧ M1 97 12 = M 97 12 ∧ (inI r))) 0 [(0, vr X 97), (1, vi a), (2, vi b), (3, vi c)] [] M
  have p0 := hi.1.1
  have p1 := hi.1.2.1
  have p2 := hi.1.2.2.1
  have p3 := hi.1.2.2.2.1
  have p12 := hi.2.2.2.1
  refine g_aload_n (pc' := 1) 0 dX10_fill_0 rfl rfl ?_
  refine g_iconst (pc' := 2) dX10_fill_1 rfl ?_
  refine g_putI (pc' := 5) dX10_fill_2 rfl p_X10_77 rfl rfl (by decide) (fun M1 hM1 => ?_)
  have iM1 : IM M1 := IM.wr hi hM1 (by unfold okv; first | decide | omega)
  have fM1 : Fr (fun c => 97 ≤ c ∧ c ≤ 116) M M1 := Fr.wr Fr.rf hM1 (by first | decide | omega | (dsimp only; omega))
  have q99_0_M1 : (M1 99 0 = M 99 0) := (show M1 99 0 = M 99 0 by rw [hM1]; exact mu_ne _ _ (by first | decide | omega))
  have q99_1_M1 : (M1 99 1 = M 99 1) := (show M1 99 1 = M 99 1 by rw [hM1]; exact mu_ne _ _ (by first | decide | omega))
  have q99_2_M1 : (M1 99 2 = M 99 2) := (show M1 99 2 = M 99 2 by rw [hM1]; exact mu_ne _ _ (by first | decide | omega))
  have q99_3_M1 : (M1 99 3 = M 99 3) := (show M1 99 3 = M 99 3 by rw [hM1]; exact mu_ne _ _ (by first | decide | omega))
  have q100_0_M1 : id (M1 100 0 = M 100 0) := (show M1 100 0 = M 100 0 by rw [hM1]; exact mu_ne _ _ (by first | decide | omega))
  have q100_1_M1 : id (M1 100 1 = M 100 1) := (show M1 100 1 = M 100 1 by rw [hM1]; exact mu_ne _ _ (by first | decide | omega))
  have q100_2_M1 : id (M1 100 2 = M 100 2) := (show M1 100 2 = M 100 2 by rw [hM1]; exact mu_ne _ _ (by first | decide | omega))
  have q100_3_M1 : id (M1 100 3 = M 100 3) := (show M1 100 3 = M 100 3 by rw [hM1]; exact mu_ne _ _ (by first | decide | omega))
  have q100_49_M1 : id (M1 100 49 = M 100 49) := (show M1 100 49 = M 100 49 by rw [hM1]; exact mu_ne _ _ (by first | decide | omega))
  have q100_50_M1 : id (M1 100 50 = M 100 50) := (show M1 100 50 = M 100 50 by rw [hM1]; exact mu_ne _ _ (by first | decide | omega))
  have q100_51_M1 : id (M1 100 51 = M 100 51) := (show M1 100 51 = M 100 51 by rw [hM1]; exact mu_ne _ _ (by first | decide | omega))
  have q100_52_M1 : id (M1 100 52 = M 100 52) := (show M1 100 52 = M 100 52 by rw [hM1]; exact mu_ne _ _ (by first | decide | omega))
  have q103_0_M1 : id (M1 103 0 = M 103 0) := (show M1 103 0 = M 103 0 by rw [hM1]; exact mu_ne _ _ (by first | decide | omega))
  have q103_1_M1 : id (M1 103 1 = M 103 1) := (show M1 103 1 = M 103 1 by rw [hM1]; exact mu_ne _ _ (by first | decide | omega))
  have q97_12_M1 : (M1 97 12 = M 97 12) := (show M1 97 12 = M 97 12 by rw [hM1]; exact mu_ne _ _ (by first | decide | omega))
  have xM1_97_0 : M1 97 0 = 0 := by rw [hM1]; exact mu_at _ _ _ _
  refine g_iload_n (pc' := 6) 2 dX10_fill_5 rfl rfl ?_
  refine g_callSip (pc' := 9) (As := [vi b]) (S := []) dX10_fill_6 rfl m_X10_105 w_X10_isStuff (c_X10_isStuff X M1 b hb) rfl (by decide) (by decide) rfl (Nat.le_of_ble_eq_true rfl) (fun z3 q2 => ?_)
  refine g_if_eq (pc' := 12) (tgt := 19) ⟨by omega, by omega⟩ dX10_fill_9 rfl rfl (fun c4 => ?_) (fun c4 => ?_)
  · replace q2 := q2.resolve_left (fun h => absurd (c4.symm.trans h.1) (by decide))
    refine g_aload_n (pc' := 20) 0 dX10_fill_19 rfl rfl ?_
    refine g_iconst (pc' := 21) dX10_fill_20 rfl ?_
    refine g_callVi (pc' := 24) (As := [vi (-1)]) (b := 97) (S := []) dX10_fill_21 rfl m_X10_87 w_X10_tell (c_X10_tell X M1 iM1 (-1) (by decide) (by omega)) rfl ⟨_, _, _, rfl, rfl, rfl⟩ (by decide) (by decide) rfl (Nat.le_of_ble_eq_true rfl) (fun z6 M7 q5 => ?_)
    obtain ⟨iM7, fM70, eM7_99_0, eM7_99_1, eM7_99_2, eM7_99_3, eM7_100_0, eM7_100_1, eM7_100_2, eM7_100_3, eM7_100_49, eM7_100_50, eM7_100_51, eM7_100_52, eM7_103_0, eM7_103_1, eM7_97_12, pM7⟩ := q5
    have fM7 : Fr (fun c => 97 ≤ c ∧ c ≤ 116) M M7 := Fr.tr fM1 fM70 fi_23
    have q99_0_M7 : (M7 99 0 = M 99 0) := eM7_99_0.trans q99_0_M1
    have q99_1_M7 : (M7 99 1 = M 99 1) := eM7_99_1.trans q99_1_M1
    have q99_2_M7 : (M7 99 2 = M 99 2) := eM7_99_2.trans q99_2_M1
    have q99_3_M7 : (M7 99 3 = M 99 3) := eM7_99_3.trans q99_3_M1
    have q100_0_M7 : id (M7 100 0 = M 100 0) := eM7_100_0.trans q100_0_M1
    have q100_1_M7 : id (M7 100 1 = M 100 1) := eM7_100_1.trans q100_1_M1
    have q100_2_M7 : id (M7 100 2 = M 100 2) := eM7_100_2.trans q100_2_M1
    have q100_3_M7 : id (M7 100 3 = M 100 3) := eM7_100_3.trans q100_3_M1
    have q100_49_M7 : id (M7 100 49 = M 100 49) := eM7_100_49.trans q100_49_M1
    have q100_50_M7 : id (M7 100 50 = M 100 50) := eM7_100_50.trans q100_50_M1
    have q100_51_M7 : id (M7 100 51 = M 100 51) := eM7_100_51.trans q100_51_M1
    have q100_52_M7 : id (M7 100 52 = M 100 52) := eM7_100_52.trans q100_52_M1
    have q103_0_M7 : id (M7 103 0 = M 103 0) := eM7_103_0.trans q103_0_M1
    have q103_1_M7 : id (M7 103 1 = M 103 1) := eM7_103_1.trans q103_1_M1
    have q97_12_M7 : (M7 97 12 = M 97 12) := eM7_97_12.trans q97_12_M1
    clear eM7_100_0 eM7_100_1 eM7_100_2 eM7_100_3 eM7_100_49 eM7_100_50 eM7_100_51 eM7_100_52 eM7_103_0 eM7_103_1
    refine g_ireturn dX10_fill_24 ?_
    exact ⟨iM7, fM7, q99_0_M7, q99_1_M7, q99_2_M7, q99_3_M7, q100_0_M7, q100_1_M7, q100_2_M7, q100_3_M7, q100_49_M7, q100_50_M7, q100_51_M7, q100_52_M7, q103_0_M7, q103_1_M7, q97_12_M7, by first | assumption | decide | omega⟩
  · replace q2 := q2.resolve_right (fun h => c4 h.1)
    refine g_iload_n (pc' := 13) 3 dX10_fill_12 rfl rfl ?_
    refine g_callSip (pc' := 16) (As := [vi c]) (S := []) dX10_fill_13 rfl m_X10_95 w_X10_isAmount (c_X10_isAmount X M1 c hc) rfl (by decide) (by decide) rfl (Nat.le_of_ble_eq_true rfl) (fun z9 q8 => ?_)
    refine g_if_ne (pc' := 19) (tgt := 25) ⟨by omega, by omega⟩ dX10_fill_16 rfl rfl (fun c10 => ?_) (fun c10 => ?_)
    · replace q8 := q8.resolve_right (fun h => c10 h.1)
      refine g_aload_n (pc' := 26) 0 dX10_fill_25 rfl rfl ?_
      refine g_iload_n (pc' := 27) 1 dX10_fill_26 rfl rfl ?_
      refine g_callVip (pc' := 30) (As := [vi a]) (b := 97) (S := []) dX10_fill_27 rfl m_X10_102 w_X10_isGlass (c_X10_isGlass X M1 iM1 a ha) rfl ⟨_, _, _, rfl, rfl, rfl⟩ (by decide) (by decide) rfl (Nat.le_of_ble_eq_true rfl) (fun z12 q11 => ?_)
      refine g_if_ne (pc' := 33) (tgt := 40) ⟨by omega, by omega⟩ dX10_fill_30 rfl rfl (fun c13 => ?_) (fun c13 => ?_)
      · replace q11 := q11.resolve_right (fun h => c13 h.1)
        refine g_aload_n (pc' := 41) 0 dX10_fill_40 rfl rfl ?_
        refine g_aload_n (pc' := 42) 0 dX10_fill_41 rfl rfl ?_
        refine g_iload_n (pc' := 43) 1 dX10_fill_42 rfl rfl ?_
        refine g_iload_n (pc' := 44) 2 dX10_fill_43 rfl rfl ?_
        refine g_iload_n (pc' := 45) 3 dX10_fill_44 rfl rfl ?_
        refine g_callVi (pc' := 48) (As := [vi a, vi b, vi c]) (b := 97) (S := [vr X 97]) dX10_fill_45 rfl m_X10_135 w_X10_filled (c_X10_filled X M1 iM1 a ha b hb c hc (by omega) (by omega) (by omega)) rfl ⟨_, _, _, rfl, rfl, rfl⟩ (by decide) (by decide) rfl (Nat.le_of_ble_eq_true rfl) (fun z15 M16 q14 => ?_)
        obtain ⟨iM16, fM160, pM16⟩ := q14
        have fM16 : Fr (fun c => 97 ≤ c ∧ c ≤ 116) M M16 := Fr.tr fM1 fM160 fi_24
        have q99_0_M16 : (M16 99 0 = M 99 0) := (congrFun (fM160 99 (by first | decide | omega | (dsimp only; omega))) 0).trans q99_0_M1
        have q99_1_M16 : (M16 99 1 = M 99 1) := (congrFun (fM160 99 (by first | decide | omega | (dsimp only; omega))) 1).trans q99_1_M1
        have q99_2_M16 : (M16 99 2 = M 99 2) := (congrFun (fM160 99 (by first | decide | omega | (dsimp only; omega))) 2).trans q99_2_M1
        have q99_3_M16 : (M16 99 3 = M 99 3) := (congrFun (fM160 99 (by first | decide | omega | (dsimp only; omega))) 3).trans q99_3_M1
        have q100_0_M16 : id (M16 100 0 = M 100 0) := (congrFun (fM160 100 (by first | decide | omega | (dsimp only; omega))) 0).trans q100_0_M1
        have q100_1_M16 : id (M16 100 1 = M 100 1) := (congrFun (fM160 100 (by first | decide | omega | (dsimp only; omega))) 1).trans q100_1_M1
        have q100_2_M16 : id (M16 100 2 = M 100 2) := (congrFun (fM160 100 (by first | decide | omega | (dsimp only; omega))) 2).trans q100_2_M1
        have q100_3_M16 : id (M16 100 3 = M 100 3) := (congrFun (fM160 100 (by first | decide | omega | (dsimp only; omega))) 3).trans q100_3_M1
        have q100_49_M16 : id (M16 100 49 = M 100 49) := (congrFun (fM160 100 (by first | decide | omega | (dsimp only; omega))) 49).trans q100_49_M1
        have q100_50_M16 : id (M16 100 50 = M 100 50) := (congrFun (fM160 100 (by first | decide | omega | (dsimp only; omega))) 50).trans q100_50_M1
        have q100_51_M16 : id (M16 100 51 = M 100 51) := (congrFun (fM160 100 (by first | decide | omega | (dsimp only; omega))) 51).trans q100_51_M1
        have q100_52_M16 : id (M16 100 52 = M 100 52) := (congrFun (fM160 100 (by first | decide | omega | (dsimp only; omega))) 52).trans q100_52_M1
        have q103_0_M16 : id (M16 103 0 = M 103 0) := (congrFun (fM160 103 (by first | decide | omega | (dsimp only; omega))) 0).trans q103_0_M1
        have q103_1_M16 : id (M16 103 1 = M 103 1) := (congrFun (fM160 103 (by first | decide | omega | (dsimp only; omega))) 1).trans q103_1_M1
        have q97_12_M16 : (M16 97 12 = M 97 12) := (congrFun (fM160 97 (by first | decide | omega | (dsimp only; omega))) 12).trans q97_12_M1
        have xM16_97_0 : M16 97 0 = 0 := (congrFun (fM160 97 (by first | decide | omega | (dsimp only; omega))) 0).trans xM1_97_0
        refine g_if_ge (pc' := 51) (tgt := 56) ⟨by omega, by omega⟩ dX10_fill_48 rfl rfl (fun c17 => ?_) (fun c17 => ?_)
        · refine g_aload_n (pc' := 57) 0 dX10_fill_56 rfl rfl ?_
          refine g_iload_n (pc' := 58) 1 dX10_fill_57 rfl rfl ?_
          refine g_callVip (pc' := 61) (As := [vi a]) (b := 97) (S := [vr X 97]) dX10_fill_58 rfl m_X10_99 w_X10_full (c_X10_full X M16 iM16 a ha ⟨by omega, by omega⟩) rfl ⟨_, _, _, rfl, rfl, rfl⟩ (by decide) (by decide) rfl (Nat.le_of_ble_eq_true rfl) (fun z19 q18 => ?_)
          refine g_callVi (pc' := 64) (As := [vi z19]) (b := 97) (S := []) dX10_fill_61 rfl m_X10_87 w_X10_tell (c_X10_tell X M16 iM16 z19 ⟨by omega, by omega⟩ (by omega)) rfl ⟨_, _, _, rfl, rfl, rfl⟩ (by decide) (by decide) rfl (Nat.le_of_ble_eq_true rfl) (fun z21 M22 q20 => ?_)
          obtain ⟨iM22, fM220, eM22_99_0, eM22_99_1, eM22_99_2, eM22_99_3, eM22_100_0, eM22_100_1, eM22_100_2, eM22_100_3, eM22_100_49, eM22_100_50, eM22_100_51, eM22_100_52, eM22_103_0, eM22_103_1, eM22_97_12, pM22⟩ := q20
          have fM22 : Fr (fun c => 97 ≤ c ∧ c ≤ 116) M M22 := Fr.tr fM16 fM220 fi_23
          have q99_0_M22 : (M22 99 0 = M 99 0) := eM22_99_0.trans q99_0_M16
          have q99_1_M22 : (M22 99 1 = M 99 1) := eM22_99_1.trans q99_1_M16
          have q99_2_M22 : (M22 99 2 = M 99 2) := eM22_99_2.trans q99_2_M16
          have q99_3_M22 : (M22 99 3 = M 99 3) := eM22_99_3.trans q99_3_M16
          have q100_0_M22 : id (M22 100 0 = M 100 0) := eM22_100_0.trans q100_0_M16
          have q100_1_M22 : id (M22 100 1 = M 100 1) := eM22_100_1.trans q100_1_M16
          have q100_2_M22 : id (M22 100 2 = M 100 2) := eM22_100_2.trans q100_2_M16
          have q100_3_M22 : id (M22 100 3 = M 100 3) := eM22_100_3.trans q100_3_M16
          have q100_49_M22 : id (M22 100 49 = M 100 49) := eM22_100_49.trans q100_49_M16
          have q100_50_M22 : id (M22 100 50 = M 100 50) := eM22_100_50.trans q100_50_M16
          have q100_51_M22 : id (M22 100 51 = M 100 51) := eM22_100_51.trans q100_51_M16
          have q100_52_M22 : id (M22 100 52 = M 100 52) := eM22_100_52.trans q100_52_M16
          have q103_0_M22 : id (M22 103 0 = M 103 0) := eM22_103_0.trans q103_0_M16
          have q103_1_M22 : id (M22 103 1 = M 103 1) := eM22_103_1.trans q103_1_M16
          have q97_12_M22 : (M22 97 12 = M 97 12) := eM22_97_12.trans q97_12_M16
          clear eM22_100_0 eM22_100_1 eM22_100_2 eM22_100_3 eM22_100_49 eM22_100_50 eM22_100_51 eM22_100_52 eM22_103_0 eM22_103_1
          refine g_ireturn dX10_fill_64 ?_
          exact ⟨iM22, fM22, q99_0_M22, q99_1_M22, q99_2_M22, q99_3_M22, q100_0_M22, q100_1_M22, q100_2_M22, q100_3_M22, q100_49_M22, q100_50_M22, q100_51_M22, q100_52_M22, q103_0_M22, q103_1_M22, q97_12_M22, by first | assumption | decide | omega⟩
        · refine g_bipush (pc' := 53) (v := (-3)) dX10_fill_51 rfl (by decide) ?_
          refine g_goto (tgt := 61) dX10_fill_53 rfl ?_
          refine g_callVi (pc' := 64) (As := [vi (-3)]) (b := 97) (S := []) dX10_fill_61 rfl m_X10_87 w_X10_tell (c_X10_tell X M16 iM16 (-3) (by decide) (by omega)) rfl ⟨_, _, _, rfl, rfl, rfl⟩ (by decide) (by decide) rfl (Nat.le_of_ble_eq_true rfl) (fun z24 M25 q23 => ?_)
          obtain ⟨iM25, fM250, eM25_99_0, eM25_99_1, eM25_99_2, eM25_99_3, eM25_100_0, eM25_100_1, eM25_100_2, eM25_100_3, eM25_100_49, eM25_100_50, eM25_100_51, eM25_100_52, eM25_103_0, eM25_103_1, eM25_97_12, pM25⟩ := q23
          have fM25 : Fr (fun c => 97 ≤ c ∧ c ≤ 116) M M25 := Fr.tr fM16 fM250 fi_23
          have q99_0_M25 : (M25 99 0 = M 99 0) := eM25_99_0.trans q99_0_M16
          have q99_1_M25 : (M25 99 1 = M 99 1) := eM25_99_1.trans q99_1_M16
          have q99_2_M25 : (M25 99 2 = M 99 2) := eM25_99_2.trans q99_2_M16
          have q99_3_M25 : (M25 99 3 = M 99 3) := eM25_99_3.trans q99_3_M16
          have q100_0_M25 : id (M25 100 0 = M 100 0) := eM25_100_0.trans q100_0_M16
          have q100_1_M25 : id (M25 100 1 = M 100 1) := eM25_100_1.trans q100_1_M16
          have q100_2_M25 : id (M25 100 2 = M 100 2) := eM25_100_2.trans q100_2_M16
          have q100_3_M25 : id (M25 100 3 = M 100 3) := eM25_100_3.trans q100_3_M16
          have q100_49_M25 : id (M25 100 49 = M 100 49) := eM25_100_49.trans q100_49_M16
          have q100_50_M25 : id (M25 100 50 = M 100 50) := eM25_100_50.trans q100_50_M16
          have q100_51_M25 : id (M25 100 51 = M 100 51) := eM25_100_51.trans q100_51_M16
          have q100_52_M25 : id (M25 100 52 = M 100 52) := eM25_100_52.trans q100_52_M16
          have q103_0_M25 : id (M25 103 0 = M 103 0) := eM25_103_0.trans q103_0_M16
          have q103_1_M25 : id (M25 103 1 = M 103 1) := eM25_103_1.trans q103_1_M16
          have q97_12_M25 : (M25 97 12 = M 97 12) := eM25_97_12.trans q97_12_M16
          clear eM25_100_0 eM25_100_1 eM25_100_2 eM25_100_3 eM25_100_49 eM25_100_50 eM25_100_51 eM25_100_52 eM25_103_0 eM25_103_1
          refine g_ireturn dX10_fill_64 ?_
          exact ⟨iM25, fM25, q99_0_M25, q99_1_M25, q99_2_M25, q99_3_M25, q100_0_M25, q100_1_M25, q100_2_M25, q100_3_M25, q100_49_M25, q100_50_M25, q100_51_M25, q100_52_M25, q103_0_M25, q103_1_M25, q97_12_M25, by first | assumption | decide | omega⟩
      · replace q11 := q11.resolve_left (fun h => absurd (c13.symm.trans h.1) (by decide))
        refine g_aload_n (pc' := 34) 0 dX10_fill_33 rfl rfl ?_
        refine g_bipush (pc' := 36) (v := (-2)) dX10_fill_34 rfl (by decide) ?_
        refine g_callVi (pc' := 39) (As := [vi (-2)]) (b := 97) (S := []) dX10_fill_36 rfl m_X10_87 w_X10_tell (c_X10_tell X M1 iM1 (-2) (by decide) (by omega)) rfl ⟨_, _, _, rfl, rfl, rfl⟩ (by decide) (by decide) rfl (Nat.le_of_ble_eq_true rfl) (fun z27 M28 q26 => ?_)
        obtain ⟨iM28, fM280, eM28_99_0, eM28_99_1, eM28_99_2, eM28_99_3, eM28_100_0, eM28_100_1, eM28_100_2, eM28_100_3, eM28_100_49, eM28_100_50, eM28_100_51, eM28_100_52, eM28_103_0, eM28_103_1, eM28_97_12, pM28⟩ := q26
        have fM28 : Fr (fun c => 97 ≤ c ∧ c ≤ 116) M M28 := Fr.tr fM1 fM280 fi_23
        have q99_0_M28 : (M28 99 0 = M 99 0) := eM28_99_0.trans q99_0_M1
        have q99_1_M28 : (M28 99 1 = M 99 1) := eM28_99_1.trans q99_1_M1
        have q99_2_M28 : (M28 99 2 = M 99 2) := eM28_99_2.trans q99_2_M1
        have q99_3_M28 : (M28 99 3 = M 99 3) := eM28_99_3.trans q99_3_M1
        have q100_0_M28 : id (M28 100 0 = M 100 0) := eM28_100_0.trans q100_0_M1
        have q100_1_M28 : id (M28 100 1 = M 100 1) := eM28_100_1.trans q100_1_M1
        have q100_2_M28 : id (M28 100 2 = M 100 2) := eM28_100_2.trans q100_2_M1
        have q100_3_M28 : id (M28 100 3 = M 100 3) := eM28_100_3.trans q100_3_M1
        have q100_49_M28 : id (M28 100 49 = M 100 49) := eM28_100_49.trans q100_49_M1
        have q100_50_M28 : id (M28 100 50 = M 100 50) := eM28_100_50.trans q100_50_M1
        have q100_51_M28 : id (M28 100 51 = M 100 51) := eM28_100_51.trans q100_51_M1
        have q100_52_M28 : id (M28 100 52 = M 100 52) := eM28_100_52.trans q100_52_M1
        have q103_0_M28 : id (M28 103 0 = M 103 0) := eM28_103_0.trans q103_0_M1
        have q103_1_M28 : id (M28 103 1 = M 103 1) := eM28_103_1.trans q103_1_M1
        have q97_12_M28 : (M28 97 12 = M 97 12) := eM28_97_12.trans q97_12_M1
        clear eM28_100_0 eM28_100_1 eM28_100_2 eM28_100_3 eM28_100_49 eM28_100_50 eM28_100_51 eM28_100_52 eM28_103_0 eM28_103_1
        refine g_ireturn dX10_fill_39 ?_
        exact ⟨iM28, fM28, q99_0_M28, q99_1_M28, q99_2_M28, q99_3_M28, q100_0_M28, q100_1_M28, q100_2_M28, q100_3_M28, q100_49_M28, q100_50_M28, q100_51_M28, q100_52_M28, q103_0_M28, q103_1_M28, q97_12_M28, by first | assumption | decide | omega⟩
    · replace q8 := q8.resolve_left (fun h => absurd (c10.symm.trans h.1) (by decide))
      refine g_aload_n (pc' := 20) 0 dX10_fill_19 rfl rfl ?_
      refine g_iconst (pc' := 21) dX10_fill_20 rfl ?_
      refine g_callVi (pc' := 24) (As := [vi (-1)]) (b := 97) (S := []) dX10_fill_21 rfl m_X10_87 w_X10_tell (c_X10_tell X M1 iM1 (-1) (by decide) (by omega)) rfl ⟨_, _, _, rfl, rfl, rfl⟩ (by decide) (by decide) rfl (Nat.le_of_ble_eq_true rfl) (fun z30 M31 q29 => ?_)
      obtain ⟨iM31, fM310, eM31_99_0, eM31_99_1, eM31_99_2, eM31_99_3, eM31_100_0, eM31_100_1, eM31_100_2, eM31_100_3, eM31_100_49, eM31_100_50, eM31_100_51, eM31_100_52, eM31_103_0, eM31_103_1, eM31_97_12, pM31⟩ := q29
      have fM31 : Fr (fun c => 97 ≤ c ∧ c ≤ 116) M M31 := Fr.tr fM1 fM310 fi_23
      have q99_0_M31 : (M31 99 0 = M 99 0) := eM31_99_0.trans q99_0_M1
      have q99_1_M31 : (M31 99 1 = M 99 1) := eM31_99_1.trans q99_1_M1
      have q99_2_M31 : (M31 99 2 = M 99 2) := eM31_99_2.trans q99_2_M1
      have q99_3_M31 : (M31 99 3 = M 99 3) := eM31_99_3.trans q99_3_M1
      have q100_0_M31 : id (M31 100 0 = M 100 0) := eM31_100_0.trans q100_0_M1
      have q100_1_M31 : id (M31 100 1 = M 100 1) := eM31_100_1.trans q100_1_M1
      have q100_2_M31 : id (M31 100 2 = M 100 2) := eM31_100_2.trans q100_2_M1
      have q100_3_M31 : id (M31 100 3 = M 100 3) := eM31_100_3.trans q100_3_M1
      have q100_49_M31 : id (M31 100 49 = M 100 49) := eM31_100_49.trans q100_49_M1
      have q100_50_M31 : id (M31 100 50 = M 100 50) := eM31_100_50.trans q100_50_M1
      have q100_51_M31 : id (M31 100 51 = M 100 51) := eM31_100_51.trans q100_51_M1
      have q100_52_M31 : id (M31 100 52 = M 100 52) := eM31_100_52.trans q100_52_M1
      have q103_0_M31 : id (M31 103 0 = M 103 0) := eM31_103_0.trans q103_0_M1
      have q103_1_M31 : id (M31 103 1 = M 103 1) := eM31_103_1.trans q103_1_M1
      have q97_12_M31 : (M31 97 12 = M 97 12) := eM31_97_12.trans q97_12_M1
      clear eM31_100_0 eM31_100_1 eM31_100_2 eM31_100_3 eM31_100_49 eM31_100_50 eM31_100_51 eM31_100_52 eM31_103_0 eM31_103_1
      refine g_ireturn dX10_fill_24 ?_
      exact ⟨iM31, fM31, q99_0_M31, q99_1_M31, q99_2_M31, q99_3_M31, q100_0_M31, q100_1_M31, q100_2_M31, q100_3_M31, q100_49_M31, q100_50_M31, q100_51_M31, q100_52_M31, q103_0_M31, q103_1_M31, q97_12_M31, by first | assumption | decide | omega⟩
set_option maxHeartbeats 4000000 in
set_option maxRecDepth 100000 in
theorem c_X10_spoon (X : Cx) (M : Mm) (hi : IM M) (a : Int) (ha : inI a) (b : Int) (hb : inI b) (c : Int) (hc : inI c) : Con X 12 yX10_spoon cX10_spoon 5 (some .int) [vr X 97, vi a, vi b, vi c] M (Qi (fun r M1 => IM M1 ∧ Fr (fun c => 97 ≤ c ∧ c ≤ 116) M M1 ∧ M1 99 0 = M 99 0 ∧ M1 99 1 = M 99 1 ∧ M1 99 2 = M 99 2 ∧ M1 99 3 = M 99 3 ∧ M1 100 0 = M 100 0 ∧ M1 100 1 = M 100 1 ∧ M1 100 2 = M 100 2 ∧ M1 100 3 = M 100 3 ∧ M1 100 49 = M 100 49 ∧ M1 100 50 = M 100 50 ∧ M1 100 51 = M 100 51 ∧ M1 100 52 = M 100 52 ∧ M1 103 0 = M 103 0 ∧ M1 103 1 = M 103 1 ∧ M1 97 12 = M 97 12 ∧ (inI r))) := by
  refine Con.ofG rfl (Nat.le_of_ble_eq_true rfl) ?_
  show G X 12 RX10 cX10_spoon 5 (some .int) (Qi (fun r M1 => IM M1 ∧ Fr (fun c => 97 ≤ c ∧ c ≤ 116) M M1 ∧ M1 99 0 = M 99 0 ∧ M1 99 1 = M 99 1 ∧ M1 99 2 = M 99 2 ∧ M1 99 3 = M 99 3 ∧ M1 100 0 = M 100 0 ∧ M1 100 1 = M 100 1 ∧ M1 100 2 = M 100 2 ∧ M1 100 3 = M 100 3 ∧ M1 100 49 = M 100 49 ∧ M1 100 50 = M 100 50 ∧ M1 100 51 = M 100 51 ∧ M1 100 52 = M 100 52 ∧ M1 103 0 = M 103 0 ∧ M1 103 1 = M 103 1 ∧ M1 97 12 = M 97 12 ∧ (inI r))) 0 [(0, vr X 97), (1, vi a), (2, vi b), (3, vi c)] [] M
  have p0 := hi.1.1
  have p1 := hi.1.2.1
  have p2 := hi.1.2.2.1
  have p3 := hi.1.2.2.2.1
  have p12 := hi.2.2.2.1
  refine g_aload_n (pc' := 1) 0 dX10_spoon_0 rfl rfl ?_
  refine g_iconst (pc' := 2) dX10_spoon_1 rfl ?_
  refine g_putI (pc' := 5) dX10_spoon_2 rfl p_X10_77 rfl rfl (by decide) (fun M1 hM1 => ?_)
  have iM1 : IM M1 := IM.wr hi hM1 (by unfold okv; first | decide | omega)
  have fM1 : Fr (fun c => 97 ≤ c ∧ c ≤ 116) M M1 := Fr.wr Fr.rf hM1 (by first | decide | omega | (dsimp only; omega))
  have q99_0_M1 : (M1 99 0 = M 99 0) := (show M1 99 0 = M 99 0 by rw [hM1]; exact mu_ne _ _ (by first | decide | omega))
  have q99_1_M1 : (M1 99 1 = M 99 1) := (show M1 99 1 = M 99 1 by rw [hM1]; exact mu_ne _ _ (by first | decide | omega))
  have q99_2_M1 : (M1 99 2 = M 99 2) := (show M1 99 2 = M 99 2 by rw [hM1]; exact mu_ne _ _ (by first | decide | omega))
  have q99_3_M1 : (M1 99 3 = M 99 3) := (show M1 99 3 = M 99 3 by rw [hM1]; exact mu_ne _ _ (by first | decide | omega))
  have q100_0_M1 : id (M1 100 0 = M 100 0) := (show M1 100 0 = M 100 0 by rw [hM1]; exact mu_ne _ _ (by first | decide | omega))
  have q100_1_M1 : id (M1 100 1 = M 100 1) := (show M1 100 1 = M 100 1 by rw [hM1]; exact mu_ne _ _ (by first | decide | omega))
  have q100_2_M1 : id (M1 100 2 = M 100 2) := (show M1 100 2 = M 100 2 by rw [hM1]; exact mu_ne _ _ (by first | decide | omega))
  have q100_3_M1 : id (M1 100 3 = M 100 3) := (show M1 100 3 = M 100 3 by rw [hM1]; exact mu_ne _ _ (by first | decide | omega))
  have q100_49_M1 : id (M1 100 49 = M 100 49) := (show M1 100 49 = M 100 49 by rw [hM1]; exact mu_ne _ _ (by first | decide | omega))
  have q100_50_M1 : id (M1 100 50 = M 100 50) := (show M1 100 50 = M 100 50 by rw [hM1]; exact mu_ne _ _ (by first | decide | omega))
  have q100_51_M1 : id (M1 100 51 = M 100 51) := (show M1 100 51 = M 100 51 by rw [hM1]; exact mu_ne _ _ (by first | decide | omega))
  have q100_52_M1 : id (M1 100 52 = M 100 52) := (show M1 100 52 = M 100 52 by rw [hM1]; exact mu_ne _ _ (by first | decide | omega))
  have q103_0_M1 : id (M1 103 0 = M 103 0) := (show M1 103 0 = M 103 0 by rw [hM1]; exact mu_ne _ _ (by first | decide | omega))
  have q103_1_M1 : id (M1 103 1 = M 103 1) := (show M1 103 1 = M 103 1 by rw [hM1]; exact mu_ne _ _ (by first | decide | omega))
  have q97_12_M1 : (M1 97 12 = M 97 12) := (show M1 97 12 = M 97 12 by rw [hM1]; exact mu_ne _ _ (by first | decide | omega))
  have xM1_97_0 : M1 97 0 = 0 := by rw [hM1]; exact mu_at _ _ _ _
  refine g_iload_n (pc' := 6) 3 dX10_spoon_5 rfl rfl ?_
  refine g_callSip (pc' := 9) (As := [vi c]) (S := []) dX10_spoon_6 rfl m_X10_95 w_X10_isAmount (c_X10_isAmount X M1 c hc) rfl (by decide) (by decide) rfl (Nat.le_of_ble_eq_true rfl) (fun z3 q2 => ?_)
  refine g_if_ne (pc' := 12) (tgt := 18) ⟨by omega, by omega⟩ dX10_spoon_9 rfl rfl (fun c4 => ?_) (fun c4 => ?_)
  · replace q2 := q2.resolve_right (fun h => c4 h.1)
    refine g_aload_n (pc' := 19) 0 dX10_spoon_18 rfl rfl ?_
    refine g_iload_n (pc' := 20) 1 dX10_spoon_19 rfl rfl ?_
    refine g_callVip (pc' := 23) (As := [vi a]) (b := 97) (S := []) dX10_spoon_20 rfl m_X10_102 w_X10_isGlass (c_X10_isGlass X M1 iM1 a ha) rfl ⟨_, _, _, rfl, rfl, rfl⟩ (by decide) (by decide) rfl (Nat.le_of_ble_eq_true rfl) (fun z6 q5 => ?_)
    refine g_if_eq (pc' := 26) (tgt := 34) ⟨by omega, by omega⟩ dX10_spoon_23 rfl rfl (fun c7 => ?_) (fun c7 => ?_)
    · replace q5 := q5.resolve_left (fun h => absurd (c7.symm.trans h.1) (by decide))
      refine g_aload_n (pc' := 35) 0 dX10_spoon_34 rfl rfl ?_
      refine g_bipush (pc' := 37) (v := (-2)) dX10_spoon_35 rfl (by decide) ?_
      refine g_callVi (pc' := 40) (As := [vi (-2)]) (b := 97) (S := []) dX10_spoon_37 rfl m_X10_87 w_X10_tell (c_X10_tell X M1 iM1 (-2) (by decide) (by omega)) rfl ⟨_, _, _, rfl, rfl, rfl⟩ (by decide) (by decide) rfl (Nat.le_of_ble_eq_true rfl) (fun z9 M10 q8 => ?_)
      obtain ⟨iM10, fM100, eM10_99_0, eM10_99_1, eM10_99_2, eM10_99_3, eM10_100_0, eM10_100_1, eM10_100_2, eM10_100_3, eM10_100_49, eM10_100_50, eM10_100_51, eM10_100_52, eM10_103_0, eM10_103_1, eM10_97_12, pM10⟩ := q8
      have fM10 : Fr (fun c => 97 ≤ c ∧ c ≤ 116) M M10 := Fr.tr fM1 fM100 fi_23
      have q99_0_M10 : (M10 99 0 = M 99 0) := eM10_99_0.trans q99_0_M1
      have q99_1_M10 : (M10 99 1 = M 99 1) := eM10_99_1.trans q99_1_M1
      have q99_2_M10 : (M10 99 2 = M 99 2) := eM10_99_2.trans q99_2_M1
      have q99_3_M10 : (M10 99 3 = M 99 3) := eM10_99_3.trans q99_3_M1
      have q100_0_M10 : id (M10 100 0 = M 100 0) := eM10_100_0.trans q100_0_M1
      have q100_1_M10 : id (M10 100 1 = M 100 1) := eM10_100_1.trans q100_1_M1
      have q100_2_M10 : id (M10 100 2 = M 100 2) := eM10_100_2.trans q100_2_M1
      have q100_3_M10 : id (M10 100 3 = M 100 3) := eM10_100_3.trans q100_3_M1
      have q100_49_M10 : id (M10 100 49 = M 100 49) := eM10_100_49.trans q100_49_M1
      have q100_50_M10 : id (M10 100 50 = M 100 50) := eM10_100_50.trans q100_50_M1
      have q100_51_M10 : id (M10 100 51 = M 100 51) := eM10_100_51.trans q100_51_M1
      have q100_52_M10 : id (M10 100 52 = M 100 52) := eM10_100_52.trans q100_52_M1
      have q103_0_M10 : id (M10 103 0 = M 103 0) := eM10_103_0.trans q103_0_M1
      have q103_1_M10 : id (M10 103 1 = M 103 1) := eM10_103_1.trans q103_1_M1
      have q97_12_M10 : (M10 97 12 = M 97 12) := eM10_97_12.trans q97_12_M1
      clear eM10_100_0 eM10_100_1 eM10_100_2 eM10_100_3 eM10_100_49 eM10_100_50 eM10_100_51 eM10_100_52 eM10_103_0 eM10_103_1
      refine g_ireturn dX10_spoon_40 ?_
      exact ⟨iM10, fM10, q99_0_M10, q99_1_M10, q99_2_M10, q99_3_M10, q100_0_M10, q100_1_M10, q100_2_M10, q100_3_M10, q100_49_M10, q100_50_M10, q100_51_M10, q100_52_M10, q103_0_M10, q103_1_M10, q97_12_M10, by first | assumption | decide | omega⟩
    · replace q5 := q5.resolve_right (fun h => c7 h.1)
      refine g_aload_n (pc' := 27) 0 dX10_spoon_26 rfl rfl ?_
      refine g_iload_n (pc' := 28) 2 dX10_spoon_27 rfl rfl ?_
      refine g_callVip (pc' := 31) (As := [vi b]) (b := 97) (S := []) dX10_spoon_28 rfl m_X10_102 w_X10_isGlass (c_X10_isGlass X M1 iM1 b hb) rfl ⟨_, _, _, rfl, rfl, rfl⟩ (by decide) (by decide) rfl (Nat.le_of_ble_eq_true rfl) (fun z12 q11 => ?_)
      refine g_if_ne (pc' := 34) (tgt := 41) ⟨by omega, by omega⟩ dX10_spoon_31 rfl rfl (fun c13 => ?_) (fun c13 => ?_)
      · replace q11 := q11.resolve_right (fun h => c13 h.1)
        refine g_aload_n (pc' := 42) 0 dX10_spoon_41 rfl rfl ?_
        refine g_iload_n (pc' := 43) 1 dX10_spoon_42 rfl rfl ?_
        refine g_iload_n (pc' := 44) 2 dX10_spoon_43 rfl rfl ?_
        refine g_iload_n (pc' := 45) 3 dX10_spoon_44 rfl rfl ?_
        refine g_callVi (pc' := 48) (As := [vi a, vi b, vi c]) (b := 97) (S := []) dX10_spoon_45 rfl m_X10_139 w_X10_spooned (c_X10_spooned X M1 iM1 a ha b hb c hc (by omega) (by omega) (by omega)) rfl ⟨_, _, _, rfl, rfl, rfl⟩ (by decide) (by decide) rfl (Nat.le_of_ble_eq_true rfl) (fun z15 M16 q14 => ?_)
        obtain ⟨iM16, fM160, pM16⟩ := q14
        have fM16 : Fr (fun c => 97 ≤ c ∧ c ≤ 116) M M16 := Fr.tr fM1 fM160 fi_25
        have q99_0_M16 : (M16 99 0 = M 99 0) := (congrFun (fM160 99 (by first | decide | omega | (dsimp only; omega))) 0).trans q99_0_M1
        have q99_1_M16 : (M16 99 1 = M 99 1) := (congrFun (fM160 99 (by first | decide | omega | (dsimp only; omega))) 1).trans q99_1_M1
        have q99_2_M16 : (M16 99 2 = M 99 2) := (congrFun (fM160 99 (by first | decide | omega | (dsimp only; omega))) 2).trans q99_2_M1
        have q99_3_M16 : (M16 99 3 = M 99 3) := (congrFun (fM160 99 (by first | decide | omega | (dsimp only; omega))) 3).trans q99_3_M1
        have q100_0_M16 : id (M16 100 0 = M 100 0) := (congrFun (fM160 100 (by first | decide | omega | (dsimp only; omega))) 0).trans q100_0_M1
        have q100_1_M16 : id (M16 100 1 = M 100 1) := (congrFun (fM160 100 (by first | decide | omega | (dsimp only; omega))) 1).trans q100_1_M1
        have q100_2_M16 : id (M16 100 2 = M 100 2) := (congrFun (fM160 100 (by first | decide | omega | (dsimp only; omega))) 2).trans q100_2_M1
        have q100_3_M16 : id (M16 100 3 = M 100 3) := (congrFun (fM160 100 (by first | decide | omega | (dsimp only; omega))) 3).trans q100_3_M1
        have q100_49_M16 : id (M16 100 49 = M 100 49) := (congrFun (fM160 100 (by first | decide | omega | (dsimp only; omega))) 49).trans q100_49_M1
        have q100_50_M16 : id (M16 100 50 = M 100 50) := (congrFun (fM160 100 (by first | decide | omega | (dsimp only; omega))) 50).trans q100_50_M1
        have q100_51_M16 : id (M16 100 51 = M 100 51) := (congrFun (fM160 100 (by first | decide | omega | (dsimp only; omega))) 51).trans q100_51_M1
        have q100_52_M16 : id (M16 100 52 = M 100 52) := (congrFun (fM160 100 (by first | decide | omega | (dsimp only; omega))) 52).trans q100_52_M1
        have q103_0_M16 : id (M16 103 0 = M 103 0) := (congrFun (fM160 103 (by first | decide | omega | (dsimp only; omega))) 0).trans q103_0_M1
        have q103_1_M16 : id (M16 103 1 = M 103 1) := (congrFun (fM160 103 (by first | decide | omega | (dsimp only; omega))) 1).trans q103_1_M1
        have q97_12_M16 : (M16 97 12 = M 97 12) := (congrFun (fM160 97 (by first | decide | omega | (dsimp only; omega))) 12).trans q97_12_M1
        have xM16_97_0 : M16 97 0 = 0 := (congrFun (fM160 97 (by first | decide | omega | (dsimp only; omega))) 0).trans xM1_97_0
        refine g_istore (pc' := 50) (L' := [(4, vi z15), (0, vr X 97), (1, vi a), (2, vi b), (3, vi c)]) dX10_spoon_48 rfl (by decide) rfl ?_
        refine g_aload_n (pc' := 51) 1 dX10_spoon_50 rfl rfl ?_
        refine g_iload (pc' := 53) 0 dX10_spoon_51 rfl rfl ?_
        refine g_if_ge (pc' := 56) (tgt := 61) ⟨by omega, by omega⟩ dX10_spoon_53 rfl rfl (fun c17 => ?_) (fun c17 => ?_)
        · refine g_aload_n (pc' := 62) 1 dX10_spoon_61 rfl rfl ?_
          refine g_iload_n (pc' := 63) 3 dX10_spoon_62 rfl rfl ?_
          refine g_callVip (pc' := 66) (As := [vi b]) (b := 97) (S := [vr X 97]) dX10_spoon_63 rfl m_X10_99 w_X10_full (c_X10_full X M16 iM16 b hb ⟨by omega, by omega⟩) rfl ⟨_, _, _, rfl, rfl, rfl⟩ (by decide) (by decide) rfl (Nat.le_of_ble_eq_true rfl) (fun z19 q18 => ?_)
          refine g_callVi (pc' := 69) (As := [vi z19]) (b := 97) (S := []) dX10_spoon_66 rfl m_X10_87 w_X10_tell (c_X10_tell X M16 iM16 z19 ⟨by omega, by omega⟩ (by omega)) rfl ⟨_, _, _, rfl, rfl, rfl⟩ (by decide) (by decide) rfl (Nat.le_of_ble_eq_true rfl) (fun z21 M22 q20 => ?_)
          obtain ⟨iM22, fM220, eM22_99_0, eM22_99_1, eM22_99_2, eM22_99_3, eM22_100_0, eM22_100_1, eM22_100_2, eM22_100_3, eM22_100_49, eM22_100_50, eM22_100_51, eM22_100_52, eM22_103_0, eM22_103_1, eM22_97_12, pM22⟩ := q20
          have fM22 : Fr (fun c => 97 ≤ c ∧ c ≤ 116) M M22 := Fr.tr fM16 fM220 fi_23
          have q99_0_M22 : (M22 99 0 = M 99 0) := eM22_99_0.trans q99_0_M16
          have q99_1_M22 : (M22 99 1 = M 99 1) := eM22_99_1.trans q99_1_M16
          have q99_2_M22 : (M22 99 2 = M 99 2) := eM22_99_2.trans q99_2_M16
          have q99_3_M22 : (M22 99 3 = M 99 3) := eM22_99_3.trans q99_3_M16
          have q100_0_M22 : id (M22 100 0 = M 100 0) := eM22_100_0.trans q100_0_M16
          have q100_1_M22 : id (M22 100 1 = M 100 1) := eM22_100_1.trans q100_1_M16
          have q100_2_M22 : id (M22 100 2 = M 100 2) := eM22_100_2.trans q100_2_M16
          have q100_3_M22 : id (M22 100 3 = M 100 3) := eM22_100_3.trans q100_3_M16
          have q100_49_M22 : id (M22 100 49 = M 100 49) := eM22_100_49.trans q100_49_M16
          have q100_50_M22 : id (M22 100 50 = M 100 50) := eM22_100_50.trans q100_50_M16
          have q100_51_M22 : id (M22 100 51 = M 100 51) := eM22_100_51.trans q100_51_M16
          have q100_52_M22 : id (M22 100 52 = M 100 52) := eM22_100_52.trans q100_52_M16
          have q103_0_M22 : id (M22 103 0 = M 103 0) := eM22_103_0.trans q103_0_M16
          have q103_1_M22 : id (M22 103 1 = M 103 1) := eM22_103_1.trans q103_1_M16
          have q97_12_M22 : (M22 97 12 = M 97 12) := eM22_97_12.trans q97_12_M16
          clear eM22_100_0 eM22_100_1 eM22_100_2 eM22_100_3 eM22_100_49 eM22_100_50 eM22_100_51 eM22_100_52 eM22_103_0 eM22_103_1
          refine g_ireturn dX10_spoon_69 ?_
          exact ⟨iM22, fM22, q99_0_M22, q99_1_M22, q99_2_M22, q99_3_M22, q100_0_M22, q100_1_M22, q100_2_M22, q100_3_M22, q100_49_M22, q100_50_M22, q100_51_M22, q100_52_M22, q103_0_M22, q103_1_M22, q97_12_M22, by first | assumption | decide | omega⟩
        · refine g_iload (pc' := 58) 0 dX10_spoon_56 rfl rfl ?_
          refine g_goto (tgt := 66) dX10_spoon_58 rfl ?_
          refine g_callVi (pc' := 69) (As := [vi z15]) (b := 97) (S := []) dX10_spoon_66 rfl m_X10_87 w_X10_tell (c_X10_tell X M16 iM16 z15 ⟨by omega, by omega⟩ (by omega)) rfl ⟨_, _, _, rfl, rfl, rfl⟩ (by decide) (by decide) rfl (Nat.le_of_ble_eq_true rfl) (fun z24 M25 q23 => ?_)
          obtain ⟨iM25, fM250, eM25_99_0, eM25_99_1, eM25_99_2, eM25_99_3, eM25_100_0, eM25_100_1, eM25_100_2, eM25_100_3, eM25_100_49, eM25_100_50, eM25_100_51, eM25_100_52, eM25_103_0, eM25_103_1, eM25_97_12, pM25⟩ := q23
          have fM25 : Fr (fun c => 97 ≤ c ∧ c ≤ 116) M M25 := Fr.tr fM16 fM250 fi_23
          have q99_0_M25 : (M25 99 0 = M 99 0) := eM25_99_0.trans q99_0_M16
          have q99_1_M25 : (M25 99 1 = M 99 1) := eM25_99_1.trans q99_1_M16
          have q99_2_M25 : (M25 99 2 = M 99 2) := eM25_99_2.trans q99_2_M16
          have q99_3_M25 : (M25 99 3 = M 99 3) := eM25_99_3.trans q99_3_M16
          have q100_0_M25 : id (M25 100 0 = M 100 0) := eM25_100_0.trans q100_0_M16
          have q100_1_M25 : id (M25 100 1 = M 100 1) := eM25_100_1.trans q100_1_M16
          have q100_2_M25 : id (M25 100 2 = M 100 2) := eM25_100_2.trans q100_2_M16
          have q100_3_M25 : id (M25 100 3 = M 100 3) := eM25_100_3.trans q100_3_M16
          have q100_49_M25 : id (M25 100 49 = M 100 49) := eM25_100_49.trans q100_49_M16
          have q100_50_M25 : id (M25 100 50 = M 100 50) := eM25_100_50.trans q100_50_M16
          have q100_51_M25 : id (M25 100 51 = M 100 51) := eM25_100_51.trans q100_51_M16
          have q100_52_M25 : id (M25 100 52 = M 100 52) := eM25_100_52.trans q100_52_M16
          have q103_0_M25 : id (M25 103 0 = M 103 0) := eM25_103_0.trans q103_0_M16
          have q103_1_M25 : id (M25 103 1 = M 103 1) := eM25_103_1.trans q103_1_M16
          have q97_12_M25 : (M25 97 12 = M 97 12) := eM25_97_12.trans q97_12_M16
          clear eM25_100_0 eM25_100_1 eM25_100_2 eM25_100_3 eM25_100_49 eM25_100_50 eM25_100_51 eM25_100_52 eM25_103_0 eM25_103_1
          refine g_ireturn dX10_spoon_69 ?_
          exact ⟨iM25, fM25, q99_0_M25, q99_1_M25, q99_2_M25, q99_3_M25, q100_0_M25, q100_1_M25, q100_2_M25, q100_3_M25, q100_49_M25, q100_50_M25, q100_51_M25, q100_52_M25, q103_0_M25, q103_1_M25, q97_12_M25, by first | assumption | decide | omega⟩
      · replace q11 := q11.resolve_left (fun h => absurd (c13.symm.trans h.1) (by decide))
        refine g_aload_n (pc' := 35) 0 dX10_spoon_34 rfl rfl ?_
        refine g_bipush (pc' := 37) (v := (-2)) dX10_spoon_35 rfl (by decide) ?_
        refine g_callVi (pc' := 40) (As := [vi (-2)]) (b := 97) (S := []) dX10_spoon_37 rfl m_X10_87 w_X10_tell (c_X10_tell X M1 iM1 (-2) (by decide) (by omega)) rfl ⟨_, _, _, rfl, rfl, rfl⟩ (by decide) (by decide) rfl (Nat.le_of_ble_eq_true rfl) (fun z27 M28 q26 => ?_)
        obtain ⟨iM28, fM280, eM28_99_0, eM28_99_1, eM28_99_2, eM28_99_3, eM28_100_0, eM28_100_1, eM28_100_2, eM28_100_3, eM28_100_49, eM28_100_50, eM28_100_51, eM28_100_52, eM28_103_0, eM28_103_1, eM28_97_12, pM28⟩ := q26
        have fM28 : Fr (fun c => 97 ≤ c ∧ c ≤ 116) M M28 := Fr.tr fM1 fM280 fi_23
        have q99_0_M28 : (M28 99 0 = M 99 0) := eM28_99_0.trans q99_0_M1
        have q99_1_M28 : (M28 99 1 = M 99 1) := eM28_99_1.trans q99_1_M1
        have q99_2_M28 : (M28 99 2 = M 99 2) := eM28_99_2.trans q99_2_M1
        have q99_3_M28 : (M28 99 3 = M 99 3) := eM28_99_3.trans q99_3_M1
        have q100_0_M28 : id (M28 100 0 = M 100 0) := eM28_100_0.trans q100_0_M1
        have q100_1_M28 : id (M28 100 1 = M 100 1) := eM28_100_1.trans q100_1_M1
        have q100_2_M28 : id (M28 100 2 = M 100 2) := eM28_100_2.trans q100_2_M1
        have q100_3_M28 : id (M28 100 3 = M 100 3) := eM28_100_3.trans q100_3_M1
        have q100_49_M28 : id (M28 100 49 = M 100 49) := eM28_100_49.trans q100_49_M1
        have q100_50_M28 : id (M28 100 50 = M 100 50) := eM28_100_50.trans q100_50_M1
        have q100_51_M28 : id (M28 100 51 = M 100 51) := eM28_100_51.trans q100_51_M1
        have q100_52_M28 : id (M28 100 52 = M 100 52) := eM28_100_52.trans q100_52_M1
        have q103_0_M28 : id (M28 103 0 = M 103 0) := eM28_103_0.trans q103_0_M1
        have q103_1_M28 : id (M28 103 1 = M 103 1) := eM28_103_1.trans q103_1_M1
        have q97_12_M28 : (M28 97 12 = M 97 12) := eM28_97_12.trans q97_12_M1
        clear eM28_100_0 eM28_100_1 eM28_100_2 eM28_100_3 eM28_100_49 eM28_100_50 eM28_100_51 eM28_100_52 eM28_103_0 eM28_103_1
        refine g_ireturn dX10_spoon_40 ?_
        exact ⟨iM28, fM28, q99_0_M28, q99_1_M28, q99_2_M28, q99_3_M28, q100_0_M28, q100_1_M28, q100_2_M28, q100_3_M28, q100_49_M28, q100_50_M28, q100_51_M28, q100_52_M28, q103_0_M28, q103_1_M28, q97_12_M28, by first | assumption | decide | omega⟩
  · replace q2 := q2.resolve_left (fun h => absurd (c4.symm.trans h.1) (by decide))
    refine g_aload_n (pc' := 13) 0 dX10_spoon_12 rfl rfl ?_
    refine g_iconst (pc' := 14) dX10_spoon_13 rfl ?_
    refine g_callVi (pc' := 17) (As := [vi (-1)]) (b := 97) (S := []) dX10_spoon_14 rfl m_X10_87 w_X10_tell (c_X10_tell X M1 iM1 (-1) (by decide) (by omega)) rfl ⟨_, _, _, rfl, rfl, rfl⟩ (by decide) (by decide) rfl (Nat.le_of_ble_eq_true rfl) (fun z30 M31 q29 => ?_)
    obtain ⟨iM31, fM310, eM31_99_0, eM31_99_1, eM31_99_2, eM31_99_3, eM31_100_0, eM31_100_1, eM31_100_2, eM31_100_3, eM31_100_49, eM31_100_50, eM31_100_51, eM31_100_52, eM31_103_0, eM31_103_1, eM31_97_12, pM31⟩ := q29
    have fM31 : Fr (fun c => 97 ≤ c ∧ c ≤ 116) M M31 := Fr.tr fM1 fM310 fi_23
    have q99_0_M31 : (M31 99 0 = M 99 0) := eM31_99_0.trans q99_0_M1
    have q99_1_M31 : (M31 99 1 = M 99 1) := eM31_99_1.trans q99_1_M1
    have q99_2_M31 : (M31 99 2 = M 99 2) := eM31_99_2.trans q99_2_M1
    have q99_3_M31 : (M31 99 3 = M 99 3) := eM31_99_3.trans q99_3_M1
    have q100_0_M31 : id (M31 100 0 = M 100 0) := eM31_100_0.trans q100_0_M1
    have q100_1_M31 : id (M31 100 1 = M 100 1) := eM31_100_1.trans q100_1_M1
    have q100_2_M31 : id (M31 100 2 = M 100 2) := eM31_100_2.trans q100_2_M1
    have q100_3_M31 : id (M31 100 3 = M 100 3) := eM31_100_3.trans q100_3_M1
    have q100_49_M31 : id (M31 100 49 = M 100 49) := eM31_100_49.trans q100_49_M1
    have q100_50_M31 : id (M31 100 50 = M 100 50) := eM31_100_50.trans q100_50_M1
    have q100_51_M31 : id (M31 100 51 = M 100 51) := eM31_100_51.trans q100_51_M1
    have q100_52_M31 : id (M31 100 52 = M 100 52) := eM31_100_52.trans q100_52_M1
    have q103_0_M31 : id (M31 103 0 = M 103 0) := eM31_103_0.trans q103_0_M1
    have q103_1_M31 : id (M31 103 1 = M 103 1) := eM31_103_1.trans q103_1_M1
    have q97_12_M31 : (M31 97 12 = M 97 12) := eM31_97_12.trans q97_12_M1
    clear eM31_100_0 eM31_100_1 eM31_100_2 eM31_100_3 eM31_100_49 eM31_100_50 eM31_100_51 eM31_100_52 eM31_103_0 eM31_103_1
    refine g_ireturn dX10_spoon_17 ?_
    exact ⟨iM31, fM31, q99_0_M31, q99_1_M31, q99_2_M31, q99_3_M31, q100_0_M31, q100_1_M31, q100_2_M31, q100_3_M31, q100_49_M31, q100_50_M31, q100_51_M31, q100_52_M31, q103_0_M31, q103_1_M31, q97_12_M31, by first | assumption | decide | omega⟩
set_option maxHeartbeats 4000000 in
set_option maxRecDepth 100000 in
theorem c_X10_lick (X : Cx) (M : Mm) (hi : IM M) (a : Int) (ha : inI a) (b : Int) (hb : inI b) : Con X 12 yX10_lick cX10_lick 4 (some .int) [vr X 97, vi a, vi b] M (Qi (fun r M1 => IM M1 ∧ Fr (fun c => 97 ≤ c ∧ c ≤ 116) M M1 ∧ M1 99 0 = M 99 0 ∧ M1 99 1 = M 99 1 ∧ M1 99 2 = M 99 2 ∧ M1 99 3 = M 99 3 ∧ M1 100 0 = M 100 0 ∧ M1 100 1 = M 100 1 ∧ M1 100 2 = M 100 2 ∧ M1 100 3 = M 100 3 ∧ M1 100 49 = M 100 49 ∧ M1 100 50 = M 100 50 ∧ M1 100 51 = M 100 51 ∧ M1 100 52 = M 100 52 ∧ M1 103 0 = M 103 0 ∧ M1 103 1 = M 103 1 ∧ M1 97 12 = M 97 12 ∧ (inI r))) := by
  refine Con.ofG rfl (Nat.le_of_ble_eq_true rfl) ?_
  show G X 12 RX10 cX10_lick 4 (some .int) (Qi (fun r M1 => IM M1 ∧ Fr (fun c => 97 ≤ c ∧ c ≤ 116) M M1 ∧ M1 99 0 = M 99 0 ∧ M1 99 1 = M 99 1 ∧ M1 99 2 = M 99 2 ∧ M1 99 3 = M 99 3 ∧ M1 100 0 = M 100 0 ∧ M1 100 1 = M 100 1 ∧ M1 100 2 = M 100 2 ∧ M1 100 3 = M 100 3 ∧ M1 100 49 = M 100 49 ∧ M1 100 50 = M 100 50 ∧ M1 100 51 = M 100 51 ∧ M1 100 52 = M 100 52 ∧ M1 103 0 = M 103 0 ∧ M1 103 1 = M 103 1 ∧ M1 97 12 = M 97 12 ∧ (inI r))) 0 [(0, vr X 97), (1, vi a), (2, vi b)] [] M
  have p0 := hi.1.1
  have p1 := hi.1.2.1
  have p2 := hi.1.2.2.1
  have p3 := hi.1.2.2.2.1
  have p12 := hi.2.2.2.1
  refine g_aload_n (pc' := 1) 0 dX10_lick_0 rfl rfl ?_
  refine g_iconst (pc' := 2) dX10_lick_1 rfl ?_
  refine g_putI (pc' := 5) dX10_lick_2 rfl p_X10_77 rfl rfl (by decide) (fun M1 hM1 => ?_)
  have iM1 : IM M1 := IM.wr hi hM1 (by unfold okv; first | decide | omega)
  have fM1 : Fr (fun c => 97 ≤ c ∧ c ≤ 116) M M1 := Fr.wr Fr.rf hM1 (by first | decide | omega | (dsimp only; omega))
  have q99_0_M1 : (M1 99 0 = M 99 0) := (show M1 99 0 = M 99 0 by rw [hM1]; exact mu_ne _ _ (by first | decide | omega))
  have q99_1_M1 : (M1 99 1 = M 99 1) := (show M1 99 1 = M 99 1 by rw [hM1]; exact mu_ne _ _ (by first | decide | omega))
  have q99_2_M1 : (M1 99 2 = M 99 2) := (show M1 99 2 = M 99 2 by rw [hM1]; exact mu_ne _ _ (by first | decide | omega))
  have q99_3_M1 : (M1 99 3 = M 99 3) := (show M1 99 3 = M 99 3 by rw [hM1]; exact mu_ne _ _ (by first | decide | omega))
  have q100_0_M1 : id (M1 100 0 = M 100 0) := (show M1 100 0 = M 100 0 by rw [hM1]; exact mu_ne _ _ (by first | decide | omega))
  have q100_1_M1 : id (M1 100 1 = M 100 1) := (show M1 100 1 = M 100 1 by rw [hM1]; exact mu_ne _ _ (by first | decide | omega))
  have q100_2_M1 : id (M1 100 2 = M 100 2) := (show M1 100 2 = M 100 2 by rw [hM1]; exact mu_ne _ _ (by first | decide | omega))
  have q100_3_M1 : id (M1 100 3 = M 100 3) := (show M1 100 3 = M 100 3 by rw [hM1]; exact mu_ne _ _ (by first | decide | omega))
  have q100_49_M1 : id (M1 100 49 = M 100 49) := (show M1 100 49 = M 100 49 by rw [hM1]; exact mu_ne _ _ (by first | decide | omega))
  have q100_50_M1 : id (M1 100 50 = M 100 50) := (show M1 100 50 = M 100 50 by rw [hM1]; exact mu_ne _ _ (by first | decide | omega))
  have q100_51_M1 : id (M1 100 51 = M 100 51) := (show M1 100 51 = M 100 51 by rw [hM1]; exact mu_ne _ _ (by first | decide | omega))
  have q100_52_M1 : id (M1 100 52 = M 100 52) := (show M1 100 52 = M 100 52 by rw [hM1]; exact mu_ne _ _ (by first | decide | omega))
  have q103_0_M1 : id (M1 103 0 = M 103 0) := (show M1 103 0 = M 103 0 by rw [hM1]; exact mu_ne _ _ (by first | decide | omega))
  have q103_1_M1 : id (M1 103 1 = M 103 1) := (show M1 103 1 = M 103 1 by rw [hM1]; exact mu_ne _ _ (by first | decide | omega))
  have q97_12_M1 : (M1 97 12 = M 97 12) := (show M1 97 12 = M 97 12 by rw [hM1]; exact mu_ne _ _ (by first | decide | omega))
  have xM1_97_0 : M1 97 0 = 0 := by rw [hM1]; exact mu_at _ _ _ _
  refine g_iload_n (pc' := 6) 2 dX10_lick_5 rfl rfl ?_
  refine g_callSip (pc' := 9) (As := [vi b]) (S := []) dX10_lick_6 rfl m_X10_95 w_X10_isAmount (c_X10_isAmount X M1 b hb) rfl (by decide) (by decide) rfl (Nat.le_of_ble_eq_true rfl) (fun z3 q2 => ?_)
  refine g_if_ne (pc' := 12) (tgt := 18) ⟨by omega, by omega⟩ dX10_lick_9 rfl rfl (fun c4 => ?_) (fun c4 => ?_)
  · replace q2 := q2.resolve_right (fun h => c4 h.1)
    refine g_aload_n (pc' := 19) 0 dX10_lick_18 rfl rfl ?_
    refine g_iload_n (pc' := 20) 1 dX10_lick_19 rfl rfl ?_
    refine g_callVip (pc' := 23) (As := [vi a]) (b := 97) (S := []) dX10_lick_20 rfl m_X10_102 w_X10_isGlass (c_X10_isGlass X M1 iM1 a ha) rfl ⟨_, _, _, rfl, rfl, rfl⟩ (by decide) (by decide) rfl (Nat.le_of_ble_eq_true rfl) (fun z6 q5 => ?_)
    refine g_if_ne (pc' := 26) (tgt := 33) ⟨by omega, by omega⟩ dX10_lick_23 rfl rfl (fun c7 => ?_) (fun c7 => ?_)
    · replace q5 := q5.resolve_right (fun h => c7 h.1)
      refine g_aload_n (pc' := 34) 0 dX10_lick_33 rfl rfl ?_
      refine g_iload_n (pc' := 35) 1 dX10_lick_34 rfl rfl ?_
      refine g_iconst (pc' := 36) dX10_lick_35 rfl ?_
      refine g_iload_n (pc' := 37) 2 dX10_lick_36 rfl rfl ?_
      refine g_callVi (pc' := 40) (As := [vi a, vi (-1), vi b]) (b := 97) (S := []) dX10_lick_37 rfl m_X10_139 w_X10_spooned (c_X10_spooned X M1 iM1 a ha (-1) (by decide) b hb (by omega) (by omega) (by omega)) rfl ⟨_, _, _, rfl, rfl, rfl⟩ (by decide) (by decide) rfl (Nat.le_of_ble_eq_true rfl) (fun z9 M10 q8 => ?_)
      obtain ⟨iM10, fM100, pM10⟩ := q8
      have fM10 : Fr (fun c => 97 ≤ c ∧ c ≤ 116) M M10 := Fr.tr fM1 fM100 fi_25
      have q99_0_M10 : (M10 99 0 = M 99 0) := (congrFun (fM100 99 (by first | decide | omega | (dsimp only; omega))) 0).trans q99_0_M1
      have q99_1_M10 : (M10 99 1 = M 99 1) := (congrFun (fM100 99 (by first | decide | omega | (dsimp only; omega))) 1).trans q99_1_M1
      have q99_2_M10 : (M10 99 2 = M 99 2) := (congrFun (fM100 99 (by first | decide | omega | (dsimp only; omega))) 2).trans q99_2_M1
      have q99_3_M10 : (M10 99 3 = M 99 3) := (congrFun (fM100 99 (by first | decide | omega | (dsimp only; omega))) 3).trans q99_3_M1
      have q100_0_M10 : id (M10 100 0 = M 100 0) := (congrFun (fM100 100 (by first | decide | omega | (dsimp only; omega))) 0).trans q100_0_M1
      have q100_1_M10 : id (M10 100 1 = M 100 1) := (congrFun (fM100 100 (by first | decide | omega | (dsimp only; omega))) 1).trans q100_1_M1
      have q100_2_M10 : id (M10 100 2 = M 100 2) := (congrFun (fM100 100 (by first | decide | omega | (dsimp only; omega))) 2).trans q100_2_M1
      have q100_3_M10 : id (M10 100 3 = M 100 3) := (congrFun (fM100 100 (by first | decide | omega | (dsimp only; omega))) 3).trans q100_3_M1
      have q100_49_M10 : id (M10 100 49 = M 100 49) := (congrFun (fM100 100 (by first | decide | omega | (dsimp only; omega))) 49).trans q100_49_M1
      have q100_50_M10 : id (M10 100 50 = M 100 50) := (congrFun (fM100 100 (by first | decide | omega | (dsimp only; omega))) 50).trans q100_50_M1
      have q100_51_M10 : id (M10 100 51 = M 100 51) := (congrFun (fM100 100 (by first | decide | omega | (dsimp only; omega))) 51).trans q100_51_M1
      have q100_52_M10 : id (M10 100 52 = M 100 52) := (congrFun (fM100 100 (by first | decide | omega | (dsimp only; omega))) 52).trans q100_52_M1
      have q103_0_M10 : id (M10 103 0 = M 103 0) := (congrFun (fM100 103 (by first | decide | omega | (dsimp only; omega))) 0).trans q103_0_M1
      have q103_1_M10 : id (M10 103 1 = M 103 1) := (congrFun (fM100 103 (by first | decide | omega | (dsimp only; omega))) 1).trans q103_1_M1
      have q97_12_M10 : (M10 97 12 = M 97 12) := (congrFun (fM100 97 (by first | decide | omega | (dsimp only; omega))) 12).trans q97_12_M1
      have xM10_97_0 : M10 97 0 = 0 := (congrFun (fM100 97 (by first | decide | omega | (dsimp only; omega))) 0).trans xM1_97_0
      refine g_istore_n (pc' := 41) (i := 3) (L' := [(3, vi z9), (0, vr X 97), (1, vi a), (2, vi b)]) dX10_lick_40 rfl rfl (by decide) rfl ?_
      refine g_aload_n (pc' := 42) 1 dX10_lick_41 rfl rfl ?_
      refine g_iload_n (pc' := 43) 0 dX10_lick_42 rfl rfl ?_
      refine g_if_ge (pc' := 46) (tgt := 50) ⟨by omega, by omega⟩ dX10_lick_43 rfl rfl (fun c11 => ?_) (fun c11 => ?_)
      · refine g_aload_n (pc' := 51) 1 dX10_lick_50 rfl rfl ?_
        refine g_iload_n (pc' := 52) 2 dX10_lick_51 rfl rfl ?_
        refine g_callVip (pc' := 55) (As := [vi a]) (b := 97) (S := [vr X 97]) dX10_lick_52 rfl m_X10_99 w_X10_full (c_X10_full X M10 iM10 a ha ⟨by omega, by omega⟩) rfl ⟨_, _, _, rfl, rfl, rfl⟩ (by decide) (by decide) rfl (Nat.le_of_ble_eq_true rfl) (fun z13 q12 => ?_)
        refine g_callVi (pc' := 58) (As := [vi z13]) (b := 97) (S := []) dX10_lick_55 rfl m_X10_87 w_X10_tell (c_X10_tell X M10 iM10 z13 ⟨by omega, by omega⟩ (by omega)) rfl ⟨_, _, _, rfl, rfl, rfl⟩ (by decide) (by decide) rfl (Nat.le_of_ble_eq_true rfl) (fun z15 M16 q14 => ?_)
        obtain ⟨iM16, fM160, eM16_99_0, eM16_99_1, eM16_99_2, eM16_99_3, eM16_100_0, eM16_100_1, eM16_100_2, eM16_100_3, eM16_100_49, eM16_100_50, eM16_100_51, eM16_100_52, eM16_103_0, eM16_103_1, eM16_97_12, pM16⟩ := q14
        have fM16 : Fr (fun c => 97 ≤ c ∧ c ≤ 116) M M16 := Fr.tr fM10 fM160 fi_23
        have q99_0_M16 : (M16 99 0 = M 99 0) := eM16_99_0.trans q99_0_M10
        have q99_1_M16 : (M16 99 1 = M 99 1) := eM16_99_1.trans q99_1_M10
        have q99_2_M16 : (M16 99 2 = M 99 2) := eM16_99_2.trans q99_2_M10
        have q99_3_M16 : (M16 99 3 = M 99 3) := eM16_99_3.trans q99_3_M10
        have q100_0_M16 : id (M16 100 0 = M 100 0) := eM16_100_0.trans q100_0_M10
        have q100_1_M16 : id (M16 100 1 = M 100 1) := eM16_100_1.trans q100_1_M10
        have q100_2_M16 : id (M16 100 2 = M 100 2) := eM16_100_2.trans q100_2_M10
        have q100_3_M16 : id (M16 100 3 = M 100 3) := eM16_100_3.trans q100_3_M10
        have q100_49_M16 : id (M16 100 49 = M 100 49) := eM16_100_49.trans q100_49_M10
        have q100_50_M16 : id (M16 100 50 = M 100 50) := eM16_100_50.trans q100_50_M10
        have q100_51_M16 : id (M16 100 51 = M 100 51) := eM16_100_51.trans q100_51_M10
        have q100_52_M16 : id (M16 100 52 = M 100 52) := eM16_100_52.trans q100_52_M10
        have q103_0_M16 : id (M16 103 0 = M 103 0) := eM16_103_0.trans q103_0_M10
        have q103_1_M16 : id (M16 103 1 = M 103 1) := eM16_103_1.trans q103_1_M10
        have q97_12_M16 : (M16 97 12 = M 97 12) := eM16_97_12.trans q97_12_M10
        clear eM16_100_0 eM16_100_1 eM16_100_2 eM16_100_3 eM16_100_49 eM16_100_50 eM16_100_51 eM16_100_52 eM16_103_0 eM16_103_1
        refine g_ireturn dX10_lick_58 ?_
        exact ⟨iM16, fM16, q99_0_M16, q99_1_M16, q99_2_M16, q99_3_M16, q100_0_M16, q100_1_M16, q100_2_M16, q100_3_M16, q100_49_M16, q100_50_M16, q100_51_M16, q100_52_M16, q103_0_M16, q103_1_M16, q97_12_M16, by first | assumption | decide | omega⟩
      · refine g_iload_n (pc' := 47) 0 dX10_lick_46 rfl rfl ?_
        refine g_goto (tgt := 55) dX10_lick_47 rfl ?_
        refine g_callVi (pc' := 58) (As := [vi z9]) (b := 97) (S := []) dX10_lick_55 rfl m_X10_87 w_X10_tell (c_X10_tell X M10 iM10 z9 ⟨by omega, by omega⟩ (by omega)) rfl ⟨_, _, _, rfl, rfl, rfl⟩ (by decide) (by decide) rfl (Nat.le_of_ble_eq_true rfl) (fun z18 M19 q17 => ?_)
        obtain ⟨iM19, fM190, eM19_99_0, eM19_99_1, eM19_99_2, eM19_99_3, eM19_100_0, eM19_100_1, eM19_100_2, eM19_100_3, eM19_100_49, eM19_100_50, eM19_100_51, eM19_100_52, eM19_103_0, eM19_103_1, eM19_97_12, pM19⟩ := q17
        have fM19 : Fr (fun c => 97 ≤ c ∧ c ≤ 116) M M19 := Fr.tr fM10 fM190 fi_23
        have q99_0_M19 : (M19 99 0 = M 99 0) := eM19_99_0.trans q99_0_M10
        have q99_1_M19 : (M19 99 1 = M 99 1) := eM19_99_1.trans q99_1_M10
        have q99_2_M19 : (M19 99 2 = M 99 2) := eM19_99_2.trans q99_2_M10
        have q99_3_M19 : (M19 99 3 = M 99 3) := eM19_99_3.trans q99_3_M10
        have q100_0_M19 : id (M19 100 0 = M 100 0) := eM19_100_0.trans q100_0_M10
        have q100_1_M19 : id (M19 100 1 = M 100 1) := eM19_100_1.trans q100_1_M10
        have q100_2_M19 : id (M19 100 2 = M 100 2) := eM19_100_2.trans q100_2_M10
        have q100_3_M19 : id (M19 100 3 = M 100 3) := eM19_100_3.trans q100_3_M10
        have q100_49_M19 : id (M19 100 49 = M 100 49) := eM19_100_49.trans q100_49_M10
        have q100_50_M19 : id (M19 100 50 = M 100 50) := eM19_100_50.trans q100_50_M10
        have q100_51_M19 : id (M19 100 51 = M 100 51) := eM19_100_51.trans q100_51_M10
        have q100_52_M19 : id (M19 100 52 = M 100 52) := eM19_100_52.trans q100_52_M10
        have q103_0_M19 : id (M19 103 0 = M 103 0) := eM19_103_0.trans q103_0_M10
        have q103_1_M19 : id (M19 103 1 = M 103 1) := eM19_103_1.trans q103_1_M10
        have q97_12_M19 : (M19 97 12 = M 97 12) := eM19_97_12.trans q97_12_M10
        clear eM19_100_0 eM19_100_1 eM19_100_2 eM19_100_3 eM19_100_49 eM19_100_50 eM19_100_51 eM19_100_52 eM19_103_0 eM19_103_1
        refine g_ireturn dX10_lick_58 ?_
        exact ⟨iM19, fM19, q99_0_M19, q99_1_M19, q99_2_M19, q99_3_M19, q100_0_M19, q100_1_M19, q100_2_M19, q100_3_M19, q100_49_M19, q100_50_M19, q100_51_M19, q100_52_M19, q103_0_M19, q103_1_M19, q97_12_M19, by first | assumption | decide | omega⟩
    · replace q5 := q5.resolve_left (fun h => absurd (c7.symm.trans h.1) (by decide))
      refine g_aload_n (pc' := 27) 0 dX10_lick_26 rfl rfl ?_
      refine g_bipush (pc' := 29) (v := (-2)) dX10_lick_27 rfl (by decide) ?_
      refine g_callVi (pc' := 32) (As := [vi (-2)]) (b := 97) (S := []) dX10_lick_29 rfl m_X10_87 w_X10_tell (c_X10_tell X M1 iM1 (-2) (by decide) (by omega)) rfl ⟨_, _, _, rfl, rfl, rfl⟩ (by decide) (by decide) rfl (Nat.le_of_ble_eq_true rfl) (fun z21 M22 q20 => ?_)
      obtain ⟨iM22, fM220, eM22_99_0, eM22_99_1, eM22_99_2, eM22_99_3, eM22_100_0, eM22_100_1, eM22_100_2, eM22_100_3, eM22_100_49, eM22_100_50, eM22_100_51, eM22_100_52, eM22_103_0, eM22_103_1, eM22_97_12, pM22⟩ := q20
      have fM22 : Fr (fun c => 97 ≤ c ∧ c ≤ 116) M M22 := Fr.tr fM1 fM220 fi_23
      have q99_0_M22 : (M22 99 0 = M 99 0) := eM22_99_0.trans q99_0_M1
      have q99_1_M22 : (M22 99 1 = M 99 1) := eM22_99_1.trans q99_1_M1
      have q99_2_M22 : (M22 99 2 = M 99 2) := eM22_99_2.trans q99_2_M1
      have q99_3_M22 : (M22 99 3 = M 99 3) := eM22_99_3.trans q99_3_M1
      have q100_0_M22 : id (M22 100 0 = M 100 0) := eM22_100_0.trans q100_0_M1
      have q100_1_M22 : id (M22 100 1 = M 100 1) := eM22_100_1.trans q100_1_M1
      have q100_2_M22 : id (M22 100 2 = M 100 2) := eM22_100_2.trans q100_2_M1
      have q100_3_M22 : id (M22 100 3 = M 100 3) := eM22_100_3.trans q100_3_M1
      have q100_49_M22 : id (M22 100 49 = M 100 49) := eM22_100_49.trans q100_49_M1
      have q100_50_M22 : id (M22 100 50 = M 100 50) := eM22_100_50.trans q100_50_M1
      have q100_51_M22 : id (M22 100 51 = M 100 51) := eM22_100_51.trans q100_51_M1
      have q100_52_M22 : id (M22 100 52 = M 100 52) := eM22_100_52.trans q100_52_M1
      have q103_0_M22 : id (M22 103 0 = M 103 0) := eM22_103_0.trans q103_0_M1
      have q103_1_M22 : id (M22 103 1 = M 103 1) := eM22_103_1.trans q103_1_M1
      have q97_12_M22 : (M22 97 12 = M 97 12) := eM22_97_12.trans q97_12_M1
      clear eM22_100_0 eM22_100_1 eM22_100_2 eM22_100_3 eM22_100_49 eM22_100_50 eM22_100_51 eM22_100_52 eM22_103_0 eM22_103_1
      refine g_ireturn dX10_lick_32 ?_
      exact ⟨iM22, fM22, q99_0_M22, q99_1_M22, q99_2_M22, q99_3_M22, q100_0_M22, q100_1_M22, q100_2_M22, q100_3_M22, q100_49_M22, q100_50_M22, q100_51_M22, q100_52_M22, q103_0_M22, q103_1_M22, q97_12_M22, by first | assumption | decide | omega⟩
  · replace q2 := q2.resolve_left (fun h => absurd (c4.symm.trans h.1) (by decide))
    refine g_aload_n (pc' := 13) 0 dX10_lick_12 rfl rfl ?_
    refine g_iconst (pc' := 14) dX10_lick_13 rfl ?_
    refine g_callVi (pc' := 17) (As := [vi (-1)]) (b := 97) (S := []) dX10_lick_14 rfl m_X10_87 w_X10_tell (c_X10_tell X M1 iM1 (-1) (by decide) (by omega)) rfl ⟨_, _, _, rfl, rfl, rfl⟩ (by decide) (by decide) rfl (Nat.le_of_ble_eq_true rfl) (fun z24 M25 q23 => ?_)
    obtain ⟨iM25, fM250, eM25_99_0, eM25_99_1, eM25_99_2, eM25_99_3, eM25_100_0, eM25_100_1, eM25_100_2, eM25_100_3, eM25_100_49, eM25_100_50, eM25_100_51, eM25_100_52, eM25_103_0, eM25_103_1, eM25_97_12, pM25⟩ := q23
    have fM25 : Fr (fun c => 97 ≤ c ∧ c ≤ 116) M M25 := Fr.tr fM1 fM250 fi_23
    have q99_0_M25 : (M25 99 0 = M 99 0) := eM25_99_0.trans q99_0_M1
    have q99_1_M25 : (M25 99 1 = M 99 1) := eM25_99_1.trans q99_1_M1
    have q99_2_M25 : (M25 99 2 = M 99 2) := eM25_99_2.trans q99_2_M1
    have q99_3_M25 : (M25 99 3 = M 99 3) := eM25_99_3.trans q99_3_M1
    have q100_0_M25 : id (M25 100 0 = M 100 0) := eM25_100_0.trans q100_0_M1
    have q100_1_M25 : id (M25 100 1 = M 100 1) := eM25_100_1.trans q100_1_M1
    have q100_2_M25 : id (M25 100 2 = M 100 2) := eM25_100_2.trans q100_2_M1
    have q100_3_M25 : id (M25 100 3 = M 100 3) := eM25_100_3.trans q100_3_M1
    have q100_49_M25 : id (M25 100 49 = M 100 49) := eM25_100_49.trans q100_49_M1
    have q100_50_M25 : id (M25 100 50 = M 100 50) := eM25_100_50.trans q100_50_M1
    have q100_51_M25 : id (M25 100 51 = M 100 51) := eM25_100_51.trans q100_51_M1
    have q100_52_M25 : id (M25 100 52 = M 100 52) := eM25_100_52.trans q100_52_M1
    have q103_0_M25 : id (M25 103 0 = M 103 0) := eM25_103_0.trans q103_0_M1
    have q103_1_M25 : id (M25 103 1 = M 103 1) := eM25_103_1.trans q103_1_M1
    have q97_12_M25 : (M25 97 12 = M 97 12) := eM25_97_12.trans q97_12_M1
    clear eM25_100_0 eM25_100_1 eM25_100_2 eM25_100_3 eM25_100_49 eM25_100_50 eM25_100_51 eM25_100_52 eM25_103_0 eM25_103_1
    refine g_ireturn dX10_lick_17 ?_
    exact ⟨iM25, fM25, q99_0_M25, q99_1_M25, q99_2_M25, q99_3_M25, q100_0_M25, q100_1_M25, q100_2_M25, q100_3_M25, q100_49_M25, q100_50_M25, q100_51_M25, q100_52_M25, q103_0_M25, q103_1_M25, q97_12_M25, by first | assumption | decide | omega⟩
set_option maxHeartbeats 4000000 in
set_option maxRecDepth 100000 in
theorem c_X10_spilt (X : Cx) (M : Mm) (hi : IM M) : Con X 12 yX10_spilt cX10_spilt 1 (some .int) [vr X 97] M (Qi (fun r M1 => IM M1 ∧ Fr (fun c => 97 ≤ c ∧ c ≤ 116) M M1 ∧ M1 99 0 = M 99 0 ∧ M1 99 1 = M 99 1 ∧ M1 99 2 = M 99 2 ∧ M1 99 3 = M 99 3 ∧ M1 100 0 = M 100 0 ∧ M1 100 1 = M 100 1 ∧ M1 100 2 = M 100 2 ∧ M1 100 3 = M 100 3 ∧ M1 100 49 = M 100 49 ∧ M1 100 50 = M 100 50 ∧ M1 100 51 = M 100 51 ∧ M1 100 52 = M 100 52 ∧ M1 103 0 = M 103 0 ∧ M1 103 1 = M 103 1 ∧ M1 97 12 = M 97 12 ∧ (inI r))) := by
  refine Con.ofG rfl (Nat.le_of_ble_eq_true rfl) ?_
  show G X 12 RX10 cX10_spilt 1 (some .int) (Qi (fun r M1 => IM M1 ∧ Fr (fun c => 97 ≤ c ∧ c ≤ 116) M M1 ∧ M1 99 0 = M 99 0 ∧ M1 99 1 = M 99 1 ∧ M1 99 2 = M 99 2 ∧ M1 99 3 = M 99 3 ∧ M1 100 0 = M 100 0 ∧ M1 100 1 = M 100 1 ∧ M1 100 2 = M 100 2 ∧ M1 100 3 = M 100 3 ∧ M1 100 49 = M 100 49 ∧ M1 100 50 = M 100 50 ∧ M1 100 51 = M 100 51 ∧ M1 100 52 = M 100 52 ∧ M1 103 0 = M 103 0 ∧ M1 103 1 = M 103 1 ∧ M1 97 12 = M 97 12 ∧ (inI r))) 0 [(0, vr X 97)] [] M
  have p0 := hi.1.1
  have p1 := hi.1.2.1
  have p2 := hi.1.2.2.1
  have p3 := hi.1.2.2.2.1
  have p12 := hi.2.2.2.1
  refine g_aload_n (pc' := 1) 0 dX10_spilt_0 rfl rfl ?_
  refine g_iconst (pc' := 2) dX10_spilt_1 rfl ?_
  refine g_putI (pc' := 5) dX10_spilt_2 rfl p_X10_77 rfl rfl (by decide) (fun M1 hM1 => ?_)
  have iM1 : IM M1 := IM.wr hi hM1 (by unfold okv; first | decide | omega)
  have fM1 : Fr (fun c => 97 ≤ c ∧ c ≤ 116) M M1 := Fr.wr Fr.rf hM1 (by first | decide | omega | (dsimp only; omega))
  have q99_0_M1 : (M1 99 0 = M 99 0) := (show M1 99 0 = M 99 0 by rw [hM1]; exact mu_ne _ _ (by first | decide | omega))
  have q99_1_M1 : (M1 99 1 = M 99 1) := (show M1 99 1 = M 99 1 by rw [hM1]; exact mu_ne _ _ (by first | decide | omega))
  have q99_2_M1 : (M1 99 2 = M 99 2) := (show M1 99 2 = M 99 2 by rw [hM1]; exact mu_ne _ _ (by first | decide | omega))
  have q99_3_M1 : (M1 99 3 = M 99 3) := (show M1 99 3 = M 99 3 by rw [hM1]; exact mu_ne _ _ (by first | decide | omega))
  have q100_0_M1 : id (M1 100 0 = M 100 0) := (show M1 100 0 = M 100 0 by rw [hM1]; exact mu_ne _ _ (by first | decide | omega))
  have q100_1_M1 : id (M1 100 1 = M 100 1) := (show M1 100 1 = M 100 1 by rw [hM1]; exact mu_ne _ _ (by first | decide | omega))
  have q100_2_M1 : id (M1 100 2 = M 100 2) := (show M1 100 2 = M 100 2 by rw [hM1]; exact mu_ne _ _ (by first | decide | omega))
  have q100_3_M1 : id (M1 100 3 = M 100 3) := (show M1 100 3 = M 100 3 by rw [hM1]; exact mu_ne _ _ (by first | decide | omega))
  have q100_49_M1 : id (M1 100 49 = M 100 49) := (show M1 100 49 = M 100 49 by rw [hM1]; exact mu_ne _ _ (by first | decide | omega))
  have q100_50_M1 : id (M1 100 50 = M 100 50) := (show M1 100 50 = M 100 50 by rw [hM1]; exact mu_ne _ _ (by first | decide | omega))
  have q100_51_M1 : id (M1 100 51 = M 100 51) := (show M1 100 51 = M 100 51 by rw [hM1]; exact mu_ne _ _ (by first | decide | omega))
  have q100_52_M1 : id (M1 100 52 = M 100 52) := (show M1 100 52 = M 100 52 by rw [hM1]; exact mu_ne _ _ (by first | decide | omega))
  have q103_0_M1 : id (M1 103 0 = M 103 0) := (show M1 103 0 = M 103 0 by rw [hM1]; exact mu_ne _ _ (by first | decide | omega))
  have q103_1_M1 : id (M1 103 1 = M 103 1) := (show M1 103 1 = M 103 1 by rw [hM1]; exact mu_ne _ _ (by first | decide | omega))
  have q97_12_M1 : (M1 97 12 = M 97 12) := (show M1 97 12 = M 97 12 by rw [hM1]; exact mu_ne _ _ (by first | decide | omega))
  have xM1_97_0 : M1 97 0 = 0 := by rw [hM1]; exact mu_at _ _ _ _
  refine g_aload_n (pc' := 6) 0 dX10_spilt_5 rfl rfl ?_
  refine g_getI (pc' := 9) dX10_spilt_6 rfl f_X10_145 rfl rfl (fun v2 ev2 rv2 => ?_)
  refine g_ireturn dX10_spilt_9 ?_
  exact ⟨iM1, fM1, q99_0_M1, q99_1_M1, q99_2_M1, q99_3_M1, q100_0_M1, q100_1_M1, q100_2_M1, q100_3_M1, q100_49_M1, q100_50_M1, q100_51_M1, q100_52_M1, q103_0_M1, q103_1_M1, q97_12_M1, by first | assumption | decide | omega⟩
set_option maxHeartbeats 4000000 in
set_option maxRecDepth 100000 in
theorem c_X10_fault (X : Cx) (M : Mm) (hi : IM M) : Con X 12 yX10_fault cX10_fault 1 (some .int) [vr X 97] M (Qi (fun r M1 => IM M1 ∧ Fr (fun c => 97 ≤ c ∧ c ≤ 116) M M1 ∧ M1 99 0 = M 99 0 ∧ M1 99 1 = M 99 1 ∧ M1 99 2 = M 99 2 ∧ M1 99 3 = M 99 3 ∧ M1 100 0 = M 100 0 ∧ M1 100 1 = M 100 1 ∧ M1 100 2 = M 100 2 ∧ M1 100 3 = M 100 3 ∧ M1 100 49 = M 100 49 ∧ M1 100 50 = M 100 50 ∧ M1 100 51 = M 100 51 ∧ M1 100 52 = M 100 52 ∧ M1 103 0 = M 103 0 ∧ M1 103 1 = M 103 1 ∧ M1 97 12 = M 97 12 ∧ (inI r))) := by
  refine Con.ofG rfl (Nat.le_of_ble_eq_true rfl) ?_
  show G X 12 RX10 cX10_fault 1 (some .int) (Qi (fun r M1 => IM M1 ∧ Fr (fun c => 97 ≤ c ∧ c ≤ 116) M M1 ∧ M1 99 0 = M 99 0 ∧ M1 99 1 = M 99 1 ∧ M1 99 2 = M 99 2 ∧ M1 99 3 = M 99 3 ∧ M1 100 0 = M 100 0 ∧ M1 100 1 = M 100 1 ∧ M1 100 2 = M 100 2 ∧ M1 100 3 = M 100 3 ∧ M1 100 49 = M 100 49 ∧ M1 100 50 = M 100 50 ∧ M1 100 51 = M 100 51 ∧ M1 100 52 = M 100 52 ∧ M1 103 0 = M 103 0 ∧ M1 103 1 = M 103 1 ∧ M1 97 12 = M 97 12 ∧ (inI r))) 0 [(0, vr X 97)] [] M
  have p0 := hi.1.1
  have p1 := hi.1.2.1
  have p2 := hi.1.2.2.1
  have p3 := hi.1.2.2.2.1
  have p12 := hi.2.2.2.1
  refine g_aload_n (pc' := 1) 0 dX10_fault_0 rfl rfl ?_
  refine g_iconst (pc' := 2) dX10_fault_1 rfl ?_
  refine g_putI (pc' := 5) dX10_fault_2 rfl p_X10_77 rfl rfl (by decide) (fun M1 hM1 => ?_)
  have iM1 : IM M1 := IM.wr hi hM1 (by unfold okv; first | decide | omega)
  have fM1 : Fr (fun c => 97 ≤ c ∧ c ≤ 116) M M1 := Fr.wr Fr.rf hM1 (by first | decide | omega | (dsimp only; omega))
  have q99_0_M1 : (M1 99 0 = M 99 0) := (show M1 99 0 = M 99 0 by rw [hM1]; exact mu_ne _ _ (by first | decide | omega))
  have q99_1_M1 : (M1 99 1 = M 99 1) := (show M1 99 1 = M 99 1 by rw [hM1]; exact mu_ne _ _ (by first | decide | omega))
  have q99_2_M1 : (M1 99 2 = M 99 2) := (show M1 99 2 = M 99 2 by rw [hM1]; exact mu_ne _ _ (by first | decide | omega))
  have q99_3_M1 : (M1 99 3 = M 99 3) := (show M1 99 3 = M 99 3 by rw [hM1]; exact mu_ne _ _ (by first | decide | omega))
  have q100_0_M1 : id (M1 100 0 = M 100 0) := (show M1 100 0 = M 100 0 by rw [hM1]; exact mu_ne _ _ (by first | decide | omega))
  have q100_1_M1 : id (M1 100 1 = M 100 1) := (show M1 100 1 = M 100 1 by rw [hM1]; exact mu_ne _ _ (by first | decide | omega))
  have q100_2_M1 : id (M1 100 2 = M 100 2) := (show M1 100 2 = M 100 2 by rw [hM1]; exact mu_ne _ _ (by first | decide | omega))
  have q100_3_M1 : id (M1 100 3 = M 100 3) := (show M1 100 3 = M 100 3 by rw [hM1]; exact mu_ne _ _ (by first | decide | omega))
  have q100_49_M1 : id (M1 100 49 = M 100 49) := (show M1 100 49 = M 100 49 by rw [hM1]; exact mu_ne _ _ (by first | decide | omega))
  have q100_50_M1 : id (M1 100 50 = M 100 50) := (show M1 100 50 = M 100 50 by rw [hM1]; exact mu_ne _ _ (by first | decide | omega))
  have q100_51_M1 : id (M1 100 51 = M 100 51) := (show M1 100 51 = M 100 51 by rw [hM1]; exact mu_ne _ _ (by first | decide | omega))
  have q100_52_M1 : id (M1 100 52 = M 100 52) := (show M1 100 52 = M 100 52 by rw [hM1]; exact mu_ne _ _ (by first | decide | omega))
  have q103_0_M1 : id (M1 103 0 = M 103 0) := (show M1 103 0 = M 103 0 by rw [hM1]; exact mu_ne _ _ (by first | decide | omega))
  have q103_1_M1 : id (M1 103 1 = M 103 1) := (show M1 103 1 = M 103 1 by rw [hM1]; exact mu_ne _ _ (by first | decide | omega))
  have q97_12_M1 : (M1 97 12 = M 97 12) := (show M1 97 12 = M 97 12 by rw [hM1]; exact mu_ne _ _ (by first | decide | omega))
  have xM1_97_0 : M1 97 0 = 0 := by rw [hM1]; exact mu_at _ _ _ _
  refine g_aload_n (pc' := 6) 0 dX10_fault_5 rfl rfl ?_
  refine g_getI (pc' := 9) dX10_fault_6 rfl f_X10_39 rfl rfl (fun v2 ev2 rv2 => ?_)
  refine g_ireturn dX10_fault_9 ?_
  exact ⟨iM1, fM1, q99_0_M1, q99_1_M1, q99_2_M1, q99_3_M1, q100_0_M1, q100_1_M1, q100_2_M1, q100_3_M1, q100_49_M1, q100_50_M1, q100_51_M1, q100_52_M1, q103_0_M1, q103_1_M1, q97_12_M1, by first | assumption | decide | omega⟩
set_option maxHeartbeats 4000000 in
set_option maxRecDepth 100000 in
theorem c_X10_stopped (X : Cx) (M : Mm) (hi : IM M) : Con X 12 yX10_stopped cX10_stopped 1 (some .int) [vr X 97] M (Qi (fun r M1 => IM M1 ∧ Fr (fun c => 97 ≤ c ∧ c ≤ 116) M M1 ∧ M1 99 0 = M 99 0 ∧ M1 99 1 = M 99 1 ∧ M1 99 2 = M 99 2 ∧ M1 99 3 = M 99 3 ∧ M1 100 0 = M 100 0 ∧ M1 100 1 = M 100 1 ∧ M1 100 2 = M 100 2 ∧ M1 100 3 = M 100 3 ∧ M1 100 49 = M 100 49 ∧ M1 100 50 = M 100 50 ∧ M1 100 51 = M 100 51 ∧ M1 100 52 = M 100 52 ∧ M1 103 0 = M 103 0 ∧ M1 103 1 = M 103 1 ∧ M1 97 12 = M 97 12 ∧ (inI r))) := by
  refine Con.ofG rfl (Nat.le_of_ble_eq_true rfl) ?_
  show G X 12 RX10 cX10_stopped 1 (some .int) (Qi (fun r M1 => IM M1 ∧ Fr (fun c => 97 ≤ c ∧ c ≤ 116) M M1 ∧ M1 99 0 = M 99 0 ∧ M1 99 1 = M 99 1 ∧ M1 99 2 = M 99 2 ∧ M1 99 3 = M 99 3 ∧ M1 100 0 = M 100 0 ∧ M1 100 1 = M 100 1 ∧ M1 100 2 = M 100 2 ∧ M1 100 3 = M 100 3 ∧ M1 100 49 = M 100 49 ∧ M1 100 50 = M 100 50 ∧ M1 100 51 = M 100 51 ∧ M1 100 52 = M 100 52 ∧ M1 103 0 = M 103 0 ∧ M1 103 1 = M 103 1 ∧ M1 97 12 = M 97 12 ∧ (inI r))) 0 [(0, vr X 97)] [] M
  have p0 := hi.1.1
  have p1 := hi.1.2.1
  have p2 := hi.1.2.2.1
  have p3 := hi.1.2.2.2.1
  have p12 := hi.2.2.2.1
  refine g_aload_n (pc' := 1) 0 dX10_stopped_0 rfl rfl ?_
  refine g_iconst (pc' := 2) dX10_stopped_1 rfl ?_
  refine g_putI (pc' := 5) dX10_stopped_2 rfl p_X10_77 rfl rfl (by decide) (fun M1 hM1 => ?_)
  have iM1 : IM M1 := IM.wr hi hM1 (by unfold okv; first | decide | omega)
  have fM1 : Fr (fun c => 97 ≤ c ∧ c ≤ 116) M M1 := Fr.wr Fr.rf hM1 (by first | decide | omega | (dsimp only; omega))
  have q99_0_M1 : (M1 99 0 = M 99 0) := (show M1 99 0 = M 99 0 by rw [hM1]; exact mu_ne _ _ (by first | decide | omega))
  have q99_1_M1 : (M1 99 1 = M 99 1) := (show M1 99 1 = M 99 1 by rw [hM1]; exact mu_ne _ _ (by first | decide | omega))
  have q99_2_M1 : (M1 99 2 = M 99 2) := (show M1 99 2 = M 99 2 by rw [hM1]; exact mu_ne _ _ (by first | decide | omega))
  have q99_3_M1 : (M1 99 3 = M 99 3) := (show M1 99 3 = M 99 3 by rw [hM1]; exact mu_ne _ _ (by first | decide | omega))
  have q100_0_M1 : id (M1 100 0 = M 100 0) := (show M1 100 0 = M 100 0 by rw [hM1]; exact mu_ne _ _ (by first | decide | omega))
  have q100_1_M1 : id (M1 100 1 = M 100 1) := (show M1 100 1 = M 100 1 by rw [hM1]; exact mu_ne _ _ (by first | decide | omega))
  have q100_2_M1 : id (M1 100 2 = M 100 2) := (show M1 100 2 = M 100 2 by rw [hM1]; exact mu_ne _ _ (by first | decide | omega))
  have q100_3_M1 : id (M1 100 3 = M 100 3) := (show M1 100 3 = M 100 3 by rw [hM1]; exact mu_ne _ _ (by first | decide | omega))
  have q100_49_M1 : id (M1 100 49 = M 100 49) := (show M1 100 49 = M 100 49 by rw [hM1]; exact mu_ne _ _ (by first | decide | omega))
  have q100_50_M1 : id (M1 100 50 = M 100 50) := (show M1 100 50 = M 100 50 by rw [hM1]; exact mu_ne _ _ (by first | decide | omega))
  have q100_51_M1 : id (M1 100 51 = M 100 51) := (show M1 100 51 = M 100 51 by rw [hM1]; exact mu_ne _ _ (by first | decide | omega))
  have q100_52_M1 : id (M1 100 52 = M 100 52) := (show M1 100 52 = M 100 52 by rw [hM1]; exact mu_ne _ _ (by first | decide | omega))
  have q103_0_M1 : id (M1 103 0 = M 103 0) := (show M1 103 0 = M 103 0 by rw [hM1]; exact mu_ne _ _ (by first | decide | omega))
  have q103_1_M1 : id (M1 103 1 = M 103 1) := (show M1 103 1 = M 103 1 by rw [hM1]; exact mu_ne _ _ (by first | decide | omega))
  have q97_12_M1 : (M1 97 12 = M 97 12) := (show M1 97 12 = M 97 12 by rw [hM1]; exact mu_ne _ _ (by first | decide | omega))
  have xM1_97_0 : M1 97 0 = 0 := by rw [hM1]; exact mu_at _ _ _ _
  refine g_aload_n (pc' := 6) 0 dX10_stopped_5 rfl rfl ?_
  refine g_getI (pc' := 9) dX10_stopped_6 rfl f_X10_61 rfl rfl (fun v2 ev2 rv2 => ?_)
  refine g_ireturn dX10_stopped_9 ?_
  exact ⟨iM1, fM1, q99_0_M1, q99_1_M1, q99_2_M1, q99_3_M1, q100_0_M1, q100_1_M1, q100_2_M1, q100_3_M1, q100_49_M1, q100_50_M1, q100_51_M1, q100_52_M1, q103_0_M1, q103_1_M1, q97_12_M1, by first | assumption | decide | omega⟩
set_option maxHeartbeats 4000000 in
set_option maxRecDepth 100000 in
theorem c_X10_status (X : Cx) (M : Mm) (hi : IM M) : Con X 12 yX10_status cX10_status 1 (some .int) [vr X 97] M (Qi (fun r M1 => IM M1 ∧ Fr (fun c => 97 ≤ c ∧ c ≤ 116) M M1 ∧ M1 99 0 = M 99 0 ∧ M1 99 1 = M 99 1 ∧ M1 99 2 = M 99 2 ∧ M1 99 3 = M 99 3 ∧ M1 100 0 = M 100 0 ∧ M1 100 1 = M 100 1 ∧ M1 100 2 = M 100 2 ∧ M1 100 3 = M 100 3 ∧ M1 100 49 = M 100 49 ∧ M1 100 50 = M 100 50 ∧ M1 100 51 = M 100 51 ∧ M1 100 52 = M 100 52 ∧ M1 103 0 = M 103 0 ∧ M1 103 1 = M 103 1 ∧ M1 97 12 = M 97 12 ∧ (inI r))) := by
  refine Con.ofG rfl (Nat.le_of_ble_eq_true rfl) ?_
  show G X 12 RX10 cX10_status 1 (some .int) (Qi (fun r M1 => IM M1 ∧ Fr (fun c => 97 ≤ c ∧ c ≤ 116) M M1 ∧ M1 99 0 = M 99 0 ∧ M1 99 1 = M 99 1 ∧ M1 99 2 = M 99 2 ∧ M1 99 3 = M 99 3 ∧ M1 100 0 = M 100 0 ∧ M1 100 1 = M 100 1 ∧ M1 100 2 = M 100 2 ∧ M1 100 3 = M 100 3 ∧ M1 100 49 = M 100 49 ∧ M1 100 50 = M 100 50 ∧ M1 100 51 = M 100 51 ∧ M1 100 52 = M 100 52 ∧ M1 103 0 = M 103 0 ∧ M1 103 1 = M 103 1 ∧ M1 97 12 = M 97 12 ∧ (inI r))) 0 [(0, vr X 97)] [] M
  have p0 := hi.1.1
  have p1 := hi.1.2.1
  have p2 := hi.1.2.2.1
  have p3 := hi.1.2.2.2.1
  have p12 := hi.2.2.2.1
  refine g_aload_n (pc' := 1) 0 dX10_status_0 rfl rfl ?_
  refine g_iconst (pc' := 2) dX10_status_1 rfl ?_
  refine g_putI (pc' := 5) dX10_status_2 rfl p_X10_77 rfl rfl (by decide) (fun M1 hM1 => ?_)
  have iM1 : IM M1 := IM.wr hi hM1 (by unfold okv; first | decide | omega)
  have fM1 : Fr (fun c => 97 ≤ c ∧ c ≤ 116) M M1 := Fr.wr Fr.rf hM1 (by first | decide | omega | (dsimp only; omega))
  have q99_0_M1 : (M1 99 0 = M 99 0) := (show M1 99 0 = M 99 0 by rw [hM1]; exact mu_ne _ _ (by first | decide | omega))
  have q99_1_M1 : (M1 99 1 = M 99 1) := (show M1 99 1 = M 99 1 by rw [hM1]; exact mu_ne _ _ (by first | decide | omega))
  have q99_2_M1 : (M1 99 2 = M 99 2) := (show M1 99 2 = M 99 2 by rw [hM1]; exact mu_ne _ _ (by first | decide | omega))
  have q99_3_M1 : (M1 99 3 = M 99 3) := (show M1 99 3 = M 99 3 by rw [hM1]; exact mu_ne _ _ (by first | decide | omega))
  have q100_0_M1 : id (M1 100 0 = M 100 0) := (show M1 100 0 = M 100 0 by rw [hM1]; exact mu_ne _ _ (by first | decide | omega))
  have q100_1_M1 : id (M1 100 1 = M 100 1) := (show M1 100 1 = M 100 1 by rw [hM1]; exact mu_ne _ _ (by first | decide | omega))
  have q100_2_M1 : id (M1 100 2 = M 100 2) := (show M1 100 2 = M 100 2 by rw [hM1]; exact mu_ne _ _ (by first | decide | omega))
  have q100_3_M1 : id (M1 100 3 = M 100 3) := (show M1 100 3 = M 100 3 by rw [hM1]; exact mu_ne _ _ (by first | decide | omega))
  have q100_49_M1 : id (M1 100 49 = M 100 49) := (show M1 100 49 = M 100 49 by rw [hM1]; exact mu_ne _ _ (by first | decide | omega))
  have q100_50_M1 : id (M1 100 50 = M 100 50) := (show M1 100 50 = M 100 50 by rw [hM1]; exact mu_ne _ _ (by first | decide | omega))
  have q100_51_M1 : id (M1 100 51 = M 100 51) := (show M1 100 51 = M 100 51 by rw [hM1]; exact mu_ne _ _ (by first | decide | omega))
  have q100_52_M1 : id (M1 100 52 = M 100 52) := (show M1 100 52 = M 100 52 by rw [hM1]; exact mu_ne _ _ (by first | decide | omega))
  have q103_0_M1 : id (M1 103 0 = M 103 0) := (show M1 103 0 = M 103 0 by rw [hM1]; exact mu_ne _ _ (by first | decide | omega))
  have q103_1_M1 : id (M1 103 1 = M 103 1) := (show M1 103 1 = M 103 1 by rw [hM1]; exact mu_ne _ _ (by first | decide | omega))
  have q97_12_M1 : (M1 97 12 = M 97 12) := (show M1 97 12 = M 97 12 by rw [hM1]; exact mu_ne _ _ (by first | decide | omega))
  have xM1_97_0 : M1 97 0 = 0 := by rw [hM1]; exact mu_at _ _ _ _
  refine g_aload_n (pc' := 6) 0 dX10_status_5 rfl rfl ?_
  refine g_getI (pc' := 9) dX10_status_6 rfl f_X10_80 rfl rfl (fun v2 ev2 rv2 => ?_)
  refine g_ireturn dX10_status_9 ?_
  exact ⟨iM1, fM1, q99_0_M1, q99_1_M1, q99_2_M1, q99_3_M1, q100_0_M1, q100_1_M1, q100_2_M1, q100_3_M1, q100_49_M1, q100_50_M1, q100_51_M1, q100_52_M1, q103_0_M1, q103_1_M1, q97_12_M1, by first | assumption | decide | omega⟩
set_option maxHeartbeats 4000000 in
set_option maxRecDepth 100000 in
theorem c_X10_end (X : Cx) (M : Mm) (hi : IM M) (a : Int) (ha : inI a) : Con X 12 yX10_end cX10_end 2 (some .int) [vr X 97, vi a] M (Qi (fun r M1 => IM M1 ∧ Fr (fun c => 97 ≤ c ∧ c ≤ 116) M M1 ∧ M1 99 0 = M 99 0 ∧ M1 99 1 = M 99 1 ∧ M1 99 2 = M 99 2 ∧ M1 99 3 = M 99 3 ∧ M1 100 0 = M 100 0 ∧ M1 100 1 = M 100 1 ∧ M1 100 2 = M 100 2 ∧ M1 100 3 = M 100 3 ∧ M1 100 49 = M 100 49 ∧ M1 100 50 = M 100 50 ∧ M1 100 51 = M 100 51 ∧ M1 100 52 = M 100 52 ∧ M1 103 0 = M 103 0 ∧ M1 103 1 = M 103 1 ∧ (((0 ≤ a ∧ a ≤ M 97 12) → r = a ∧ M1 97 12 = a) ∧ ((a < 0 ∨ M 97 12 < a) → r = -1 ∧ M1 97 12 = M 97 12)))) := by
  refine Con.ofG rfl (Nat.le_of_ble_eq_true rfl) ?_
  show G X 12 RX10 cX10_end 2 (some .int) (Qi (fun r M1 => IM M1 ∧ Fr (fun c => 97 ≤ c ∧ c ≤ 116) M M1 ∧ M1 99 0 = M 99 0 ∧ M1 99 1 = M 99 1 ∧ M1 99 2 = M 99 2 ∧ M1 99 3 = M 99 3 ∧ M1 100 0 = M 100 0 ∧ M1 100 1 = M 100 1 ∧ M1 100 2 = M 100 2 ∧ M1 100 3 = M 100 3 ∧ M1 100 49 = M 100 49 ∧ M1 100 50 = M 100 50 ∧ M1 100 51 = M 100 51 ∧ M1 100 52 = M 100 52 ∧ M1 103 0 = M 103 0 ∧ M1 103 1 = M 103 1 ∧ (((0 ≤ a ∧ a ≤ M 97 12) → r = a ∧ M1 97 12 = a) ∧ ((a < 0 ∨ M 97 12 < a) → r = -1 ∧ M1 97 12 = M 97 12)))) 0 [(0, vr X 97), (1, vi a)] [] M
  have p0 := hi.1.1
  have p1 := hi.1.2.1
  have p2 := hi.1.2.2.1
  have p3 := hi.1.2.2.2.1
  have p12 := hi.2.2.2.1
  refine g_aload_n (pc' := 1) 0 dX10_end_0 rfl rfl ?_
  refine g_iconst (pc' := 2) dX10_end_1 rfl ?_
  refine g_putI (pc' := 5) dX10_end_2 rfl p_X10_77 rfl rfl (by decide) (fun M1 hM1 => ?_)
  have iM1 : IM M1 := IM.wr hi hM1 (by unfold okv; first | decide | omega)
  have fM1 : Fr (fun c => 97 ≤ c ∧ c ≤ 116) M M1 := Fr.wr Fr.rf hM1 (by first | decide | omega | (dsimp only; omega))
  have q99_0_M1 : (M1 99 0 = M 99 0) := (show M1 99 0 = M 99 0 by rw [hM1]; exact mu_ne _ _ (by first | decide | omega))
  have q99_1_M1 : (M1 99 1 = M 99 1) := (show M1 99 1 = M 99 1 by rw [hM1]; exact mu_ne _ _ (by first | decide | omega))
  have q99_2_M1 : (M1 99 2 = M 99 2) := (show M1 99 2 = M 99 2 by rw [hM1]; exact mu_ne _ _ (by first | decide | omega))
  have q99_3_M1 : (M1 99 3 = M 99 3) := (show M1 99 3 = M 99 3 by rw [hM1]; exact mu_ne _ _ (by first | decide | omega))
  have q100_0_M1 : id (M1 100 0 = M 100 0) := (show M1 100 0 = M 100 0 by rw [hM1]; exact mu_ne _ _ (by first | decide | omega))
  have q100_1_M1 : id (M1 100 1 = M 100 1) := (show M1 100 1 = M 100 1 by rw [hM1]; exact mu_ne _ _ (by first | decide | omega))
  have q100_2_M1 : id (M1 100 2 = M 100 2) := (show M1 100 2 = M 100 2 by rw [hM1]; exact mu_ne _ _ (by first | decide | omega))
  have q100_3_M1 : id (M1 100 3 = M 100 3) := (show M1 100 3 = M 100 3 by rw [hM1]; exact mu_ne _ _ (by first | decide | omega))
  have q100_49_M1 : id (M1 100 49 = M 100 49) := (show M1 100 49 = M 100 49 by rw [hM1]; exact mu_ne _ _ (by first | decide | omega))
  have q100_50_M1 : id (M1 100 50 = M 100 50) := (show M1 100 50 = M 100 50 by rw [hM1]; exact mu_ne _ _ (by first | decide | omega))
  have q100_51_M1 : id (M1 100 51 = M 100 51) := (show M1 100 51 = M 100 51 by rw [hM1]; exact mu_ne _ _ (by first | decide | omega))
  have q100_52_M1 : id (M1 100 52 = M 100 52) := (show M1 100 52 = M 100 52 by rw [hM1]; exact mu_ne _ _ (by first | decide | omega))
  have q103_0_M1 : id (M1 103 0 = M 103 0) := (show M1 103 0 = M 103 0 by rw [hM1]; exact mu_ne _ _ (by first | decide | omega))
  have q103_1_M1 : id (M1 103 1 = M 103 1) := (show M1 103 1 = M 103 1 by rw [hM1]; exact mu_ne _ _ (by first | decide | omega))
  have q97_12_M1 : (M1 97 12 = M 97 12) := (show M1 97 12 = M 97 12 by rw [hM1]; exact mu_ne _ _ (by first | decide | omega))
  have wM1_97_12 : M1 97 12 = M 97 12 := by rw [hM1]; exact mu_ne _ _ (by first | decide | omega)
  have xM1_97_0 : M1 97 0 = 0 := by rw [hM1]; exact mu_at _ _ _ _
  refine g_iload_n (pc' := 6) 1 dX10_end_5 rfl rfl ?_
  refine g_if_lt (pc' := 9) (tgt := 17) ha dX10_end_6 rfl rfl (fun c2 => ?_) (fun c2 => ?_)
  · refine g_iconst (pc' := 18) dX10_end_17 rfl ?_
    refine g_ireturn dX10_end_18 ?_
    exact ⟨iM1, fM1, q99_0_M1, q99_1_M1, q99_2_M1, q99_3_M1, q100_0_M1, q100_1_M1, q100_2_M1, q100_3_M1, q100_49_M1, q100_50_M1, q100_51_M1, q100_52_M1, q103_0_M1, q103_1_M1, by omega⟩
  · refine g_iload_n (pc' := 10) 1 dX10_end_9 rfl rfl ?_
    refine g_aload_n (pc' := 11) 0 dX10_end_10 rfl rfl ?_
    refine g_getI (pc' := 14) dX10_end_11 rfl f_X10_142 rfl rfl (fun v3 ev3 rv3 => ?_)
    have bv3 : 0 ≤ v3 ∧ v3 ≤ 400 := by rw [ev3]; exact iM1.2.2.2.1
    have av3 : v3 = M 97 12 := ev3.trans q97_12_M1
    refine g_ic_le (pc' := 17) (tgt := 19) ha rv3 dX10_end_14 rfl rfl (fun c4 => ?_) (fun c4 => ?_)
    · refine g_aload_n (pc' := 20) 0 dX10_end_19 rfl rfl ?_
      refine g_iload_n (pc' := 21) 1 dX10_end_20 rfl rfl ?_
      refine g_putI (pc' := 24) dX10_end_21 rfl p_X10_142 rfl rfl ha (fun M5 hM5 => ?_)
      have iM5 : IM M5 := IM.wr iM1 hM5 (by unfold okv; first | decide | omega)
      have fM5 : Fr (fun c => 97 ≤ c ∧ c ≤ 116) M M5 := Fr.wr fM1 hM5 (by first | decide | omega | (dsimp only; omega))
      have q99_0_M5 : (M5 99 0 = M 99 0) := (show M5 99 0 = M1 99 0 by rw [hM5]; exact mu_ne _ _ (by first | decide | omega)).trans q99_0_M1
      have q99_1_M5 : (M5 99 1 = M 99 1) := (show M5 99 1 = M1 99 1 by rw [hM5]; exact mu_ne _ _ (by first | decide | omega)).trans q99_1_M1
      have q99_2_M5 : (M5 99 2 = M 99 2) := (show M5 99 2 = M1 99 2 by rw [hM5]; exact mu_ne _ _ (by first | decide | omega)).trans q99_2_M1
      have q99_3_M5 : (M5 99 3 = M 99 3) := (show M5 99 3 = M1 99 3 by rw [hM5]; exact mu_ne _ _ (by first | decide | omega)).trans q99_3_M1
      have q100_0_M5 : id (M5 100 0 = M 100 0) := (show M5 100 0 = M1 100 0 by rw [hM5]; exact mu_ne _ _ (by first | decide | omega)).trans q100_0_M1
      have q100_1_M5 : id (M5 100 1 = M 100 1) := (show M5 100 1 = M1 100 1 by rw [hM5]; exact mu_ne _ _ (by first | decide | omega)).trans q100_1_M1
      have q100_2_M5 : id (M5 100 2 = M 100 2) := (show M5 100 2 = M1 100 2 by rw [hM5]; exact mu_ne _ _ (by first | decide | omega)).trans q100_2_M1
      have q100_3_M5 : id (M5 100 3 = M 100 3) := (show M5 100 3 = M1 100 3 by rw [hM5]; exact mu_ne _ _ (by first | decide | omega)).trans q100_3_M1
      have q100_49_M5 : id (M5 100 49 = M 100 49) := (show M5 100 49 = M1 100 49 by rw [hM5]; exact mu_ne _ _ (by first | decide | omega)).trans q100_49_M1
      have q100_50_M5 : id (M5 100 50 = M 100 50) := (show M5 100 50 = M1 100 50 by rw [hM5]; exact mu_ne _ _ (by first | decide | omega)).trans q100_50_M1
      have q100_51_M5 : id (M5 100 51 = M 100 51) := (show M5 100 51 = M1 100 51 by rw [hM5]; exact mu_ne _ _ (by first | decide | omega)).trans q100_51_M1
      have q100_52_M5 : id (M5 100 52 = M 100 52) := (show M5 100 52 = M1 100 52 by rw [hM5]; exact mu_ne _ _ (by first | decide | omega)).trans q100_52_M1
      have q103_0_M5 : id (M5 103 0 = M 103 0) := (show M5 103 0 = M1 103 0 by rw [hM5]; exact mu_ne _ _ (by first | decide | omega)).trans q103_0_M1
      have q103_1_M5 : id (M5 103 1 = M 103 1) := (show M5 103 1 = M1 103 1 by rw [hM5]; exact mu_ne _ _ (by first | decide | omega)).trans q103_1_M1
      have xM5_97_0 : M5 97 0 = 0 := (show M5 97 0 = M1 97 0 by rw [hM5]; exact mu_ne _ _ (by first | decide | omega)).trans xM1_97_0
      have xM5_97_12 : M5 97 12 = a := by rw [hM5]; exact mu_at _ _ _ _
      refine g_iload_n (pc' := 25) 1 dX10_end_24 rfl rfl ?_
      refine g_ireturn dX10_end_25 ?_
      exact ⟨iM5, fM5, q99_0_M5, q99_1_M5, q99_2_M5, q99_3_M5, q100_0_M5, q100_1_M5, q100_2_M5, q100_3_M5, q100_49_M5, q100_50_M5, q100_51_M5, q100_52_M5, q103_0_M5, q103_1_M5, by omega⟩
    · refine g_iconst (pc' := 18) dX10_end_17 rfl ?_
      refine g_ireturn dX10_end_18 ?_
      exact ⟨iM1, fM1, q99_0_M1, q99_1_M1, q99_2_M1, q99_3_M1, q100_0_M1, q100_1_M1, q100_2_M1, q100_3_M1, q100_49_M1, q100_50_M1, q100_51_M1, q100_52_M1, q103_0_M1, q103_1_M1, by omega⟩
set_option maxHeartbeats 4000000 in
set_option maxRecDepth 100000 in
theorem l_X10_four_3 (X : Cx) (M : Mm) (hi : IM M) (a : Int) (ha : inI a) (hl : M 97 12 ≤ 396) : ∀ (kk : Nat) (s : Int) (M1 : Mm) (ic1 : IM M1) (fr1 : Fr (fun c => 97 ≤ c ∧ c ≤ 116) M M1) (q99_0 : (M1 99 0 = M 99 0)) (q99_1 : (M1 99 1 = M 99 1)) (q99_2 : (M1 99 2 = M 99 2)) (q99_3 : (M1 99 3 = M 99 3)) (q100_0 : id (M1 100 0 = M 100 0)) (q100_1 : id (M1 100 1 = M 100 1)) (q100_2 : id (M1 100 2 = M 100 2)) (q100_3 : id (M1 100 3 = M 100 3)) (q100_49 : id (M1 100 49 = M 100 49)) (q100_50 : id (M1 100 50 = M 100 50)) (q100_51 : id (M1 100 51 = M 100 51)) (q100_52 : id (M1 100 52 = M 100 52)) (q103_0 : id (M1 103 0 = M 103 0)) (q103_1 : id (M1 103 1 = M 103 1)) (hs : s = 24 ∨ s = 16 ∨ s = 8 ∨ s = 0 ∨ s = -8) (hl2 : 8 * (M1 97 12 - M 97 12) = 24 - s), (s + 8).toNat = kk → G X 0 RX10 cX10_four 3 none (Qv (fun M1 => IM M1 ∧ Fr (fun c => 97 ≤ c ∧ c ≤ 116) M M1 ∧ M1 99 0 = M 99 0 ∧ M1 99 1 = M 99 1 ∧ M1 99 2 = M 99 2 ∧ M1 99 3 = M 99 3 ∧ M1 100 0 = M 100 0 ∧ M1 100 1 = M 100 1 ∧ M1 100 2 = M 100 2 ∧ M1 100 3 = M 100 3 ∧ M1 100 49 = M 100 49 ∧ M1 100 50 = M 100 50 ∧ M1 100 51 = M 100 51 ∧ M1 100 52 = M 100 52 ∧ M1 103 0 = M 103 0 ∧ M1 103 1 = M 103 1 ∧ (M1 97 12 = M 97 12 + 4))) 3 [(2, vi s), (0, vr X 97), (1, vi a)] [] M1 := by
  intro kk
  induction kk using Nat.strongRecOn with
  | ind kk ih =>
    intro s M1 ic1 fr1 q99_0 q99_1 q99_2 q99_3 q100_0 q100_1 q100_2 q100_3 q100_49 q100_50 q100_51 q100_52 q103_0 q103_1 hs hl2 hmes
    have p0 := hi.1.1
    have p1 := hi.1.2.1
    have p2 := hi.1.2.2.1
    have p3 := hi.1.2.2.2.1
    have p12 := hi.2.2.2.1
    refine g_iload_n (pc' := 4) 0 dX10_four_3 rfl rfl ?_
    refine g_if_lt (pc' := 7) (tgt := 39) ⟨by omega, by omega⟩ dX10_four_4 rfl rfl (fun c1 => ?_) (fun c1 => ?_)
    · refine g_vreturn dX10_four_39 ?_
      exact ⟨ic1, fr1, q99_0, q99_1, q99_2, q99_3, q100_0, q100_1, q100_2, q100_3, q100_49, q100_50, q100_51, q100_52, q103_0, q103_1, by omega⟩
    · refine g_aload_n (pc' := 8) 1 dX10_four_7 rfl rfl ?_
      refine g_getR (pc' := 11) dX10_four_8 rfl f_X10_36 rfl rfl ?_
      refine g_aload_n (pc' := 12) 1 dX10_four_11 rfl rfl ?_
      refine g_getI (pc' := 15) dX10_four_12 rfl f_X10_142 rfl rfl (fun v2 ev2 rv2 => ?_)
      have bv2 : 0 ≤ v2 ∧ v2 ≤ 400 := by rw [ev2]; exact ic1.2.2.2.1
      refine g_iload_n (pc' := 16) 2 dX10_four_15 rfl rfl ?_
      refine g_iload_n (pc' := 17) 0 dX10_four_16 rfl rfl ?_
      refine g_ishr (pc' := 18) dX10_four_17 rfl (fun r3 => ?_)
      refine g_sipush (pc' := 21) (v := 255) dX10_four_18 rfl (by decide) ?_
      refine g_iand (pc' := 22) dX10_four_21 rfl (fun r4 => ?_)
      refine g_iast (pc' := 23) dX10_four_22 rfl rfl (by omega) (by omega) r4 (fun M5 hM5 => ?_)
      have iM5 : IM M5 := IM.wr ic1 hM5 (by unfold okv; first | decide | omega)
      have fM5 : Fr (fun c => 97 ≤ c ∧ c ≤ 116) M M5 := Fr.wr fr1 hM5 (by first | decide | omega | (dsimp only; omega))
      have q99_0_M5 : (M5 99 0 = M 99 0) := (show M5 99 0 = M1 99 0 by rw [hM5]; exact mu_ne _ _ (by first | decide | omega)).trans q99_0
      have q99_1_M5 : (M5 99 1 = M 99 1) := (show M5 99 1 = M1 99 1 by rw [hM5]; exact mu_ne _ _ (by first | decide | omega)).trans q99_1
      have q99_2_M5 : (M5 99 2 = M 99 2) := (show M5 99 2 = M1 99 2 by rw [hM5]; exact mu_ne _ _ (by first | decide | omega)).trans q99_2
      have q99_3_M5 : (M5 99 3 = M 99 3) := (show M5 99 3 = M1 99 3 by rw [hM5]; exact mu_ne _ _ (by first | decide | omega)).trans q99_3
      have q100_0_M5 : id (M5 100 0 = M 100 0) := (show M5 100 0 = M1 100 0 by rw [hM5]; exact mu_ne _ _ (by first | decide | omega)).trans q100_0
      have q100_1_M5 : id (M5 100 1 = M 100 1) := (show M5 100 1 = M1 100 1 by rw [hM5]; exact mu_ne _ _ (by first | decide | omega)).trans q100_1
      have q100_2_M5 : id (M5 100 2 = M 100 2) := (show M5 100 2 = M1 100 2 by rw [hM5]; exact mu_ne _ _ (by first | decide | omega)).trans q100_2
      have q100_3_M5 : id (M5 100 3 = M 100 3) := (show M5 100 3 = M1 100 3 by rw [hM5]; exact mu_ne _ _ (by first | decide | omega)).trans q100_3
      have q100_49_M5 : id (M5 100 49 = M 100 49) := (show M5 100 49 = M1 100 49 by rw [hM5]; exact mu_ne _ _ (by first | decide | omega)).trans q100_49
      have q100_50_M5 : id (M5 100 50 = M 100 50) := (show M5 100 50 = M1 100 50 by rw [hM5]; exact mu_ne _ _ (by first | decide | omega)).trans q100_50
      have q100_51_M5 : id (M5 100 51 = M 100 51) := (show M5 100 51 = M1 100 51 by rw [hM5]; exact mu_ne _ _ (by first | decide | omega)).trans q100_51
      have q100_52_M5 : id (M5 100 52 = M 100 52) := (show M5 100 52 = M1 100 52 by rw [hM5]; exact mu_ne _ _ (by first | decide | omega)).trans q100_52
      have q103_0_M5 : id (M5 103 0 = M 103 0) := (show M5 103 0 = M1 103 0 by rw [hM5]; exact mu_ne _ _ (by first | decide | omega)).trans q103_0
      have q103_1_M5 : id (M5 103 1 = M 103 1) := (show M5 103 1 = M1 103 1 by rw [hM5]; exact mu_ne _ _ (by first | decide | omega)).trans q103_1
      have wM5_97_12 : M5 97 12 = M1 97 12 := by rw [hM5]; exact mu_ne _ _ (by first | decide | omega)
      refine g_aload_n (pc' := 24) 1 dX10_four_23 rfl rfl ?_
      refine g_dup (pc' := 25) dX10_four_24 rfl rfl ?_
      refine g_getI (pc' := 28) dX10_four_25 rfl f_X10_142 rfl rfl (fun v6 ev6 rv6 => ?_)
      have bv6 : 0 ≤ v6 ∧ v6 ≤ 400 := by rw [ev6]; exact iM5.2.2.2.1
      refine g_iconst (pc' := 29) dX10_four_28 rfl ?_
      refine g_iadd (pc' := 30) dX10_four_29 rfl ?_
      refine g_putI (pc' := 33) dX10_four_30 rfl p_X10_142 rfl rfl ⟨by omega, by omega⟩ (fun M7 hM7 => ?_)
      have iM7 : IM M7 := IM.wr iM5 hM7 (by unfold okv; first | decide | omega)
      have fM7 : Fr (fun c => 97 ≤ c ∧ c ≤ 116) M M7 := Fr.wr fM5 hM7 (by first | decide | omega | (dsimp only; omega))
      have q99_0_M7 : (M7 99 0 = M 99 0) := (show M7 99 0 = M5 99 0 by rw [hM7]; exact mu_ne _ _ (by first | decide | omega)).trans q99_0_M5
      have q99_1_M7 : (M7 99 1 = M 99 1) := (show M7 99 1 = M5 99 1 by rw [hM7]; exact mu_ne _ _ (by first | decide | omega)).trans q99_1_M5
      have q99_2_M7 : (M7 99 2 = M 99 2) := (show M7 99 2 = M5 99 2 by rw [hM7]; exact mu_ne _ _ (by first | decide | omega)).trans q99_2_M5
      have q99_3_M7 : (M7 99 3 = M 99 3) := (show M7 99 3 = M5 99 3 by rw [hM7]; exact mu_ne _ _ (by first | decide | omega)).trans q99_3_M5
      have q100_0_M7 : id (M7 100 0 = M 100 0) := (show M7 100 0 = M5 100 0 by rw [hM7]; exact mu_ne _ _ (by first | decide | omega)).trans q100_0_M5
      have q100_1_M7 : id (M7 100 1 = M 100 1) := (show M7 100 1 = M5 100 1 by rw [hM7]; exact mu_ne _ _ (by first | decide | omega)).trans q100_1_M5
      have q100_2_M7 : id (M7 100 2 = M 100 2) := (show M7 100 2 = M5 100 2 by rw [hM7]; exact mu_ne _ _ (by first | decide | omega)).trans q100_2_M5
      have q100_3_M7 : id (M7 100 3 = M 100 3) := (show M7 100 3 = M5 100 3 by rw [hM7]; exact mu_ne _ _ (by first | decide | omega)).trans q100_3_M5
      have q100_49_M7 : id (M7 100 49 = M 100 49) := (show M7 100 49 = M5 100 49 by rw [hM7]; exact mu_ne _ _ (by first | decide | omega)).trans q100_49_M5
      have q100_50_M7 : id (M7 100 50 = M 100 50) := (show M7 100 50 = M5 100 50 by rw [hM7]; exact mu_ne _ _ (by first | decide | omega)).trans q100_50_M5
      have q100_51_M7 : id (M7 100 51 = M 100 51) := (show M7 100 51 = M5 100 51 by rw [hM7]; exact mu_ne _ _ (by first | decide | omega)).trans q100_51_M5
      have q100_52_M7 : id (M7 100 52 = M 100 52) := (show M7 100 52 = M5 100 52 by rw [hM7]; exact mu_ne _ _ (by first | decide | omega)).trans q100_52_M5
      have q103_0_M7 : id (M7 103 0 = M 103 0) := (show M7 103 0 = M5 103 0 by rw [hM7]; exact mu_ne _ _ (by first | decide | omega)).trans q103_0_M5
      have q103_1_M7 : id (M7 103 1 = M 103 1) := (show M7 103 1 = M5 103 1 by rw [hM7]; exact mu_ne _ _ (by first | decide | omega)).trans q103_1_M5
      have xM7_97_12 : M7 97 12 = v6 + 1 := by rw [hM7]; exact mu_at _ _ _ _
      refine g_iinc (pc' := 36) (L' := [(2, vi (s + (-8))), (0, vr X 97), (1, vi a)]) 0 dX10_four_33 rfl rfl (by decide) rfl ?_
      refine g_goto (tgt := 3) dX10_four_36 rfl ?_
      refine g_sub [0, 1, 2] rfl ?_
      exact ih _ (by omega) (s + (-8)) M7 iM7 fM7 q99_0_M7 q99_1_M7 q99_2_M7 q99_3_M7 q100_0_M7 q100_1_M7 q100_2_M7 q100_3_M7 q100_49_M7 q100_50_M7 q100_51_M7 q100_52_M7 q103_0_M7 q103_1_M7 (by omega) (by omega) rfl
set_option maxHeartbeats 4000000 in
set_option maxRecDepth 100000 in
theorem c_X10_four (X : Cx) (M : Mm) (hi : IM M) (a : Int) (ha : inI a) (hl : M 97 12 ≤ 396) : Con X 0 yX10_four cX10_four 3 none [vr X 97, vi a] M (Qv (fun M1 => IM M1 ∧ Fr (fun c => 97 ≤ c ∧ c ≤ 116) M M1 ∧ M1 99 0 = M 99 0 ∧ M1 99 1 = M 99 1 ∧ M1 99 2 = M 99 2 ∧ M1 99 3 = M 99 3 ∧ M1 100 0 = M 100 0 ∧ M1 100 1 = M 100 1 ∧ M1 100 2 = M 100 2 ∧ M1 100 3 = M 100 3 ∧ M1 100 49 = M 100 49 ∧ M1 100 50 = M 100 50 ∧ M1 100 51 = M 100 51 ∧ M1 100 52 = M 100 52 ∧ M1 103 0 = M 103 0 ∧ M1 103 1 = M 103 1 ∧ (M1 97 12 = M 97 12 + 4))) := by
  refine Con.ofG rfl (Nat.le_of_ble_eq_true rfl) ?_
  show G X 0 RX10 cX10_four 3 none (Qv (fun M1 => IM M1 ∧ Fr (fun c => 97 ≤ c ∧ c ≤ 116) M M1 ∧ M1 99 0 = M 99 0 ∧ M1 99 1 = M 99 1 ∧ M1 99 2 = M 99 2 ∧ M1 99 3 = M 99 3 ∧ M1 100 0 = M 100 0 ∧ M1 100 1 = M 100 1 ∧ M1 100 2 = M 100 2 ∧ M1 100 3 = M 100 3 ∧ M1 100 49 = M 100 49 ∧ M1 100 50 = M 100 50 ∧ M1 100 51 = M 100 51 ∧ M1 100 52 = M 100 52 ∧ M1 103 0 = M 103 0 ∧ M1 103 1 = M 103 1 ∧ (M1 97 12 = M 97 12 + 4))) 0 [(0, vr X 97), (1, vi a)] [] M
  have p0 := hi.1.1
  have p1 := hi.1.2.1
  have p2 := hi.1.2.2.1
  have p3 := hi.1.2.2.2.1
  have p12 := hi.2.2.2.1
  refine g_bipush (pc' := 2) (v := 24) dX10_four_0 rfl (by decide) ?_
  refine g_istore_n (pc' := 3) (i := 2) (L' := [(2, vi 24), (0, vr X 97), (1, vi a)]) dX10_four_2 rfl rfl (by decide) rfl ?_
  refine g_sub [0, 1, 2] rfl ?_
  exact l_X10_four_3 X M hi a ha hl _ 24 M hi Fr.rf rfl rfl rfl rfl rfl rfl rfl rfl rfl rfl rfl rfl rfl rfl (by omega) (by omega) rfl
set_option maxHeartbeats 4000000 in
set_option maxRecDepth 100000 in
theorem c_X10_feed (X : Cx) (M : Mm) (hi : IM M) (a : Int) (ha : inI a) (b : Int) (hb : inI b) (c : Int) (hc : inI c) (e1 : Int) (he1 : inI e1) (e2 : Int) (he2 : inI e2) : Con X 12 yX10_feed cX10_feed 6 (some .int) [vr X 97, vi a, vi b, vi c, vi e1, vi e2] M (Qi (fun r M1 => IM M1 ∧ Fr (fun c => 97 ≤ c ∧ c ≤ 116) M M1 ∧ M1 99 0 = M 99 0 ∧ M1 99 1 = M 99 1 ∧ M1 99 2 = M 99 2 ∧ M1 99 3 = M 99 3 ∧ M1 100 0 = M 100 0 ∧ M1 100 1 = M 100 1 ∧ M1 100 2 = M 100 2 ∧ M1 100 3 = M 100 3 ∧ M1 100 49 = M 100 49 ∧ M1 100 50 = M 100 50 ∧ M1 100 51 = M 100 51 ∧ M1 100 52 = M 100 52 ∧ M1 103 0 = M 103 0 ∧ M1 103 1 = M 103 1 ∧ ((M 97 12 ≤ 380 → r = M 97 12 + 20 ∧ M1 97 12 = M 97 12 + 20) ∧ (380 < M 97 12 → r = -1 ∧ M1 97 12 = M 97 12)))) := by
  refine Con.ofG rfl (Nat.le_of_ble_eq_true rfl) ?_
  show G X 12 RX10 cX10_feed 6 (some .int) (Qi (fun r M1 => IM M1 ∧ Fr (fun c => 97 ≤ c ∧ c ≤ 116) M M1 ∧ M1 99 0 = M 99 0 ∧ M1 99 1 = M 99 1 ∧ M1 99 2 = M 99 2 ∧ M1 99 3 = M 99 3 ∧ M1 100 0 = M 100 0 ∧ M1 100 1 = M 100 1 ∧ M1 100 2 = M 100 2 ∧ M1 100 3 = M 100 3 ∧ M1 100 49 = M 100 49 ∧ M1 100 50 = M 100 50 ∧ M1 100 51 = M 100 51 ∧ M1 100 52 = M 100 52 ∧ M1 103 0 = M 103 0 ∧ M1 103 1 = M 103 1 ∧ ((M 97 12 ≤ 380 → r = M 97 12 + 20 ∧ M1 97 12 = M 97 12 + 20) ∧ (380 < M 97 12 → r = -1 ∧ M1 97 12 = M 97 12)))) 0 [(0, vr X 97), (1, vi a), (2, vi b), (3, vi c), (4, vi e1), (5, vi e2)] [] M
  have p0 := hi.1.1
  have p1 := hi.1.2.1
  have p2 := hi.1.2.2.1
  have p3 := hi.1.2.2.2.1
  have p12 := hi.2.2.2.1
  refine g_aload_n (pc' := 1) 0 dX10_feed_0 rfl rfl ?_
  refine g_iconst (pc' := 2) dX10_feed_1 rfl ?_
  refine g_putI (pc' := 5) dX10_feed_2 rfl p_X10_77 rfl rfl (by decide) (fun M1 hM1 => ?_)
  have iM1 : IM M1 := IM.wr hi hM1 (by unfold okv; first | decide | omega)
  have fM1 : Fr (fun c => 97 ≤ c ∧ c ≤ 116) M M1 := Fr.wr Fr.rf hM1 (by first | decide | omega | (dsimp only; omega))
  have q99_0_M1 : (M1 99 0 = M 99 0) := (show M1 99 0 = M 99 0 by rw [hM1]; exact mu_ne _ _ (by first | decide | omega))
  have q99_1_M1 : (M1 99 1 = M 99 1) := (show M1 99 1 = M 99 1 by rw [hM1]; exact mu_ne _ _ (by first | decide | omega))
  have q99_2_M1 : (M1 99 2 = M 99 2) := (show M1 99 2 = M 99 2 by rw [hM1]; exact mu_ne _ _ (by first | decide | omega))
  have q99_3_M1 : (M1 99 3 = M 99 3) := (show M1 99 3 = M 99 3 by rw [hM1]; exact mu_ne _ _ (by first | decide | omega))
  have q100_0_M1 : id (M1 100 0 = M 100 0) := (show M1 100 0 = M 100 0 by rw [hM1]; exact mu_ne _ _ (by first | decide | omega))
  have q100_1_M1 : id (M1 100 1 = M 100 1) := (show M1 100 1 = M 100 1 by rw [hM1]; exact mu_ne _ _ (by first | decide | omega))
  have q100_2_M1 : id (M1 100 2 = M 100 2) := (show M1 100 2 = M 100 2 by rw [hM1]; exact mu_ne _ _ (by first | decide | omega))
  have q100_3_M1 : id (M1 100 3 = M 100 3) := (show M1 100 3 = M 100 3 by rw [hM1]; exact mu_ne _ _ (by first | decide | omega))
  have q100_49_M1 : id (M1 100 49 = M 100 49) := (show M1 100 49 = M 100 49 by rw [hM1]; exact mu_ne _ _ (by first | decide | omega))
  have q100_50_M1 : id (M1 100 50 = M 100 50) := (show M1 100 50 = M 100 50 by rw [hM1]; exact mu_ne _ _ (by first | decide | omega))
  have q100_51_M1 : id (M1 100 51 = M 100 51) := (show M1 100 51 = M 100 51 by rw [hM1]; exact mu_ne _ _ (by first | decide | omega))
  have q100_52_M1 : id (M1 100 52 = M 100 52) := (show M1 100 52 = M 100 52 by rw [hM1]; exact mu_ne _ _ (by first | decide | omega))
  have q103_0_M1 : id (M1 103 0 = M 103 0) := (show M1 103 0 = M 103 0 by rw [hM1]; exact mu_ne _ _ (by first | decide | omega))
  have q103_1_M1 : id (M1 103 1 = M 103 1) := (show M1 103 1 = M 103 1 by rw [hM1]; exact mu_ne _ _ (by first | decide | omega))
  have q97_12_M1 : (M1 97 12 = M 97 12) := (show M1 97 12 = M 97 12 by rw [hM1]; exact mu_ne _ _ (by first | decide | omega))
  have wM1_97_12 : M1 97 12 = M 97 12 := by rw [hM1]; exact mu_ne _ _ (by first | decide | omega)
  have xM1_97_0 : M1 97 0 = 0 := by rw [hM1]; exact mu_at _ _ _ _
  refine g_aload_n (pc' := 6) 0 dX10_feed_5 rfl rfl ?_
  refine g_getI (pc' := 9) dX10_feed_6 rfl f_X10_142 rfl rfl (fun v2 ev2 rv2 => ?_)
  have bv2 : 0 ≤ v2 ∧ v2 ≤ 400 := by rw [ev2]; exact iM1.2.2.2.1
  have av2 : v2 = M 97 12 := ev2.trans q97_12_M1
  refine g_bipush (pc' := 11) (v := 20) dX10_feed_9 rfl (by decide) ?_
  refine g_iadd (pc' := 12) dX10_feed_11 rfl ?_
  refine g_sipush (pc' := 15) (v := 400) dX10_feed_12 rfl (by decide) ?_
  refine g_ic_le (pc' := 18) (tgt := 20) ⟨by omega, by omega⟩ (by decide) dX10_feed_15 rfl rfl (fun c3 => ?_) (fun c3 => ?_)
  · refine g_aload_n (pc' := 21) 0 dX10_feed_20 rfl rfl ?_
    refine g_iload_n (pc' := 22) 1 dX10_feed_21 rfl rfl ?_
    refine g_callVv (pc' := 25) (As := [vi a]) (b := 97) (S := []) dX10_feed_22 rfl m_X10_148 w_X10_four (c_X10_four X M1 iM1 a ha (by omega)) rfl ⟨_, _, _, rfl, rfl, rfl⟩ (by decide) (by decide) rfl (Nat.le_of_ble_eq_true rfl) (fun M5 q4 => ?_)
    obtain ⟨iM5, fM50, eM5_99_0, eM5_99_1, eM5_99_2, eM5_99_3, eM5_100_0, eM5_100_1, eM5_100_2, eM5_100_3, eM5_100_49, eM5_100_50, eM5_100_51, eM5_100_52, eM5_103_0, eM5_103_1, pM5⟩ := q4
    have fM5 : Fr (fun c => 97 ≤ c ∧ c ≤ 116) M M5 := Fr.tr fM1 fM50 (fun _ z => z)
    have q99_0_M5 : (M5 99 0 = M 99 0) := eM5_99_0.trans q99_0_M1
    have q99_1_M5 : (M5 99 1 = M 99 1) := eM5_99_1.trans q99_1_M1
    have q99_2_M5 : (M5 99 2 = M 99 2) := eM5_99_2.trans q99_2_M1
    have q99_3_M5 : (M5 99 3 = M 99 3) := eM5_99_3.trans q99_3_M1
    have q100_0_M5 : id (M5 100 0 = M 100 0) := eM5_100_0.trans q100_0_M1
    have q100_1_M5 : id (M5 100 1 = M 100 1) := eM5_100_1.trans q100_1_M1
    have q100_2_M5 : id (M5 100 2 = M 100 2) := eM5_100_2.trans q100_2_M1
    have q100_3_M5 : id (M5 100 3 = M 100 3) := eM5_100_3.trans q100_3_M1
    have q100_49_M5 : id (M5 100 49 = M 100 49) := eM5_100_49.trans q100_49_M1
    have q100_50_M5 : id (M5 100 50 = M 100 50) := eM5_100_50.trans q100_50_M1
    have q100_51_M5 : id (M5 100 51 = M 100 51) := eM5_100_51.trans q100_51_M1
    have q100_52_M5 : id (M5 100 52 = M 100 52) := eM5_100_52.trans q100_52_M1
    have q103_0_M5 : id (M5 103 0 = M 103 0) := eM5_103_0.trans q103_0_M1
    have q103_1_M5 : id (M5 103 1 = M 103 1) := eM5_103_1.trans q103_1_M1
    clear eM5_100_0 eM5_100_1 eM5_100_2 eM5_100_3 eM5_100_49 eM5_100_50 eM5_100_51 eM5_100_52 eM5_103_0 eM5_103_1
    refine g_aload_n (pc' := 26) 0 dX10_feed_25 rfl rfl ?_
    refine g_iload_n (pc' := 27) 2 dX10_feed_26 rfl rfl ?_
    refine g_callVv (pc' := 30) (As := [vi b]) (b := 97) (S := []) dX10_feed_27 rfl m_X10_148 w_X10_four (c_X10_four X M5 iM5 b hb (by omega)) rfl ⟨_, _, _, rfl, rfl, rfl⟩ (by decide) (by decide) rfl (Nat.le_of_ble_eq_true rfl) (fun M7 q6 => ?_)
    obtain ⟨iM7, fM70, eM7_99_0, eM7_99_1, eM7_99_2, eM7_99_3, eM7_100_0, eM7_100_1, eM7_100_2, eM7_100_3, eM7_100_49, eM7_100_50, eM7_100_51, eM7_100_52, eM7_103_0, eM7_103_1, pM7⟩ := q6
    have fM7 : Fr (fun c => 97 ≤ c ∧ c ≤ 116) M M7 := Fr.tr fM5 fM70 (fun _ z => z)
    have q99_0_M7 : (M7 99 0 = M 99 0) := eM7_99_0.trans q99_0_M5
    have q99_1_M7 : (M7 99 1 = M 99 1) := eM7_99_1.trans q99_1_M5
    have q99_2_M7 : (M7 99 2 = M 99 2) := eM7_99_2.trans q99_2_M5
    have q99_3_M7 : (M7 99 3 = M 99 3) := eM7_99_3.trans q99_3_M5
    have q100_0_M7 : id (M7 100 0 = M 100 0) := eM7_100_0.trans q100_0_M5
    have q100_1_M7 : id (M7 100 1 = M 100 1) := eM7_100_1.trans q100_1_M5
    have q100_2_M7 : id (M7 100 2 = M 100 2) := eM7_100_2.trans q100_2_M5
    have q100_3_M7 : id (M7 100 3 = M 100 3) := eM7_100_3.trans q100_3_M5
    have q100_49_M7 : id (M7 100 49 = M 100 49) := eM7_100_49.trans q100_49_M5
    have q100_50_M7 : id (M7 100 50 = M 100 50) := eM7_100_50.trans q100_50_M5
    have q100_51_M7 : id (M7 100 51 = M 100 51) := eM7_100_51.trans q100_51_M5
    have q100_52_M7 : id (M7 100 52 = M 100 52) := eM7_100_52.trans q100_52_M5
    have q103_0_M7 : id (M7 103 0 = M 103 0) := eM7_103_0.trans q103_0_M5
    have q103_1_M7 : id (M7 103 1 = M 103 1) := eM7_103_1.trans q103_1_M5
    clear eM7_100_0 eM7_100_1 eM7_100_2 eM7_100_3 eM7_100_49 eM7_100_50 eM7_100_51 eM7_100_52 eM7_103_0 eM7_103_1
    refine g_aload_n (pc' := 31) 0 dX10_feed_30 rfl rfl ?_
    refine g_iload_n (pc' := 32) 3 dX10_feed_31 rfl rfl ?_
    refine g_callVv (pc' := 35) (As := [vi c]) (b := 97) (S := []) dX10_feed_32 rfl m_X10_148 w_X10_four (c_X10_four X M7 iM7 c hc (by omega)) rfl ⟨_, _, _, rfl, rfl, rfl⟩ (by decide) (by decide) rfl (Nat.le_of_ble_eq_true rfl) (fun M9 q8 => ?_)
    obtain ⟨iM9, fM90, eM9_99_0, eM9_99_1, eM9_99_2, eM9_99_3, eM9_100_0, eM9_100_1, eM9_100_2, eM9_100_3, eM9_100_49, eM9_100_50, eM9_100_51, eM9_100_52, eM9_103_0, eM9_103_1, pM9⟩ := q8
    have fM9 : Fr (fun c => 97 ≤ c ∧ c ≤ 116) M M9 := Fr.tr fM7 fM90 (fun _ z => z)
    have q99_0_M9 : (M9 99 0 = M 99 0) := eM9_99_0.trans q99_0_M7
    have q99_1_M9 : (M9 99 1 = M 99 1) := eM9_99_1.trans q99_1_M7
    have q99_2_M9 : (M9 99 2 = M 99 2) := eM9_99_2.trans q99_2_M7
    have q99_3_M9 : (M9 99 3 = M 99 3) := eM9_99_3.trans q99_3_M7
    have q100_0_M9 : id (M9 100 0 = M 100 0) := eM9_100_0.trans q100_0_M7
    have q100_1_M9 : id (M9 100 1 = M 100 1) := eM9_100_1.trans q100_1_M7
    have q100_2_M9 : id (M9 100 2 = M 100 2) := eM9_100_2.trans q100_2_M7
    have q100_3_M9 : id (M9 100 3 = M 100 3) := eM9_100_3.trans q100_3_M7
    have q100_49_M9 : id (M9 100 49 = M 100 49) := eM9_100_49.trans q100_49_M7
    have q100_50_M9 : id (M9 100 50 = M 100 50) := eM9_100_50.trans q100_50_M7
    have q100_51_M9 : id (M9 100 51 = M 100 51) := eM9_100_51.trans q100_51_M7
    have q100_52_M9 : id (M9 100 52 = M 100 52) := eM9_100_52.trans q100_52_M7
    have q103_0_M9 : id (M9 103 0 = M 103 0) := eM9_103_0.trans q103_0_M7
    have q103_1_M9 : id (M9 103 1 = M 103 1) := eM9_103_1.trans q103_1_M7
    clear eM9_100_0 eM9_100_1 eM9_100_2 eM9_100_3 eM9_100_49 eM9_100_50 eM9_100_51 eM9_100_52 eM9_103_0 eM9_103_1
    refine g_aload_n (pc' := 36) 0 dX10_feed_35 rfl rfl ?_
    refine g_iload (pc' := 38) 4 dX10_feed_36 rfl rfl ?_
    refine g_callVv (pc' := 41) (As := [vi e1]) (b := 97) (S := []) dX10_feed_38 rfl m_X10_148 w_X10_four (c_X10_four X M9 iM9 e1 he1 (by omega)) rfl ⟨_, _, _, rfl, rfl, rfl⟩ (by decide) (by decide) rfl (Nat.le_of_ble_eq_true rfl) (fun M11 q10 => ?_)
    obtain ⟨iM11, fM110, eM11_99_0, eM11_99_1, eM11_99_2, eM11_99_3, eM11_100_0, eM11_100_1, eM11_100_2, eM11_100_3, eM11_100_49, eM11_100_50, eM11_100_51, eM11_100_52, eM11_103_0, eM11_103_1, pM11⟩ := q10
    have fM11 : Fr (fun c => 97 ≤ c ∧ c ≤ 116) M M11 := Fr.tr fM9 fM110 (fun _ z => z)
    have q99_0_M11 : (M11 99 0 = M 99 0) := eM11_99_0.trans q99_0_M9
    have q99_1_M11 : (M11 99 1 = M 99 1) := eM11_99_1.trans q99_1_M9
    have q99_2_M11 : (M11 99 2 = M 99 2) := eM11_99_2.trans q99_2_M9
    have q99_3_M11 : (M11 99 3 = M 99 3) := eM11_99_3.trans q99_3_M9
    have q100_0_M11 : id (M11 100 0 = M 100 0) := eM11_100_0.trans q100_0_M9
    have q100_1_M11 : id (M11 100 1 = M 100 1) := eM11_100_1.trans q100_1_M9
    have q100_2_M11 : id (M11 100 2 = M 100 2) := eM11_100_2.trans q100_2_M9
    have q100_3_M11 : id (M11 100 3 = M 100 3) := eM11_100_3.trans q100_3_M9
    have q100_49_M11 : id (M11 100 49 = M 100 49) := eM11_100_49.trans q100_49_M9
    have q100_50_M11 : id (M11 100 50 = M 100 50) := eM11_100_50.trans q100_50_M9
    have q100_51_M11 : id (M11 100 51 = M 100 51) := eM11_100_51.trans q100_51_M9
    have q100_52_M11 : id (M11 100 52 = M 100 52) := eM11_100_52.trans q100_52_M9
    have q103_0_M11 : id (M11 103 0 = M 103 0) := eM11_103_0.trans q103_0_M9
    have q103_1_M11 : id (M11 103 1 = M 103 1) := eM11_103_1.trans q103_1_M9
    clear eM11_100_0 eM11_100_1 eM11_100_2 eM11_100_3 eM11_100_49 eM11_100_50 eM11_100_51 eM11_100_52 eM11_103_0 eM11_103_1
    refine g_aload_n (pc' := 42) 0 dX10_feed_41 rfl rfl ?_
    refine g_iload (pc' := 44) 5 dX10_feed_42 rfl rfl ?_
    refine g_callVv (pc' := 47) (As := [vi e2]) (b := 97) (S := []) dX10_feed_44 rfl m_X10_148 w_X10_four (c_X10_four X M11 iM11 e2 he2 (by omega)) rfl ⟨_, _, _, rfl, rfl, rfl⟩ (by decide) (by decide) rfl (Nat.le_of_ble_eq_true rfl) (fun M13 q12 => ?_)
    obtain ⟨iM13, fM130, eM13_99_0, eM13_99_1, eM13_99_2, eM13_99_3, eM13_100_0, eM13_100_1, eM13_100_2, eM13_100_3, eM13_100_49, eM13_100_50, eM13_100_51, eM13_100_52, eM13_103_0, eM13_103_1, pM13⟩ := q12
    have fM13 : Fr (fun c => 97 ≤ c ∧ c ≤ 116) M M13 := Fr.tr fM11 fM130 (fun _ z => z)
    have q99_0_M13 : (M13 99 0 = M 99 0) := eM13_99_0.trans q99_0_M11
    have q99_1_M13 : (M13 99 1 = M 99 1) := eM13_99_1.trans q99_1_M11
    have q99_2_M13 : (M13 99 2 = M 99 2) := eM13_99_2.trans q99_2_M11
    have q99_3_M13 : (M13 99 3 = M 99 3) := eM13_99_3.trans q99_3_M11
    have q100_0_M13 : id (M13 100 0 = M 100 0) := eM13_100_0.trans q100_0_M11
    have q100_1_M13 : id (M13 100 1 = M 100 1) := eM13_100_1.trans q100_1_M11
    have q100_2_M13 : id (M13 100 2 = M 100 2) := eM13_100_2.trans q100_2_M11
    have q100_3_M13 : id (M13 100 3 = M 100 3) := eM13_100_3.trans q100_3_M11
    have q100_49_M13 : id (M13 100 49 = M 100 49) := eM13_100_49.trans q100_49_M11
    have q100_50_M13 : id (M13 100 50 = M 100 50) := eM13_100_50.trans q100_50_M11
    have q100_51_M13 : id (M13 100 51 = M 100 51) := eM13_100_51.trans q100_51_M11
    have q100_52_M13 : id (M13 100 52 = M 100 52) := eM13_100_52.trans q100_52_M11
    have q103_0_M13 : id (M13 103 0 = M 103 0) := eM13_103_0.trans q103_0_M11
    have q103_1_M13 : id (M13 103 1 = M 103 1) := eM13_103_1.trans q103_1_M11
    clear eM13_100_0 eM13_100_1 eM13_100_2 eM13_100_3 eM13_100_49 eM13_100_50 eM13_100_51 eM13_100_52 eM13_103_0 eM13_103_1
    refine g_aload_n (pc' := 48) 0 dX10_feed_47 rfl rfl ?_
    refine g_getI (pc' := 51) dX10_feed_48 rfl f_X10_142 rfl rfl (fun v14 ev14 rv14 => ?_)
    have bv14 : 0 ≤ v14 ∧ v14 ≤ 400 := by rw [ev14]; exact iM13.2.2.2.1
    refine g_ireturn dX10_feed_51 ?_
    exact ⟨iM13, fM13, q99_0_M13, q99_1_M13, q99_2_M13, q99_3_M13, q100_0_M13, q100_1_M13, q100_2_M13, q100_3_M13, q100_49_M13, q100_50_M13, q100_51_M13, q100_52_M13, q103_0_M13, q103_1_M13, by omega⟩
  · refine g_iconst (pc' := 19) dX10_feed_18 rfl ?_
    refine g_ireturn dX10_feed_19 ?_
    exact ⟨iM1, fM1, q99_0_M1, q99_1_M1, q99_2_M1, q99_3_M1, q100_0_M1, q100_1_M1, q100_2_M1, q100_3_M1, q100_49_M1, q100_50_M1, q100_51_M1, q100_52_M1, q103_0_M1, q103_1_M1, by omega⟩
set_option maxHeartbeats 4000000 in
set_option maxRecDepth 100000 in
theorem c_X10_empty (X : Cx) (M : Mm) (hi : IM M) (a : Int) (ha : inI a) : Con X 12 yX10_empty cX10_empty 4 (some .int) [vr X 97, vi a] M (Qi (fun r M1 => IM M1 ∧ Fr (fun c => 97 ≤ c ∧ c ≤ 116) M M1 ∧ M1 99 0 = M 99 0 ∧ M1 99 1 = M 99 1 ∧ M1 99 2 = M 99 2 ∧ M1 99 3 = M 99 3 ∧ M1 100 0 = M 100 0 ∧ M1 100 1 = M 100 1 ∧ M1 100 2 = M 100 2 ∧ M1 100 3 = M 100 3 ∧ M1 100 49 = M 100 49 ∧ M1 100 50 = M 100 50 ∧ M1 100 51 = M 100 51 ∧ M1 100 52 = M 100 52 ∧ M1 103 0 = M 103 0 ∧ M1 103 1 = M 103 1 ∧ M1 97 12 = M 97 12 ∧ (inI r))) := by
  refine Con.ofG rfl (Nat.le_of_ble_eq_true rfl) ?_
  show G X 12 RX10 cX10_empty 4 (some .int) (Qi (fun r M1 => IM M1 ∧ Fr (fun c => 97 ≤ c ∧ c ≤ 116) M M1 ∧ M1 99 0 = M 99 0 ∧ M1 99 1 = M 99 1 ∧ M1 99 2 = M 99 2 ∧ M1 99 3 = M 99 3 ∧ M1 100 0 = M 100 0 ∧ M1 100 1 = M 100 1 ∧ M1 100 2 = M 100 2 ∧ M1 100 3 = M 100 3 ∧ M1 100 49 = M 100 49 ∧ M1 100 50 = M 100 50 ∧ M1 100 51 = M 100 51 ∧ M1 100 52 = M 100 52 ∧ M1 103 0 = M 103 0 ∧ M1 103 1 = M 103 1 ∧ M1 97 12 = M 97 12 ∧ (inI r))) 0 [(0, vr X 97), (1, vi a)] [] M
  have p0 := hi.1.1
  have p1 := hi.1.2.1
  have p2 := hi.1.2.2.1
  have p3 := hi.1.2.2.2.1
  have p12 := hi.2.2.2.1
  refine g_aload_n (pc' := 1) 0 dX10_empty_0 rfl rfl ?_
  refine g_iconst (pc' := 2) dX10_empty_1 rfl ?_
  refine g_putI (pc' := 5) dX10_empty_2 rfl p_X10_77 rfl rfl (by decide) (fun M1 hM1 => ?_)
  have iM1 : IM M1 := IM.wr hi hM1 (by unfold okv; first | decide | omega)
  have fM1 : Fr (fun c => 97 ≤ c ∧ c ≤ 116) M M1 := Fr.wr Fr.rf hM1 (by first | decide | omega | (dsimp only; omega))
  have q99_0_M1 : (M1 99 0 = M 99 0) := (show M1 99 0 = M 99 0 by rw [hM1]; exact mu_ne _ _ (by first | decide | omega))
  have q99_1_M1 : (M1 99 1 = M 99 1) := (show M1 99 1 = M 99 1 by rw [hM1]; exact mu_ne _ _ (by first | decide | omega))
  have q99_2_M1 : (M1 99 2 = M 99 2) := (show M1 99 2 = M 99 2 by rw [hM1]; exact mu_ne _ _ (by first | decide | omega))
  have q99_3_M1 : (M1 99 3 = M 99 3) := (show M1 99 3 = M 99 3 by rw [hM1]; exact mu_ne _ _ (by first | decide | omega))
  have q100_0_M1 : id (M1 100 0 = M 100 0) := (show M1 100 0 = M 100 0 by rw [hM1]; exact mu_ne _ _ (by first | decide | omega))
  have q100_1_M1 : id (M1 100 1 = M 100 1) := (show M1 100 1 = M 100 1 by rw [hM1]; exact mu_ne _ _ (by first | decide | omega))
  have q100_2_M1 : id (M1 100 2 = M 100 2) := (show M1 100 2 = M 100 2 by rw [hM1]; exact mu_ne _ _ (by first | decide | omega))
  have q100_3_M1 : id (M1 100 3 = M 100 3) := (show M1 100 3 = M 100 3 by rw [hM1]; exact mu_ne _ _ (by first | decide | omega))
  have q100_49_M1 : id (M1 100 49 = M 100 49) := (show M1 100 49 = M 100 49 by rw [hM1]; exact mu_ne _ _ (by first | decide | omega))
  have q100_50_M1 : id (M1 100 50 = M 100 50) := (show M1 100 50 = M 100 50 by rw [hM1]; exact mu_ne _ _ (by first | decide | omega))
  have q100_51_M1 : id (M1 100 51 = M 100 51) := (show M1 100 51 = M 100 51 by rw [hM1]; exact mu_ne _ _ (by first | decide | omega))
  have q100_52_M1 : id (M1 100 52 = M 100 52) := (show M1 100 52 = M 100 52 by rw [hM1]; exact mu_ne _ _ (by first | decide | omega))
  have q103_0_M1 : id (M1 103 0 = M 103 0) := (show M1 103 0 = M 103 0 by rw [hM1]; exact mu_ne _ _ (by first | decide | omega))
  have q103_1_M1 : id (M1 103 1 = M 103 1) := (show M1 103 1 = M 103 1 by rw [hM1]; exact mu_ne _ _ (by first | decide | omega))
  have q97_12_M1 : (M1 97 12 = M 97 12) := (show M1 97 12 = M 97 12 by rw [hM1]; exact mu_ne _ _ (by first | decide | omega))
  have xM1_97_0 : M1 97 0 = 0 := by rw [hM1]; exact mu_at _ _ _ _
  refine g_aload_n (pc' := 6) 0 dX10_empty_5 rfl rfl ?_
  refine g_iload_n (pc' := 7) 1 dX10_empty_6 rfl rfl ?_
  refine g_callVip (pc' := 10) (As := [vi a]) (b := 97) (S := []) dX10_empty_7 rfl m_X10_102 w_X10_isGlass (c_X10_isGlass X M1 iM1 a ha) rfl ⟨_, _, _, rfl, rfl, rfl⟩ (by decide) (by decide) rfl (Nat.le_of_ble_eq_true rfl) (fun z3 q2 => ?_)
  refine g_if_ne (pc' := 13) (tgt := 20) ⟨by omega, by omega⟩ dX10_empty_10 rfl rfl (fun c4 => ?_) (fun c4 => ?_)
  · replace q2 := q2.resolve_right (fun h => c4 h.1)
    refine g_aload_n (pc' := 21) 0 dX10_empty_20 rfl rfl ?_
    refine g_iload_n (pc' := 22) 1 dX10_empty_21 rfl rfl ?_
    refine g_callVip (pc' := 25) (As := [vi a]) (b := 97) (S := []) dX10_empty_22 rfl m_X10_99 w_X10_full (c_X10_full X M1 iM1 a ha ⟨by omega, by omega⟩) rfl ⟨_, _, _, rfl, rfl, rfl⟩ (by decide) (by decide) rfl (Nat.le_of_ble_eq_true rfl) (fun z6 q5 => ?_)
    refine g_istore_n (pc' := 26) (i := 2) (L' := [(2, vi z6), (0, vr X 97), (1, vi a)]) dX10_empty_25 rfl rfl (by decide) rfl ?_
    refine g_iconst (pc' := 27) dX10_empty_26 rfl ?_
    refine g_istore_n (pc' := 28) (i := 3) (L' := [(3, vi 0), (2, vi z6), (0, vr X 97), (1, vi a)]) dX10_empty_27 rfl rfl (by decide) rfl ?_
    refine g_iload_n (pc' := 29) 0 dX10_empty_28 rfl rfl ?_
    refine g_iconst (pc' := 30) dX10_empty_29 rfl ?_
    refine g_ic_ge (pc' := 33) (tgt := 50) (by decide) (by decide) dX10_empty_30 rfl rfl (fun c7 => ?_) (fun c7 => ?_)
    · exact absurd c7 (by omega)
    · refine g_aload_n (pc' := 34) 2 dX10_empty_33 rfl rfl ?_
      refine g_getR (pc' := 37) dX10_empty_34 rfl f_X10_19 rfl rfl ?_
      refine g_iconst (pc' := 38) dX10_empty_37 rfl ?_
      refine g_iload_n (pc' := 39) 3 dX10_empty_38 rfl rfl ?_
      refine g_imul (pc' := 40) dX10_empty_39 rfl ?_
      refine g_iload_n (pc' := 41) 0 dX10_empty_40 rfl rfl ?_
      refine g_iadd (pc' := 42) dX10_empty_41 rfl ?_
      refine g_lconst (pc' := 43) (v := 0) dX10_empty_42 rfl (by decide) ?_
      refine g_last (pc' := 44) dX10_empty_43 rfl rfl (by omega) (by omega) (by decide) (fun M8 hM8 => ?_)
      have fM8 : Fr (fun c => 97 ≤ c ∧ c ≤ 116) M M8 := Fr.wr fM1 hM8 (by first | decide | omega | (dsimp only; omega))
      have q99_0_M8 : (M8 99 0 = M 99 0) := (show M8 99 0 = M1 99 0 by rw [hM8]; exact mu_ne _ _ (by first | decide | omega)).trans q99_0_M1
      have q99_1_M8 : (M8 99 1 = M 99 1) := (show M8 99 1 = M1 99 1 by rw [hM8]; exact mu_ne _ _ (by first | decide | omega)).trans q99_1_M1
      have q99_2_M8 : (M8 99 2 = M 99 2) := (show M8 99 2 = M1 99 2 by rw [hM8]; exact mu_ne _ _ (by first | decide | omega)).trans q99_2_M1
      have q99_3_M8 : (M8 99 3 = M 99 3) := (show M8 99 3 = M1 99 3 by rw [hM8]; exact mu_ne _ _ (by first | decide | omega)).trans q99_3_M1
      have q100_0_M8 : id (M8 100 0 = M 100 0) := (show M8 100 0 = M1 100 0 by rw [hM8]; exact mu_ne _ _ (by first | decide | omega)).trans q100_0_M1
      have q100_1_M8 : id (M8 100 1 = M 100 1) := (show M8 100 1 = M1 100 1 by rw [hM8]; exact mu_ne _ _ (by first | decide | omega)).trans q100_1_M1
      have q100_2_M8 : id (M8 100 2 = M 100 2) := (show M8 100 2 = M1 100 2 by rw [hM8]; exact mu_ne _ _ (by first | decide | omega)).trans q100_2_M1
      have q100_3_M8 : id (M8 100 3 = M 100 3) := (show M8 100 3 = M1 100 3 by rw [hM8]; exact mu_ne _ _ (by first | decide | omega)).trans q100_3_M1
      have q100_49_M8 : id (M8 100 49 = M 100 49) := (show M8 100 49 = M1 100 49 by rw [hM8]; exact mu_ne _ _ (by first | decide | omega)).trans q100_49_M1
      have q100_50_M8 : id (M8 100 50 = M 100 50) := (show M8 100 50 = M1 100 50 by rw [hM8]; exact mu_ne _ _ (by first | decide | omega)).trans q100_50_M1
      have q100_51_M8 : id (M8 100 51 = M 100 51) := (show M8 100 51 = M1 100 51 by rw [hM8]; exact mu_ne _ _ (by first | decide | omega)).trans q100_51_M1
      have q100_52_M8 : id (M8 100 52 = M 100 52) := (show M8 100 52 = M1 100 52 by rw [hM8]; exact mu_ne _ _ (by first | decide | omega)).trans q100_52_M1
      have q103_0_M8 : id (M8 103 0 = M 103 0) := (show M8 103 0 = M1 103 0 by rw [hM8]; exact mu_ne _ _ (by first | decide | omega)).trans q103_0_M1
      have q103_1_M8 : id (M8 103 1 = M 103 1) := (show M8 103 1 = M1 103 1 by rw [hM8]; exact mu_ne _ _ (by first | decide | omega)).trans q103_1_M1
      have q97_12_M8 : (M8 97 12 = M 97 12) := (show M8 97 12 = M1 97 12 by rw [hM8]; exact mu_ne _ _ (by first | decide | omega)).trans q97_12_M1
      have xM8_97_0 : M8 97 0 = 0 := (show M8 97 0 = M1 97 0 by rw [hM8]; exact mu_ne _ _ (by first | decide | omega)).trans xM1_97_0
      have LM8 : Fr (fun c => c = 101) M1 M8 := Fr.wr Fr.rf hM8 rfl
      have uM8 : ∀ k : Nat, ¬ (4 * a.toNat ≤ k ∧ k < 4 * a.toNat + 4) → M8 101 k = M1 101 k := fun k hk => by rw [hM8]; exact mu_ne _ _ (fun _ => by omega)
      have zM8_0 : M8 101 (4 * a.toNat + 0) = 0 := by rw [hM8, show 4 * a.toNat + 0 = (4 * a + 0).toNat by omega]; exact mu_at _ _ _ _
      refine g_iinc (pc' := 47) (L' := [(3, vi 1), (2, vi z6), (0, vr X 97), (1, vi a)]) 0 dX10_empty_44 rfl rfl (by decide) rfl ?_
      refine g_goto (tgt := 28) dX10_empty_47 rfl ?_
      refine g_iload_n (pc' := 29) 0 dX10_empty_28 rfl rfl ?_
      refine g_iconst (pc' := 30) dX10_empty_29 rfl ?_
      refine g_ic_ge (pc' := 33) (tgt := 50) (by decide) (by decide) dX10_empty_30 rfl rfl (fun c9 => ?_) (fun c9 => ?_)
      · exact absurd c9 (by omega)
      · refine g_aload_n (pc' := 34) 2 dX10_empty_33 rfl rfl ?_
        refine g_getR (pc' := 37) dX10_empty_34 rfl f_X10_19 rfl rfl ?_
        refine g_iconst (pc' := 38) dX10_empty_37 rfl ?_
        refine g_iload_n (pc' := 39) 3 dX10_empty_38 rfl rfl ?_
        refine g_imul (pc' := 40) dX10_empty_39 rfl ?_
        refine g_iload_n (pc' := 41) 0 dX10_empty_40 rfl rfl ?_
        refine g_iadd (pc' := 42) dX10_empty_41 rfl ?_
        refine g_lconst (pc' := 43) (v := 0) dX10_empty_42 rfl (by decide) ?_
        refine g_last (pc' := 44) dX10_empty_43 rfl rfl (by omega) (by omega) (by decide) (fun M10 hM10 => ?_)
        have fM10 : Fr (fun c => 97 ≤ c ∧ c ≤ 116) M M10 := Fr.wr fM8 hM10 (by first | decide | omega | (dsimp only; omega))
        have q99_0_M10 : (M10 99 0 = M 99 0) := (show M10 99 0 = M8 99 0 by rw [hM10]; exact mu_ne _ _ (by first | decide | omega)).trans q99_0_M8
        have q99_1_M10 : (M10 99 1 = M 99 1) := (show M10 99 1 = M8 99 1 by rw [hM10]; exact mu_ne _ _ (by first | decide | omega)).trans q99_1_M8
        have q99_2_M10 : (M10 99 2 = M 99 2) := (show M10 99 2 = M8 99 2 by rw [hM10]; exact mu_ne _ _ (by first | decide | omega)).trans q99_2_M8
        have q99_3_M10 : (M10 99 3 = M 99 3) := (show M10 99 3 = M8 99 3 by rw [hM10]; exact mu_ne _ _ (by first | decide | omega)).trans q99_3_M8
        have q100_0_M10 : id (M10 100 0 = M 100 0) := (show M10 100 0 = M8 100 0 by rw [hM10]; exact mu_ne _ _ (by first | decide | omega)).trans q100_0_M8
        have q100_1_M10 : id (M10 100 1 = M 100 1) := (show M10 100 1 = M8 100 1 by rw [hM10]; exact mu_ne _ _ (by first | decide | omega)).trans q100_1_M8
        have q100_2_M10 : id (M10 100 2 = M 100 2) := (show M10 100 2 = M8 100 2 by rw [hM10]; exact mu_ne _ _ (by first | decide | omega)).trans q100_2_M8
        have q100_3_M10 : id (M10 100 3 = M 100 3) := (show M10 100 3 = M8 100 3 by rw [hM10]; exact mu_ne _ _ (by first | decide | omega)).trans q100_3_M8
        have q100_49_M10 : id (M10 100 49 = M 100 49) := (show M10 100 49 = M8 100 49 by rw [hM10]; exact mu_ne _ _ (by first | decide | omega)).trans q100_49_M8
        have q100_50_M10 : id (M10 100 50 = M 100 50) := (show M10 100 50 = M8 100 50 by rw [hM10]; exact mu_ne _ _ (by first | decide | omega)).trans q100_50_M8
        have q100_51_M10 : id (M10 100 51 = M 100 51) := (show M10 100 51 = M8 100 51 by rw [hM10]; exact mu_ne _ _ (by first | decide | omega)).trans q100_51_M8
        have q100_52_M10 : id (M10 100 52 = M 100 52) := (show M10 100 52 = M8 100 52 by rw [hM10]; exact mu_ne _ _ (by first | decide | omega)).trans q100_52_M8
        have q103_0_M10 : id (M10 103 0 = M 103 0) := (show M10 103 0 = M8 103 0 by rw [hM10]; exact mu_ne _ _ (by first | decide | omega)).trans q103_0_M8
        have q103_1_M10 : id (M10 103 1 = M 103 1) := (show M10 103 1 = M8 103 1 by rw [hM10]; exact mu_ne _ _ (by first | decide | omega)).trans q103_1_M8
        have q97_12_M10 : (M10 97 12 = M 97 12) := (show M10 97 12 = M8 97 12 by rw [hM10]; exact mu_ne _ _ (by first | decide | omega)).trans q97_12_M8
        have xM10_97_0 : M10 97 0 = 0 := (show M10 97 0 = M8 97 0 by rw [hM10]; exact mu_ne _ _ (by first | decide | omega)).trans xM8_97_0
        have LM10 : Fr (fun c => c = 101) M1 M10 := Fr.wr LM8 hM10 rfl
        have uM10 : ∀ k : Nat, ¬ (4 * a.toNat ≤ k ∧ k < 4 * a.toNat + 4) → M10 101 k = M1 101 k := fun k hk => by rw [hM10, mu_ne _ _ (fun _ => by omega)]; exact uM8 k hk
        have zM10_0 : M10 101 (4 * a.toNat + 0) = 0 := by rw [hM10, mu_ne _ _ (fun _ => by omega)]; exact zM8_0
        have zM10_1 : M10 101 (4 * a.toNat + 1) = 0 := by rw [hM10, show 4 * a.toNat + 1 = (4 * a + 1).toNat by omega]; exact mu_at _ _ _ _
        refine g_iinc (pc' := 47) (L' := [(3, vi 2), (2, vi z6), (0, vr X 97), (1, vi a)]) 0 dX10_empty_44 rfl rfl (by decide) rfl ?_
        refine g_goto (tgt := 28) dX10_empty_47 rfl ?_
        refine g_iload_n (pc' := 29) 0 dX10_empty_28 rfl rfl ?_
        refine g_iconst (pc' := 30) dX10_empty_29 rfl ?_
        refine g_ic_ge (pc' := 33) (tgt := 50) (by decide) (by decide) dX10_empty_30 rfl rfl (fun c11 => ?_) (fun c11 => ?_)
        · exact absurd c11 (by omega)
        · refine g_aload_n (pc' := 34) 2 dX10_empty_33 rfl rfl ?_
          refine g_getR (pc' := 37) dX10_empty_34 rfl f_X10_19 rfl rfl ?_
          refine g_iconst (pc' := 38) dX10_empty_37 rfl ?_
          refine g_iload_n (pc' := 39) 3 dX10_empty_38 rfl rfl ?_
          refine g_imul (pc' := 40) dX10_empty_39 rfl ?_
          refine g_iload_n (pc' := 41) 0 dX10_empty_40 rfl rfl ?_
          refine g_iadd (pc' := 42) dX10_empty_41 rfl ?_
          refine g_lconst (pc' := 43) (v := 0) dX10_empty_42 rfl (by decide) ?_
          refine g_last (pc' := 44) dX10_empty_43 rfl rfl (by omega) (by omega) (by decide) (fun M12 hM12 => ?_)
          have fM12 : Fr (fun c => 97 ≤ c ∧ c ≤ 116) M M12 := Fr.wr fM10 hM12 (by first | decide | omega | (dsimp only; omega))
          have q99_0_M12 : (M12 99 0 = M 99 0) := (show M12 99 0 = M10 99 0 by rw [hM12]; exact mu_ne _ _ (by first | decide | omega)).trans q99_0_M10
          have q99_1_M12 : (M12 99 1 = M 99 1) := (show M12 99 1 = M10 99 1 by rw [hM12]; exact mu_ne _ _ (by first | decide | omega)).trans q99_1_M10
          have q99_2_M12 : (M12 99 2 = M 99 2) := (show M12 99 2 = M10 99 2 by rw [hM12]; exact mu_ne _ _ (by first | decide | omega)).trans q99_2_M10
          have q99_3_M12 : (M12 99 3 = M 99 3) := (show M12 99 3 = M10 99 3 by rw [hM12]; exact mu_ne _ _ (by first | decide | omega)).trans q99_3_M10
          have q100_0_M12 : id (M12 100 0 = M 100 0) := (show M12 100 0 = M10 100 0 by rw [hM12]; exact mu_ne _ _ (by first | decide | omega)).trans q100_0_M10
          have q100_1_M12 : id (M12 100 1 = M 100 1) := (show M12 100 1 = M10 100 1 by rw [hM12]; exact mu_ne _ _ (by first | decide | omega)).trans q100_1_M10
          have q100_2_M12 : id (M12 100 2 = M 100 2) := (show M12 100 2 = M10 100 2 by rw [hM12]; exact mu_ne _ _ (by first | decide | omega)).trans q100_2_M10
          have q100_3_M12 : id (M12 100 3 = M 100 3) := (show M12 100 3 = M10 100 3 by rw [hM12]; exact mu_ne _ _ (by first | decide | omega)).trans q100_3_M10
          have q100_49_M12 : id (M12 100 49 = M 100 49) := (show M12 100 49 = M10 100 49 by rw [hM12]; exact mu_ne _ _ (by first | decide | omega)).trans q100_49_M10
          have q100_50_M12 : id (M12 100 50 = M 100 50) := (show M12 100 50 = M10 100 50 by rw [hM12]; exact mu_ne _ _ (by first | decide | omega)).trans q100_50_M10
          have q100_51_M12 : id (M12 100 51 = M 100 51) := (show M12 100 51 = M10 100 51 by rw [hM12]; exact mu_ne _ _ (by first | decide | omega)).trans q100_51_M10
          have q100_52_M12 : id (M12 100 52 = M 100 52) := (show M12 100 52 = M10 100 52 by rw [hM12]; exact mu_ne _ _ (by first | decide | omega)).trans q100_52_M10
          have q103_0_M12 : id (M12 103 0 = M 103 0) := (show M12 103 0 = M10 103 0 by rw [hM12]; exact mu_ne _ _ (by first | decide | omega)).trans q103_0_M10
          have q103_1_M12 : id (M12 103 1 = M 103 1) := (show M12 103 1 = M10 103 1 by rw [hM12]; exact mu_ne _ _ (by first | decide | omega)).trans q103_1_M10
          have q97_12_M12 : (M12 97 12 = M 97 12) := (show M12 97 12 = M10 97 12 by rw [hM12]; exact mu_ne _ _ (by first | decide | omega)).trans q97_12_M10
          have xM12_97_0 : M12 97 0 = 0 := (show M12 97 0 = M10 97 0 by rw [hM12]; exact mu_ne _ _ (by first | decide | omega)).trans xM10_97_0
          have LM12 : Fr (fun c => c = 101) M1 M12 := Fr.wr LM10 hM12 rfl
          have uM12 : ∀ k : Nat, ¬ (4 * a.toNat ≤ k ∧ k < 4 * a.toNat + 4) → M12 101 k = M1 101 k := fun k hk => by rw [hM12, mu_ne _ _ (fun _ => by omega)]; exact uM10 k hk
          have zM12_0 : M12 101 (4 * a.toNat + 0) = 0 := by rw [hM12, mu_ne _ _ (fun _ => by omega)]; exact zM10_0
          have zM12_1 : M12 101 (4 * a.toNat + 1) = 0 := by rw [hM12, mu_ne _ _ (fun _ => by omega)]; exact zM10_1
          have zM12_2 : M12 101 (4 * a.toNat + 2) = 0 := by rw [hM12, show 4 * a.toNat + 2 = (4 * a + 2).toNat by omega]; exact mu_at _ _ _ _
          refine g_iinc (pc' := 47) (L' := [(3, vi 3), (2, vi z6), (0, vr X 97), (1, vi a)]) 0 dX10_empty_44 rfl rfl (by decide) rfl ?_
          refine g_goto (tgt := 28) dX10_empty_47 rfl ?_
          refine g_iload_n (pc' := 29) 0 dX10_empty_28 rfl rfl ?_
          refine g_iconst (pc' := 30) dX10_empty_29 rfl ?_
          refine g_ic_ge (pc' := 33) (tgt := 50) (by decide) (by decide) dX10_empty_30 rfl rfl (fun c13 => ?_) (fun c13 => ?_)
          · exact absurd c13 (by omega)
          · refine g_aload_n (pc' := 34) 2 dX10_empty_33 rfl rfl ?_
            refine g_getR (pc' := 37) dX10_empty_34 rfl f_X10_19 rfl rfl ?_
            refine g_iconst (pc' := 38) dX10_empty_37 rfl ?_
            refine g_iload_n (pc' := 39) 3 dX10_empty_38 rfl rfl ?_
            refine g_imul (pc' := 40) dX10_empty_39 rfl ?_
            refine g_iload_n (pc' := 41) 0 dX10_empty_40 rfl rfl ?_
            refine g_iadd (pc' := 42) dX10_empty_41 rfl ?_
            refine g_lconst (pc' := 43) (v := 0) dX10_empty_42 rfl (by decide) ?_
            refine g_last (pc' := 44) dX10_empty_43 rfl rfl (by omega) (by omega) (by decide) (fun M14 hM14 => ?_)
            have fM14 : Fr (fun c => 97 ≤ c ∧ c ≤ 116) M M14 := Fr.wr fM12 hM14 (by first | decide | omega | (dsimp only; omega))
            have q99_0_M14 : (M14 99 0 = M 99 0) := (show M14 99 0 = M12 99 0 by rw [hM14]; exact mu_ne _ _ (by first | decide | omega)).trans q99_0_M12
            have q99_1_M14 : (M14 99 1 = M 99 1) := (show M14 99 1 = M12 99 1 by rw [hM14]; exact mu_ne _ _ (by first | decide | omega)).trans q99_1_M12
            have q99_2_M14 : (M14 99 2 = M 99 2) := (show M14 99 2 = M12 99 2 by rw [hM14]; exact mu_ne _ _ (by first | decide | omega)).trans q99_2_M12
            have q99_3_M14 : (M14 99 3 = M 99 3) := (show M14 99 3 = M12 99 3 by rw [hM14]; exact mu_ne _ _ (by first | decide | omega)).trans q99_3_M12
            have q100_0_M14 : id (M14 100 0 = M 100 0) := (show M14 100 0 = M12 100 0 by rw [hM14]; exact mu_ne _ _ (by first | decide | omega)).trans q100_0_M12
            have q100_1_M14 : id (M14 100 1 = M 100 1) := (show M14 100 1 = M12 100 1 by rw [hM14]; exact mu_ne _ _ (by first | decide | omega)).trans q100_1_M12
            have q100_2_M14 : id (M14 100 2 = M 100 2) := (show M14 100 2 = M12 100 2 by rw [hM14]; exact mu_ne _ _ (by first | decide | omega)).trans q100_2_M12
            have q100_3_M14 : id (M14 100 3 = M 100 3) := (show M14 100 3 = M12 100 3 by rw [hM14]; exact mu_ne _ _ (by first | decide | omega)).trans q100_3_M12
            have q100_49_M14 : id (M14 100 49 = M 100 49) := (show M14 100 49 = M12 100 49 by rw [hM14]; exact mu_ne _ _ (by first | decide | omega)).trans q100_49_M12
            have q100_50_M14 : id (M14 100 50 = M 100 50) := (show M14 100 50 = M12 100 50 by rw [hM14]; exact mu_ne _ _ (by first | decide | omega)).trans q100_50_M12
            have q100_51_M14 : id (M14 100 51 = M 100 51) := (show M14 100 51 = M12 100 51 by rw [hM14]; exact mu_ne _ _ (by first | decide | omega)).trans q100_51_M12
            have q100_52_M14 : id (M14 100 52 = M 100 52) := (show M14 100 52 = M12 100 52 by rw [hM14]; exact mu_ne _ _ (by first | decide | omega)).trans q100_52_M12
            have q103_0_M14 : id (M14 103 0 = M 103 0) := (show M14 103 0 = M12 103 0 by rw [hM14]; exact mu_ne _ _ (by first | decide | omega)).trans q103_0_M12
            have q103_1_M14 : id (M14 103 1 = M 103 1) := (show M14 103 1 = M12 103 1 by rw [hM14]; exact mu_ne _ _ (by first | decide | omega)).trans q103_1_M12
            have q97_12_M14 : (M14 97 12 = M 97 12) := (show M14 97 12 = M12 97 12 by rw [hM14]; exact mu_ne _ _ (by first | decide | omega)).trans q97_12_M12
            have xM14_97_0 : M14 97 0 = 0 := (show M14 97 0 = M12 97 0 by rw [hM14]; exact mu_ne _ _ (by first | decide | omega)).trans xM12_97_0
            have LM14 : Fr (fun c => c = 101) M1 M14 := Fr.wr LM12 hM14 rfl
            have uM14 : ∀ k : Nat, ¬ (4 * a.toNat ≤ k ∧ k < 4 * a.toNat + 4) → M14 101 k = M1 101 k := fun k hk => by rw [hM14, mu_ne _ _ (fun _ => by omega)]; exact uM12 k hk
            have zM14_0 : M14 101 (4 * a.toNat + 0) = 0 := by rw [hM14, mu_ne _ _ (fun _ => by omega)]; exact zM12_0
            have zM14_1 : M14 101 (4 * a.toNat + 1) = 0 := by rw [hM14, mu_ne _ _ (fun _ => by omega)]; exact zM12_1
            have zM14_2 : M14 101 (4 * a.toNat + 2) = 0 := by rw [hM14, mu_ne _ _ (fun _ => by omega)]; exact zM12_2
            have zM14_3 : M14 101 (4 * a.toNat + 3) = 0 := by rw [hM14, show 4 * a.toNat + 3 = (4 * a + 3).toNat by omega]; exact mu_at _ _ _ _
            refine g_iinc (pc' := 47) (L' := [(3, vi 4), (2, vi z6), (0, vr X 97), (1, vi a)]) 0 dX10_empty_44 rfl rfl (by decide) rfl ?_
            refine g_goto (tgt := 28) dX10_empty_47 rfl ?_
            refine g_iload_n (pc' := 29) 0 dX10_empty_28 rfl rfl ?_
            refine g_iconst (pc' := 30) dX10_empty_29 rfl ?_
            refine g_ic_ge (pc' := 33) (tgt := 50) (by decide) (by decide) dX10_empty_30 rfl rfl (fun c15 => ?_) (fun c15 => ?_)
            · refine g_aload_n (pc' := 51) 2 dX10_empty_50 rfl rfl ?_
              have hpw : PIw 100000000000000 (M14 101) := by
                refine PIw.empty (m := M1 101) (m' := M14 101) (g := a.toNat) iM1.2.1 (by omega) (fun s hs => ?_) uM14
                rcases (show s = 0 ∨ s = 1 ∨ s = 2 ∨ s = 3 by omega) with rfl | rfl | rfl | rfl
                · exact zM14_0
                · exact zM14_1
                · exact zM14_2
                · exact zM14_3
              refine g_callVv (pc' := 54) (As := []) (b := 97) (S := []) dX10_empty_51 rfl m_X10_127 w_X10_lessen (c_X10_lessen X M14 100000000000000 (by omega) hpw) rfl ⟨_, _, _, rfl, rfl, rfl⟩ (by decide) (by decide) rfl (Nat.le_of_ble_eq_true rfl) (fun M17 q16 => ?_)
              obtain ⟨flM17, plM17⟩ := q16
              have iM17 : IM M17 := IM.parts (P := fun c => c = 101) iM1 (Fr.tr LM14 flM17 (fun c z => z)) (fun c hc => by omega) plM17
              have fM17 : Fr (fun c => 97 ≤ c ∧ c ≤ 116) M M17 := Fr.tr fM14 flM17 (fun c z => by omega)
              have q99_0_M17 : M17 99 0 = M 99 0 := (congrFun (flM17 99 (by omega)) 0).trans q99_0_M14
              have q99_1_M17 : M17 99 1 = M 99 1 := (congrFun (flM17 99 (by omega)) 1).trans q99_1_M14
              have q99_2_M17 : M17 99 2 = M 99 2 := (congrFun (flM17 99 (by omega)) 2).trans q99_2_M14
              have q99_3_M17 : M17 99 3 = M 99 3 := (congrFun (flM17 99 (by omega)) 3).trans q99_3_M14
              have q100_0_M17 : M17 100 0 = M 100 0 := (congrFun (flM17 100 (by omega)) 0).trans q100_0_M14
              have q100_1_M17 : M17 100 1 = M 100 1 := (congrFun (flM17 100 (by omega)) 1).trans q100_1_M14
              have q100_2_M17 : M17 100 2 = M 100 2 := (congrFun (flM17 100 (by omega)) 2).trans q100_2_M14
              have q100_3_M17 : M17 100 3 = M 100 3 := (congrFun (flM17 100 (by omega)) 3).trans q100_3_M14
              have q100_49_M17 : M17 100 49 = M 100 49 := (congrFun (flM17 100 (by omega)) 49).trans q100_49_M14
              have q100_50_M17 : M17 100 50 = M 100 50 := (congrFun (flM17 100 (by omega)) 50).trans q100_50_M14
              have q100_51_M17 : M17 100 51 = M 100 51 := (congrFun (flM17 100 (by omega)) 51).trans q100_51_M14
              have q100_52_M17 : M17 100 52 = M 100 52 := (congrFun (flM17 100 (by omega)) 52).trans q100_52_M14
              have q103_0_M17 : M17 103 0 = M 103 0 := (congrFun (flM17 103 (by omega)) 0).trans q103_0_M14
              have q103_1_M17 : M17 103 1 = M 103 1 := (congrFun (flM17 103 (by omega)) 1).trans q103_1_M14
              have q97_12_M17 : M17 97 12 = M 97 12 := (congrFun (flM17 97 (by omega)) 12).trans q97_12_M14
              refine g_aload_n (pc' := 55) 2 dX10_empty_54 rfl rfl ?_
              refine g_iload_n (pc' := 56) 1 dX10_empty_55 rfl rfl ?_
              refine g_callVi (pc' := 59) (As := [vi z6]) (b := 97) (S := []) dX10_empty_56 rfl m_X10_87 w_X10_tell (c_X10_tell X M17 iM17 z6 ⟨by omega, by omega⟩ (by omega)) rfl ⟨_, _, _, rfl, rfl, rfl⟩ (by decide) (by decide) rfl (Nat.le_of_ble_eq_true rfl) (fun z19 M20 q18 => ?_)
              obtain ⟨iM20, fM200, eM20_99_0, eM20_99_1, eM20_99_2, eM20_99_3, eM20_100_0, eM20_100_1, eM20_100_2, eM20_100_3, eM20_100_49, eM20_100_50, eM20_100_51, eM20_100_52, eM20_103_0, eM20_103_1, eM20_97_12, pM20⟩ := q18
              have fM20 : Fr (fun c => 97 ≤ c ∧ c ≤ 116) M M20 := Fr.tr fM17 fM200 fi_23
              have q99_0_M20 : (M20 99 0 = M 99 0) := eM20_99_0.trans q99_0_M17
              have q99_1_M20 : (M20 99 1 = M 99 1) := eM20_99_1.trans q99_1_M17
              have q99_2_M20 : (M20 99 2 = M 99 2) := eM20_99_2.trans q99_2_M17
              have q99_3_M20 : (M20 99 3 = M 99 3) := eM20_99_3.trans q99_3_M17
              have q100_0_M20 : id (M20 100 0 = M 100 0) := eM20_100_0.trans q100_0_M17
              have q100_1_M20 : id (M20 100 1 = M 100 1) := eM20_100_1.trans q100_1_M17
              have q100_2_M20 : id (M20 100 2 = M 100 2) := eM20_100_2.trans q100_2_M17
              have q100_3_M20 : id (M20 100 3 = M 100 3) := eM20_100_3.trans q100_3_M17
              have q100_49_M20 : id (M20 100 49 = M 100 49) := eM20_100_49.trans q100_49_M17
              have q100_50_M20 : id (M20 100 50 = M 100 50) := eM20_100_50.trans q100_50_M17
              have q100_51_M20 : id (M20 100 51 = M 100 51) := eM20_100_51.trans q100_51_M17
              have q100_52_M20 : id (M20 100 52 = M 100 52) := eM20_100_52.trans q100_52_M17
              have q103_0_M20 : id (M20 103 0 = M 103 0) := eM20_103_0.trans q103_0_M17
              have q103_1_M20 : id (M20 103 1 = M 103 1) := eM20_103_1.trans q103_1_M17
              have q97_12_M20 : (M20 97 12 = M 97 12) := eM20_97_12.trans q97_12_M17
              clear eM20_100_0 eM20_100_1 eM20_100_2 eM20_100_3 eM20_100_49 eM20_100_50 eM20_100_51 eM20_100_52 eM20_103_0 eM20_103_1
              refine g_ireturn dX10_empty_59 ?_
              exact ⟨iM20, fM20, q99_0_M20, q99_1_M20, q99_2_M20, q99_3_M20, q100_0_M20, q100_1_M20, q100_2_M20, q100_3_M20, q100_49_M20, q100_50_M20, q100_51_M20, q100_52_M20, q103_0_M20, q103_1_M20, q97_12_M20, by first | assumption | decide | omega⟩
            · exact absurd c15 (by omega)
  · replace q2 := q2.resolve_left (fun h => absurd (c4.symm.trans h.1) (by decide))
    refine g_aload_n (pc' := 14) 0 dX10_empty_13 rfl rfl ?_
    refine g_bipush (pc' := 16) (v := (-2)) dX10_empty_14 rfl (by decide) ?_
    refine g_callVi (pc' := 19) (As := [vi (-2)]) (b := 97) (S := []) dX10_empty_16 rfl m_X10_87 w_X10_tell (c_X10_tell X M1 iM1 (-2) (by decide) (by omega)) rfl ⟨_, _, _, rfl, rfl, rfl⟩ (by decide) (by decide) rfl (Nat.le_of_ble_eq_true rfl) (fun z22 M23 q21 => ?_)
    obtain ⟨iM23, fM230, eM23_99_0, eM23_99_1, eM23_99_2, eM23_99_3, eM23_100_0, eM23_100_1, eM23_100_2, eM23_100_3, eM23_100_49, eM23_100_50, eM23_100_51, eM23_100_52, eM23_103_0, eM23_103_1, eM23_97_12, pM23⟩ := q21
    have fM23 : Fr (fun c => 97 ≤ c ∧ c ≤ 116) M M23 := Fr.tr fM1 fM230 fi_23
    have q99_0_M23 : (M23 99 0 = M 99 0) := eM23_99_0.trans q99_0_M1
    have q99_1_M23 : (M23 99 1 = M 99 1) := eM23_99_1.trans q99_1_M1
    have q99_2_M23 : (M23 99 2 = M 99 2) := eM23_99_2.trans q99_2_M1
    have q99_3_M23 : (M23 99 3 = M 99 3) := eM23_99_3.trans q99_3_M1
    have q100_0_M23 : id (M23 100 0 = M 100 0) := eM23_100_0.trans q100_0_M1
    have q100_1_M23 : id (M23 100 1 = M 100 1) := eM23_100_1.trans q100_1_M1
    have q100_2_M23 : id (M23 100 2 = M 100 2) := eM23_100_2.trans q100_2_M1
    have q100_3_M23 : id (M23 100 3 = M 100 3) := eM23_100_3.trans q100_3_M1
    have q100_49_M23 : id (M23 100 49 = M 100 49) := eM23_100_49.trans q100_49_M1
    have q100_50_M23 : id (M23 100 50 = M 100 50) := eM23_100_50.trans q100_50_M1
    have q100_51_M23 : id (M23 100 51 = M 100 51) := eM23_100_51.trans q100_51_M1
    have q100_52_M23 : id (M23 100 52 = M 100 52) := eM23_100_52.trans q100_52_M1
    have q103_0_M23 : id (M23 103 0 = M 103 0) := eM23_103_0.trans q103_0_M1
    have q103_1_M23 : id (M23 103 1 = M 103 1) := eM23_103_1.trans q103_1_M1
    have q97_12_M23 : (M23 97 12 = M 97 12) := eM23_97_12.trans q97_12_M1
    clear eM23_100_0 eM23_100_1 eM23_100_2 eM23_100_3 eM23_100_49 eM23_100_50 eM23_100_51 eM23_100_52 eM23_103_0 eM23_103_1
    refine g_ireturn dX10_empty_19 ?_
    exact ⟨iM23, fM23, q99_0_M23, q99_1_M23, q99_2_M23, q99_3_M23, q100_0_M23, q100_1_M23, q100_2_M23, q100_3_M23, q100_49_M23, q100_50_M23, q100_51_M23, q100_52_M23, q103_0_M23, q103_1_M23, q97_12_M23, by first | assumption | decide | omega⟩
set_option maxHeartbeats 4000000 in
set_option maxRecDepth 100000 in
theorem l_X10_row_48 (X : Cx) (M : Mm) (hi : IM M) : ∀ (kk : Nat) (hd : Int) (cm : Int) (k : Int) (M1 : Mm) (ic1 : IM M1) (fr1 : Fr (fun c => 97 ≤ c ∧ c ≤ 116) M M1) (q99_0 : (M1 99 0 = M 99 0)) (q99_1 : (M1 99 1 = M 99 1)) (q99_2 : (M1 99 2 = M 99 2)) (q99_3 : (M1 99 3 = M 99 3)) (q100_0 : id (M1 100 0 = M 100 0)) (q100_1 : id (M1 100 1 = M 100 1)) (q100_2 : id (M1 100 2 = M 100 2)) (q100_3 : id (M1 100 3 = M 100 3)) (q100_49 : id (M1 100 49 = M 100 49)) (q100_50 : id (M1 100 50 = M 100 50)) (q100_51 : id (M1 100 51 = M 100 51)) (q100_52 : id (M1 100 52 = M 100 52)) (q103_0 : id (M1 103 0 = M 103 0)) (q103_1 : id (M1 103 1 = M 103 1)) (h1 : 1 ≤ hd ∧ hd ≤ 400) (hc : 0 ≤ cm ∧ cm ≤ k) (hk : 1 ≤ k) (hk2 : k ≤ 400) (hz : M1 97 12 = 0) (hgl : 0 ≤ M1 106 0 ∧ M1 106 0 < M 99 0), (400 - k).toNat = kk → G X 12 RX10 cX10_row 5 (some .int) (Qi (fun r M1 => IM M1 ∧ Fr (fun c => 97 ≤ c ∧ c ≤ 116) M M1 ∧ M1 99 0 = M 99 0 ∧ M1 99 1 = M 99 1 ∧ M1 99 2 = M 99 2 ∧ M1 99 3 = M 99 3 ∧ M1 100 0 = M 100 0 ∧ M1 100 1 = M 100 1 ∧ M1 100 2 = M 100 2 ∧ M1 100 3 = M 100 3 ∧ M1 100 49 = M 100 49 ∧ M1 100 50 = M 100 50 ∧ M1 100 51 = M 100 51 ∧ M1 100 52 = M 100 52 ∧ M1 103 0 = M 103 0 ∧ M1 103 1 = M 103 1 ∧ (inI r ∧ M1 97 12 = 0))) 48 [(1, vi hd), (2, vi cm), (3, vi k), (0, vr X 97)] [] M1 := by
  intro kk
  induction kk using Nat.strongRecOn with
  | ind kk ih =>
    intro hd cm k M1 ic1 fr1 q99_0 q99_1 q99_2 q99_3 q100_0 q100_1 q100_2 q100_3 q100_49 q100_50 q100_51 q100_52 q103_0 q103_1 h1 hc hk hk2 hz hgl hmes
    have p0 := hi.1.1
    have p1 := hi.1.2.1
    have p2 := hi.1.2.2.1
    have p3 := hi.1.2.2.2.1
    have p12 := hi.2.2.2.1
    refine g_iload_n (pc' := 49) 2 dX10_row_48 rfl rfl ?_
    refine g_iload_n (pc' := 50) 0 dX10_row_49 rfl rfl ?_
    refine g_ic_ge (pc' := 53) (tgt := 126) ⟨by omega, by omega⟩ ⟨by omega, by omega⟩ dX10_row_50 rfl rfl (fun c1 => ?_) (fun c1 => ?_)
    · refine g_aload_n (pc' := 127) 3 dX10_row_126 rfl rfl ?_
      refine g_iload_n (pc' := 128) 1 dX10_row_127 rfl rfl ?_
      refine g_callVi (pc' := 131) (As := [vi cm]) (b := 97) (S := []) dX10_row_128 rfl m_X10_87 w_X10_tell (c_X10_tell X M1 ic1 cm ⟨by omega, by omega⟩ (by omega)) rfl ⟨_, _, _, rfl, rfl, rfl⟩ (by decide) (by decide) rfl (Nat.le_of_ble_eq_true rfl) (fun z3 M4 q2 => ?_)
      obtain ⟨iM4, fM40, eM4_99_0, eM4_99_1, eM4_99_2, eM4_99_3, eM4_100_0, eM4_100_1, eM4_100_2, eM4_100_3, eM4_100_49, eM4_100_50, eM4_100_51, eM4_100_52, eM4_103_0, eM4_103_1, eM4_97_12, pM4⟩ := q2
      have fM4 : Fr (fun c => 97 ≤ c ∧ c ≤ 116) M M4 := Fr.tr fr1 fM40 fi_23
      have q99_0_M4 : (M4 99 0 = M 99 0) := eM4_99_0.trans q99_0
      have q99_1_M4 : (M4 99 1 = M 99 1) := eM4_99_1.trans q99_1
      have q99_2_M4 : (M4 99 2 = M 99 2) := eM4_99_2.trans q99_2
      have q99_3_M4 : (M4 99 3 = M 99 3) := eM4_99_3.trans q99_3
      have q100_0_M4 : id (M4 100 0 = M 100 0) := eM4_100_0.trans q100_0
      have q100_1_M4 : id (M4 100 1 = M 100 1) := eM4_100_1.trans q100_1
      have q100_2_M4 : id (M4 100 2 = M 100 2) := eM4_100_2.trans q100_2
      have q100_3_M4 : id (M4 100 3 = M 100 3) := eM4_100_3.trans q100_3
      have q100_49_M4 : id (M4 100 49 = M 100 49) := eM4_100_49.trans q100_49
      have q100_50_M4 : id (M4 100 50 = M 100 50) := eM4_100_50.trans q100_50
      have q100_51_M4 : id (M4 100 51 = M 100 51) := eM4_100_51.trans q100_51
      have q100_52_M4 : id (M4 100 52 = M 100 52) := eM4_100_52.trans q100_52
      have q103_0_M4 : id (M4 103 0 = M 103 0) := eM4_103_0.trans q103_0
      have q103_1_M4 : id (M4 103 1 = M 103 1) := eM4_103_1.trans q103_1
      have wM4_97_12 : M4 97 12 = M1 97 12 := eM4_97_12
      have wM4_106_0 : M4 106 0 = M1 106 0 := (congrFun (fM40 106 (by first | decide | omega | (dsimp only; omega))) 0)
      clear eM4_100_0 eM4_100_1 eM4_100_2 eM4_100_3 eM4_100_49 eM4_100_50 eM4_100_51 eM4_100_52 eM4_103_0 eM4_103_1
      refine g_ireturn dX10_row_131 ?_
      exact ⟨iM4, fM4, q99_0_M4, q99_1_M4, q99_2_M4, q99_3_M4, q100_0_M4, q100_1_M4, q100_2_M4, q100_3_M4, q100_49_M4, q100_50_M4, q100_51_M4, q100_52_M4, q103_0_M4, q103_1_M4, by omega⟩
    · refine g_iload_n (pc' := 54) 2 dX10_row_53 rfl rfl ?_
      refine g_iconst (pc' := 55) dX10_row_54 rfl ?_
      refine g_ic_ge (pc' := 58) (tgt := 74) ⟨by omega, by omega⟩ (by decide) dX10_row_55 rfl rfl (fun c5 => ?_) (fun c5 => ?_)
      · refine g_iconst (pc' := 75) dX10_row_74 rfl ?_
        refine g_istore (pc' := 77) (L' := [(4, vi 0), (1, vi hd), (2, vi cm), (3, vi k), (0, vr X 97)]) dX10_row_75 rfl (by decide) rfl ?_
        refine g_iload (pc' := 79) 0 dX10_row_77 rfl rfl ?_
        refine g_if_eq (pc' := 82) (tgt := 110) (by decide) dX10_row_79 rfl rfl (fun c6 => ?_) (fun c6 => ?_)
        · refine g_aload_n (pc' := 111) 4 dX10_row_110 rfl rfl ?_
          refine g_dup (pc' := 112) dX10_row_111 rfl rfl ?_
          refine g_getI (pc' := 115) dX10_row_112 rfl f_X10_145 rfl rfl (fun v7 ev7 rv7 => ?_)
          refine g_iconst (pc' := 116) dX10_row_115 rfl ?_
          refine g_iadd (pc' := 117) dX10_row_116 rfl ?_
          refine g_nrmI (fun n8 rn8 en8 => ?_)
          have bn8 : (-2147483648 ≤ v7 + 1 ∧ v7 + 1 ≤ 2147483647) → n8 = v7 + 1 := fun h => en8.trans (bm32 h)
          refine g_putI (pc' := 120) dX10_row_117 rfl p_X10_145 rfl rfl rn8 (fun M9 hM9 => ?_)
          have iM9 : IM M9 := IM.wr ic1 hM9 (by unfold okv; first | decide | omega)
          have fM9 : Fr (fun c => 97 ≤ c ∧ c ≤ 116) M M9 := Fr.wr fr1 hM9 (by first | decide | omega | (dsimp only; omega))
          have q99_0_M9 : (M9 99 0 = M 99 0) := (show M9 99 0 = M1 99 0 by rw [hM9]; exact mu_ne _ _ (by first | decide | omega)).trans q99_0
          have q99_1_M9 : (M9 99 1 = M 99 1) := (show M9 99 1 = M1 99 1 by rw [hM9]; exact mu_ne _ _ (by first | decide | omega)).trans q99_1
          have q99_2_M9 : (M9 99 2 = M 99 2) := (show M9 99 2 = M1 99 2 by rw [hM9]; exact mu_ne _ _ (by first | decide | omega)).trans q99_2
          have q99_3_M9 : (M9 99 3 = M 99 3) := (show M9 99 3 = M1 99 3 by rw [hM9]; exact mu_ne _ _ (by first | decide | omega)).trans q99_3
          have q100_0_M9 : id (M9 100 0 = M 100 0) := (show M9 100 0 = M1 100 0 by rw [hM9]; exact mu_ne _ _ (by first | decide | omega)).trans q100_0
          have q100_1_M9 : id (M9 100 1 = M 100 1) := (show M9 100 1 = M1 100 1 by rw [hM9]; exact mu_ne _ _ (by first | decide | omega)).trans q100_1
          have q100_2_M9 : id (M9 100 2 = M 100 2) := (show M9 100 2 = M1 100 2 by rw [hM9]; exact mu_ne _ _ (by first | decide | omega)).trans q100_2
          have q100_3_M9 : id (M9 100 3 = M 100 3) := (show M9 100 3 = M1 100 3 by rw [hM9]; exact mu_ne _ _ (by first | decide | omega)).trans q100_3
          have q100_49_M9 : id (M9 100 49 = M 100 49) := (show M9 100 49 = M1 100 49 by rw [hM9]; exact mu_ne _ _ (by first | decide | omega)).trans q100_49
          have q100_50_M9 : id (M9 100 50 = M 100 50) := (show M9 100 50 = M1 100 50 by rw [hM9]; exact mu_ne _ _ (by first | decide | omega)).trans q100_50
          have q100_51_M9 : id (M9 100 51 = M 100 51) := (show M9 100 51 = M1 100 51 by rw [hM9]; exact mu_ne _ _ (by first | decide | omega)).trans q100_51
          have q100_52_M9 : id (M9 100 52 = M 100 52) := (show M9 100 52 = M1 100 52 by rw [hM9]; exact mu_ne _ _ (by first | decide | omega)).trans q100_52
          have q103_0_M9 : id (M9 103 0 = M 103 0) := (show M9 103 0 = M1 103 0 by rw [hM9]; exact mu_ne _ _ (by first | decide | omega)).trans q103_0
          have q103_1_M9 : id (M9 103 1 = M 103 1) := (show M9 103 1 = M1 103 1 by rw [hM9]; exact mu_ne _ _ (by first | decide | omega)).trans q103_1
          have wM9_97_12 : M9 97 12 = M1 97 12 := by rw [hM9]; exact mu_ne _ _ (by first | decide | omega)
          have wM9_106_0 : M9 106 0 = M1 106 0 := by rw [hM9]; exact mu_ne _ _ (by first | decide | omega)
          have xM9_97_10 : M9 97 10 = n8 := by rw [hM9]; exact mu_at _ _ _ _
          refine g_iinc (pc' := 123) (L' := [(3, vi (k + 1)), (4, vi 0), (1, vi hd), (2, vi cm), (0, vr X 97)]) 3 dX10_row_120 rfl rfl (by decide) rfl ?_
          refine g_goto (tgt := 48) dX10_row_123 rfl ?_
          refine g_sub [2, 3, 0, 4] rfl ?_
          exact ih _ (by omega) hd cm (k + 1) M9 iM9 fM9 q99_0_M9 q99_1_M9 q99_2_M9 q99_3_M9 q100_0_M9 q100_1_M9 q100_2_M9 q100_3_M9 q100_49_M9 q100_50_M9 q100_51_M9 q100_52_M9 q103_0_M9 q103_1_M9 (by omega) (by omega) (by omega) (by omega) (by omega) (by omega) rfl
        · exact absurd c6 (by omega)
      · refine g_aload_n (pc' := 59) 3 dX10_row_58 rfl rfl ?_
        refine g_getR (pc' := 62) dX10_row_59 rfl f_X10_36 rfl rfl ?_
        refine g_iload_n (pc' := 63) 2 dX10_row_62 rfl rfl ?_
        refine g_iald (pc' := 64) dX10_row_63 rfl rfl (by omega) (by omega) (fun v10 ev10 rv10 => ?_)
        refine g_callSip (pc' := 67) (As := [vi v10]) (S := []) dX10_row_64 rfl m_X10_95 w_X10_isAmount (c_X10_isAmount X M1 v10 rv10) rfl (by decide) (by decide) rfl (Nat.le_of_ble_eq_true rfl) (fun z12 q11 => ?_)
        refine g_if_eq (pc' := 70) (tgt := 74) ⟨by omega, by omega⟩ dX10_row_67 rfl rfl (fun c13 => ?_) (fun c13 => ?_)
        · replace q11 := q11.resolve_left (fun h => absurd (c13.symm.trans h.1) (by decide))
          refine g_iconst (pc' := 75) dX10_row_74 rfl ?_
          refine g_istore (pc' := 77) (L' := [(4, vi 0), (1, vi hd), (2, vi cm), (3, vi k), (0, vr X 97)]) dX10_row_75 rfl (by decide) rfl ?_
          refine g_iload (pc' := 79) 0 dX10_row_77 rfl rfl ?_
          refine g_if_eq (pc' := 82) (tgt := 110) (by decide) dX10_row_79 rfl rfl (fun c14 => ?_) (fun c14 => ?_)
          · refine g_aload_n (pc' := 111) 4 dX10_row_110 rfl rfl ?_
            refine g_dup (pc' := 112) dX10_row_111 rfl rfl ?_
            refine g_getI (pc' := 115) dX10_row_112 rfl f_X10_145 rfl rfl (fun v15 ev15 rv15 => ?_)
            refine g_iconst (pc' := 116) dX10_row_115 rfl ?_
            refine g_iadd (pc' := 117) dX10_row_116 rfl ?_
            refine g_nrmI (fun n16 rn16 en16 => ?_)
            have bn16 : (-2147483648 ≤ v15 + 1 ∧ v15 + 1 ≤ 2147483647) → n16 = v15 + 1 := fun h => en16.trans (bm32 h)
            refine g_putI (pc' := 120) dX10_row_117 rfl p_X10_145 rfl rfl rn16 (fun M17 hM17 => ?_)
            have iM17 : IM M17 := IM.wr ic1 hM17 (by unfold okv; first | decide | omega)
            have fM17 : Fr (fun c => 97 ≤ c ∧ c ≤ 116) M M17 := Fr.wr fr1 hM17 (by first | decide | omega | (dsimp only; omega))
            have q99_0_M17 : (M17 99 0 = M 99 0) := (show M17 99 0 = M1 99 0 by rw [hM17]; exact mu_ne _ _ (by first | decide | omega)).trans q99_0
            have q99_1_M17 : (M17 99 1 = M 99 1) := (show M17 99 1 = M1 99 1 by rw [hM17]; exact mu_ne _ _ (by first | decide | omega)).trans q99_1
            have q99_2_M17 : (M17 99 2 = M 99 2) := (show M17 99 2 = M1 99 2 by rw [hM17]; exact mu_ne _ _ (by first | decide | omega)).trans q99_2
            have q99_3_M17 : (M17 99 3 = M 99 3) := (show M17 99 3 = M1 99 3 by rw [hM17]; exact mu_ne _ _ (by first | decide | omega)).trans q99_3
            have q100_0_M17 : id (M17 100 0 = M 100 0) := (show M17 100 0 = M1 100 0 by rw [hM17]; exact mu_ne _ _ (by first | decide | omega)).trans q100_0
            have q100_1_M17 : id (M17 100 1 = M 100 1) := (show M17 100 1 = M1 100 1 by rw [hM17]; exact mu_ne _ _ (by first | decide | omega)).trans q100_1
            have q100_2_M17 : id (M17 100 2 = M 100 2) := (show M17 100 2 = M1 100 2 by rw [hM17]; exact mu_ne _ _ (by first | decide | omega)).trans q100_2
            have q100_3_M17 : id (M17 100 3 = M 100 3) := (show M17 100 3 = M1 100 3 by rw [hM17]; exact mu_ne _ _ (by first | decide | omega)).trans q100_3
            have q100_49_M17 : id (M17 100 49 = M 100 49) := (show M17 100 49 = M1 100 49 by rw [hM17]; exact mu_ne _ _ (by first | decide | omega)).trans q100_49
            have q100_50_M17 : id (M17 100 50 = M 100 50) := (show M17 100 50 = M1 100 50 by rw [hM17]; exact mu_ne _ _ (by first | decide | omega)).trans q100_50
            have q100_51_M17 : id (M17 100 51 = M 100 51) := (show M17 100 51 = M1 100 51 by rw [hM17]; exact mu_ne _ _ (by first | decide | omega)).trans q100_51
            have q100_52_M17 : id (M17 100 52 = M 100 52) := (show M17 100 52 = M1 100 52 by rw [hM17]; exact mu_ne _ _ (by first | decide | omega)).trans q100_52
            have q103_0_M17 : id (M17 103 0 = M 103 0) := (show M17 103 0 = M1 103 0 by rw [hM17]; exact mu_ne _ _ (by first | decide | omega)).trans q103_0
            have q103_1_M17 : id (M17 103 1 = M 103 1) := (show M17 103 1 = M1 103 1 by rw [hM17]; exact mu_ne _ _ (by first | decide | omega)).trans q103_1
            have wM17_97_12 : M17 97 12 = M1 97 12 := by rw [hM17]; exact mu_ne _ _ (by first | decide | omega)
            have wM17_106_0 : M17 106 0 = M1 106 0 := by rw [hM17]; exact mu_ne _ _ (by first | decide | omega)
            have xM17_97_10 : M17 97 10 = n16 := by rw [hM17]; exact mu_at _ _ _ _
            refine g_iinc (pc' := 123) (L' := [(3, vi (k + 1)), (4, vi 0), (1, vi hd), (2, vi cm), (0, vr X 97)]) 3 dX10_row_120 rfl rfl (by decide) rfl ?_
            refine g_goto (tgt := 48) dX10_row_123 rfl ?_
            refine g_sub [2, 3, 0, 4] rfl ?_
            exact ih _ (by omega) hd cm (k + 1) M17 iM17 fM17 q99_0_M17 q99_1_M17 q99_2_M17 q99_3_M17 q100_0_M17 q100_1_M17 q100_2_M17 q100_3_M17 q100_49_M17 q100_50_M17 q100_51_M17 q100_52_M17 q103_0_M17 q103_1_M17 (by omega) (by omega) (by omega) (by omega) (by omega) (by omega) rfl
          · exact absurd c14 (by omega)
        · replace q11 := q11.resolve_right (fun h => c13 h.1)
          refine g_iconst (pc' := 71) dX10_row_70 rfl ?_
          refine g_goto (tgt := 75) dX10_row_71 rfl ?_
          refine g_istore (pc' := 77) (L' := [(4, vi 1), (1, vi hd), (2, vi cm), (3, vi k), (0, vr X 97)]) dX10_row_75 rfl (by decide) rfl ?_
          refine g_iload (pc' := 79) 0 dX10_row_77 rfl rfl ?_
          refine g_if_eq (pc' := 82) (tgt := 110) (by decide) dX10_row_79 rfl rfl (fun c18 => ?_) (fun c18 => ?_)
          · exact absurd c18 (by omega)
          · refine g_aload_n (pc' := 83) 4 dX10_row_82 rfl rfl ?_
            refine g_aload_n (pc' := 84) 4 dX10_row_83 rfl rfl ?_
            refine g_getR (pc' := 87) dX10_row_84 rfl f_X10_36 rfl rfl ?_
            refine g_iconst (pc' := 88) dX10_row_87 rfl ?_
            refine g_iald (pc' := 89) dX10_row_88 rfl rfl (by decide) (by decide) (fun v19 ev19 rv19 => ?_)
            have ev19 : v19 = M1 106 0 := ev19
            refine g_iload_n (pc' := 90) 3 dX10_row_89 rfl rfl ?_
            refine g_iconst (pc' := 91) dX10_row_90 rfl ?_
            refine g_isub (pc' := 92) dX10_row_91 rfl ?_
            refine g_aload_n (pc' := 93) 4 dX10_row_92 rfl rfl ?_
            refine g_getR (pc' := 96) dX10_row_93 rfl f_X10_36 rfl rfl ?_
            refine g_iload_n (pc' := 97) 3 dX10_row_96 rfl rfl ?_
            refine g_iald (pc' := 98) dX10_row_97 rfl rfl (by omega) (by omega) (fun v20 ev20 rv20 => ?_)
            obtain rfl : v10 = v20 := ev10.trans ev20.symm
            refine g_callVi (pc' := 101) (As := [vi v19, vi (k - 1), vi v10]) (b := 97) (S := []) dX10_row_98 rfl m_X10_135 w_X10_filled (c_X10_filled X M1 ic1 v19 rv19 (k - 1) ⟨by omega, by omega⟩ v10 rv10 (by omega) (by omega) (by omega)) rfl ⟨_, _, _, rfl, rfl, rfl⟩ (by decide) (by decide) rfl (Nat.le_of_ble_eq_true rfl) (fun z22 M23 q21 => ?_)
            obtain ⟨iM23, fM230, pM23⟩ := q21
            have fM23 : Fr (fun c => 97 ≤ c ∧ c ≤ 116) M M23 := Fr.tr fr1 fM230 fi_24
            have q99_0_M23 : (M23 99 0 = M 99 0) := (congrFun (fM230 99 (by first | decide | omega | (dsimp only; omega))) 0).trans q99_0
            have q99_1_M23 : (M23 99 1 = M 99 1) := (congrFun (fM230 99 (by first | decide | omega | (dsimp only; omega))) 1).trans q99_1
            have q99_2_M23 : (M23 99 2 = M 99 2) := (congrFun (fM230 99 (by first | decide | omega | (dsimp only; omega))) 2).trans q99_2
            have q99_3_M23 : (M23 99 3 = M 99 3) := (congrFun (fM230 99 (by first | decide | omega | (dsimp only; omega))) 3).trans q99_3
            have q100_0_M23 : id (M23 100 0 = M 100 0) := (congrFun (fM230 100 (by first | decide | omega | (dsimp only; omega))) 0).trans q100_0
            have q100_1_M23 : id (M23 100 1 = M 100 1) := (congrFun (fM230 100 (by first | decide | omega | (dsimp only; omega))) 1).trans q100_1
            have q100_2_M23 : id (M23 100 2 = M 100 2) := (congrFun (fM230 100 (by first | decide | omega | (dsimp only; omega))) 2).trans q100_2
            have q100_3_M23 : id (M23 100 3 = M 100 3) := (congrFun (fM230 100 (by first | decide | omega | (dsimp only; omega))) 3).trans q100_3
            have q100_49_M23 : id (M23 100 49 = M 100 49) := (congrFun (fM230 100 (by first | decide | omega | (dsimp only; omega))) 49).trans q100_49
            have q100_50_M23 : id (M23 100 50 = M 100 50) := (congrFun (fM230 100 (by first | decide | omega | (dsimp only; omega))) 50).trans q100_50
            have q100_51_M23 : id (M23 100 51 = M 100 51) := (congrFun (fM230 100 (by first | decide | omega | (dsimp only; omega))) 51).trans q100_51
            have q100_52_M23 : id (M23 100 52 = M 100 52) := (congrFun (fM230 100 (by first | decide | omega | (dsimp only; omega))) 52).trans q100_52
            have q103_0_M23 : id (M23 103 0 = M 103 0) := (congrFun (fM230 103 (by first | decide | omega | (dsimp only; omega))) 0).trans q103_0
            have q103_1_M23 : id (M23 103 1 = M 103 1) := (congrFun (fM230 103 (by first | decide | omega | (dsimp only; omega))) 1).trans q103_1
            have wM23_97_12 : M23 97 12 = M1 97 12 := (congrFun (fM230 97 (by first | decide | omega | (dsimp only; omega))) 12)
            have wM23_106_0 : M23 106 0 = M1 106 0 := (congrFun (fM230 106 (by first | decide | omega | (dsimp only; omega))) 0)
            refine g_if_ne (pc' := 104) (tgt := 110) ⟨by omega, by omega⟩ dX10_row_101 rfl rfl (fun c24 => ?_) (fun c24 => ?_)
            · refine g_aload_n (pc' := 111) 4 dX10_row_110 rfl rfl ?_
              refine g_dup (pc' := 112) dX10_row_111 rfl rfl ?_
              refine g_getI (pc' := 115) dX10_row_112 rfl f_X10_145 rfl rfl (fun v25 ev25 rv25 => ?_)
              refine g_iconst (pc' := 116) dX10_row_115 rfl ?_
              refine g_iadd (pc' := 117) dX10_row_116 rfl ?_
              refine g_nrmI (fun n26 rn26 en26 => ?_)
              have bn26 : (-2147483648 ≤ v25 + 1 ∧ v25 + 1 ≤ 2147483647) → n26 = v25 + 1 := fun h => en26.trans (bm32 h)
              refine g_putI (pc' := 120) dX10_row_117 rfl p_X10_145 rfl rfl rn26 (fun M27 hM27 => ?_)
              have iM27 : IM M27 := IM.wr iM23 hM27 (by unfold okv; first | decide | omega)
              have fM27 : Fr (fun c => 97 ≤ c ∧ c ≤ 116) M M27 := Fr.wr fM23 hM27 (by first | decide | omega | (dsimp only; omega))
              have q99_0_M27 : (M27 99 0 = M 99 0) := (show M27 99 0 = M23 99 0 by rw [hM27]; exact mu_ne _ _ (by first | decide | omega)).trans q99_0_M23
              have q99_1_M27 : (M27 99 1 = M 99 1) := (show M27 99 1 = M23 99 1 by rw [hM27]; exact mu_ne _ _ (by first | decide | omega)).trans q99_1_M23
              have q99_2_M27 : (M27 99 2 = M 99 2) := (show M27 99 2 = M23 99 2 by rw [hM27]; exact mu_ne _ _ (by first | decide | omega)).trans q99_2_M23
              have q99_3_M27 : (M27 99 3 = M 99 3) := (show M27 99 3 = M23 99 3 by rw [hM27]; exact mu_ne _ _ (by first | decide | omega)).trans q99_3_M23
              have q100_0_M27 : id (M27 100 0 = M 100 0) := (show M27 100 0 = M23 100 0 by rw [hM27]; exact mu_ne _ _ (by first | decide | omega)).trans q100_0_M23
              have q100_1_M27 : id (M27 100 1 = M 100 1) := (show M27 100 1 = M23 100 1 by rw [hM27]; exact mu_ne _ _ (by first | decide | omega)).trans q100_1_M23
              have q100_2_M27 : id (M27 100 2 = M 100 2) := (show M27 100 2 = M23 100 2 by rw [hM27]; exact mu_ne _ _ (by first | decide | omega)).trans q100_2_M23
              have q100_3_M27 : id (M27 100 3 = M 100 3) := (show M27 100 3 = M23 100 3 by rw [hM27]; exact mu_ne _ _ (by first | decide | omega)).trans q100_3_M23
              have q100_49_M27 : id (M27 100 49 = M 100 49) := (show M27 100 49 = M23 100 49 by rw [hM27]; exact mu_ne _ _ (by first | decide | omega)).trans q100_49_M23
              have q100_50_M27 : id (M27 100 50 = M 100 50) := (show M27 100 50 = M23 100 50 by rw [hM27]; exact mu_ne _ _ (by first | decide | omega)).trans q100_50_M23
              have q100_51_M27 : id (M27 100 51 = M 100 51) := (show M27 100 51 = M23 100 51 by rw [hM27]; exact mu_ne _ _ (by first | decide | omega)).trans q100_51_M23
              have q100_52_M27 : id (M27 100 52 = M 100 52) := (show M27 100 52 = M23 100 52 by rw [hM27]; exact mu_ne _ _ (by first | decide | omega)).trans q100_52_M23
              have q103_0_M27 : id (M27 103 0 = M 103 0) := (show M27 103 0 = M23 103 0 by rw [hM27]; exact mu_ne _ _ (by first | decide | omega)).trans q103_0_M23
              have q103_1_M27 : id (M27 103 1 = M 103 1) := (show M27 103 1 = M23 103 1 by rw [hM27]; exact mu_ne _ _ (by first | decide | omega)).trans q103_1_M23
              have wM27_97_12 : M27 97 12 = M23 97 12 := by rw [hM27]; exact mu_ne _ _ (by first | decide | omega)
              have wM27_106_0 : M27 106 0 = M23 106 0 := by rw [hM27]; exact mu_ne _ _ (by first | decide | omega)
              have xM27_97_10 : M27 97 10 = n26 := by rw [hM27]; exact mu_at _ _ _ _
              refine g_iinc (pc' := 123) (L' := [(3, vi (k + 1)), (4, vi 1), (1, vi hd), (2, vi cm), (0, vr X 97)]) 3 dX10_row_120 rfl rfl (by decide) rfl ?_
              refine g_goto (tgt := 48) dX10_row_123 rfl ?_
              refine g_sub [2, 3, 0, 4] rfl ?_
              exact ih _ (by omega) hd cm (k + 1) M27 iM27 fM27 q99_0_M27 q99_1_M27 q99_2_M27 q99_3_M27 q100_0_M27 q100_1_M27 q100_2_M27 q100_3_M27 q100_49_M27 q100_50_M27 q100_51_M27 q100_52_M27 q103_0_M27 q103_1_M27 (by omega) (by omega) (by omega) (by omega) (by omega) (by omega) rfl
            · refine g_iinc (pc' := 107) (L' := [(2, vi (cm + 1)), (4, vi 1), (1, vi hd), (3, vi k), (0, vr X 97)]) 2 dX10_row_104 rfl rfl (by decide) rfl ?_
              refine g_goto (tgt := 120) dX10_row_107 rfl ?_
              refine g_iinc (pc' := 123) (L' := [(3, vi (k + 1)), (2, vi (cm + 1)), (4, vi 1), (1, vi hd), (0, vr X 97)]) 3 dX10_row_120 rfl rfl (by decide) rfl ?_
              refine g_goto (tgt := 48) dX10_row_123 rfl ?_
              refine g_sub [3, 1, 0, 4] rfl ?_
              exact ih _ (by omega) hd (cm + 1) (k + 1) M23 iM23 fM23 q99_0_M23 q99_1_M23 q99_2_M23 q99_3_M23 q100_0_M23 q100_1_M23 q100_2_M23 q100_3_M23 q100_49_M23 q100_50_M23 q100_51_M23 q100_52_M23 q103_0_M23 q103_1_M23 (by omega) (by omega) (by omega) (by omega) (by omega) (by omega) rfl
set_option maxHeartbeats 4000000 in
set_option maxRecDepth 100000 in
theorem c_X10_row (X : Cx) (M : Mm) (hi : IM M) : Con X 12 yX10_row cX10_row 5 (some .int) [vr X 97] M (Qi (fun r M1 => IM M1 ∧ Fr (fun c => 97 ≤ c ∧ c ≤ 116) M M1 ∧ M1 99 0 = M 99 0 ∧ M1 99 1 = M 99 1 ∧ M1 99 2 = M 99 2 ∧ M1 99 3 = M 99 3 ∧ M1 100 0 = M 100 0 ∧ M1 100 1 = M 100 1 ∧ M1 100 2 = M 100 2 ∧ M1 100 3 = M 100 3 ∧ M1 100 49 = M 100 49 ∧ M1 100 50 = M 100 50 ∧ M1 100 51 = M 100 51 ∧ M1 100 52 = M 100 52 ∧ M1 103 0 = M 103 0 ∧ M1 103 1 = M 103 1 ∧ (inI r ∧ M1 97 12 = 0))) := by
  refine Con.ofG rfl (Nat.le_of_ble_eq_true rfl) ?_
  show G X 12 RX10 cX10_row 5 (some .int) (Qi (fun r M1 => IM M1 ∧ Fr (fun c => 97 ≤ c ∧ c ≤ 116) M M1 ∧ M1 99 0 = M 99 0 ∧ M1 99 1 = M 99 1 ∧ M1 99 2 = M 99 2 ∧ M1 99 3 = M 99 3 ∧ M1 100 0 = M 100 0 ∧ M1 100 1 = M 100 1 ∧ M1 100 2 = M 100 2 ∧ M1 100 3 = M 100 3 ∧ M1 100 49 = M 100 49 ∧ M1 100 50 = M 100 50 ∧ M1 100 51 = M 100 51 ∧ M1 100 52 = M 100 52 ∧ M1 103 0 = M 103 0 ∧ M1 103 1 = M 103 1 ∧ (inI r ∧ M1 97 12 = 0))) 0 [(0, vr X 97)] [] M
  have p0 := hi.1.1
  have p1 := hi.1.2.1
  have p2 := hi.1.2.2.1
  have p3 := hi.1.2.2.2.1
  have p12 := hi.2.2.2.1
  refine g_aload_n (pc' := 1) 0 dX10_row_0 rfl rfl ?_
  refine g_iconst (pc' := 2) dX10_row_1 rfl ?_
  refine g_putI (pc' := 5) dX10_row_2 rfl p_X10_77 rfl rfl (by decide) (fun M1 hM1 => ?_)
  have iM1 : IM M1 := IM.wr hi hM1 (by unfold okv; first | decide | omega)
  have fM1 : Fr (fun c => 97 ≤ c ∧ c ≤ 116) M M1 := Fr.wr Fr.rf hM1 (by first | decide | omega | (dsimp only; omega))
  have q99_0_M1 : (M1 99 0 = M 99 0) := (show M1 99 0 = M 99 0 by rw [hM1]; exact mu_ne _ _ (by first | decide | omega))
  have q99_1_M1 : (M1 99 1 = M 99 1) := (show M1 99 1 = M 99 1 by rw [hM1]; exact mu_ne _ _ (by first | decide | omega))
  have q99_2_M1 : (M1 99 2 = M 99 2) := (show M1 99 2 = M 99 2 by rw [hM1]; exact mu_ne _ _ (by first | decide | omega))
  have q99_3_M1 : (M1 99 3 = M 99 3) := (show M1 99 3 = M 99 3 by rw [hM1]; exact mu_ne _ _ (by first | decide | omega))
  have q100_0_M1 : id (M1 100 0 = M 100 0) := (show M1 100 0 = M 100 0 by rw [hM1]; exact mu_ne _ _ (by first | decide | omega))
  have q100_1_M1 : id (M1 100 1 = M 100 1) := (show M1 100 1 = M 100 1 by rw [hM1]; exact mu_ne _ _ (by first | decide | omega))
  have q100_2_M1 : id (M1 100 2 = M 100 2) := (show M1 100 2 = M 100 2 by rw [hM1]; exact mu_ne _ _ (by first | decide | omega))
  have q100_3_M1 : id (M1 100 3 = M 100 3) := (show M1 100 3 = M 100 3 by rw [hM1]; exact mu_ne _ _ (by first | decide | omega))
  have q100_49_M1 : id (M1 100 49 = M 100 49) := (show M1 100 49 = M 100 49 by rw [hM1]; exact mu_ne _ _ (by first | decide | omega))
  have q100_50_M1 : id (M1 100 50 = M 100 50) := (show M1 100 50 = M 100 50 by rw [hM1]; exact mu_ne _ _ (by first | decide | omega))
  have q100_51_M1 : id (M1 100 51 = M 100 51) := (show M1 100 51 = M 100 51 by rw [hM1]; exact mu_ne _ _ (by first | decide | omega))
  have q100_52_M1 : id (M1 100 52 = M 100 52) := (show M1 100 52 = M 100 52 by rw [hM1]; exact mu_ne _ _ (by first | decide | omega))
  have q103_0_M1 : id (M1 103 0 = M 103 0) := (show M1 103 0 = M 103 0 by rw [hM1]; exact mu_ne _ _ (by first | decide | omega))
  have q103_1_M1 : id (M1 103 1 = M 103 1) := (show M1 103 1 = M 103 1 by rw [hM1]; exact mu_ne _ _ (by first | decide | omega))
  have q97_12_M1 : (M1 97 12 = M 97 12) := (show M1 97 12 = M 97 12 by rw [hM1]; exact mu_ne _ _ (by first | decide | omega))
  have wM1_97_12 : M1 97 12 = M 97 12 := by rw [hM1]; exact mu_ne _ _ (by first | decide | omega)
  have wM1_106_0 : M1 106 0 = M 106 0 := by rw [hM1]; exact mu_ne _ _ (by first | decide | omega)
  have xM1_97_0 : M1 97 0 = 0 := by rw [hM1]; exact mu_at _ _ _ _
  refine g_aload_n (pc' := 6) 0 dX10_row_5 rfl rfl ?_
  refine g_getI (pc' := 9) dX10_row_6 rfl f_X10_142 rfl rfl (fun v2 ev2 rv2 => ?_)
  have bv2 : 0 ≤ v2 ∧ v2 ≤ 400 := by rw [ev2]; exact iM1.2.2.2.1
  have av2 : v2 = M 97 12 := ev2.trans q97_12_M1
  refine g_istore_n (pc' := 10) (i := 1) (L' := [(1, vi v2), (0, vr X 97)]) dX10_row_9 rfl rfl (by decide) rfl ?_
  refine g_aload_n (pc' := 11) 1 dX10_row_10 rfl rfl ?_
  refine g_iconst (pc' := 12) dX10_row_11 rfl ?_
  refine g_putI (pc' := 15) dX10_row_12 rfl p_X10_142 rfl rfl (by decide) (fun M3 hM3 => ?_)
  have iM3 : IM M3 := IM.wr iM1 hM3 (by unfold okv; first | decide | omega)
  have fM3 : Fr (fun c => 97 ≤ c ∧ c ≤ 116) M M3 := Fr.wr fM1 hM3 (by first | decide | omega | (dsimp only; omega))
  have q99_0_M3 : (M3 99 0 = M 99 0) := (show M3 99 0 = M1 99 0 by rw [hM3]; exact mu_ne _ _ (by first | decide | omega)).trans q99_0_M1
  have q99_1_M3 : (M3 99 1 = M 99 1) := (show M3 99 1 = M1 99 1 by rw [hM3]; exact mu_ne _ _ (by first | decide | omega)).trans q99_1_M1
  have q99_2_M3 : (M3 99 2 = M 99 2) := (show M3 99 2 = M1 99 2 by rw [hM3]; exact mu_ne _ _ (by first | decide | omega)).trans q99_2_M1
  have q99_3_M3 : (M3 99 3 = M 99 3) := (show M3 99 3 = M1 99 3 by rw [hM3]; exact mu_ne _ _ (by first | decide | omega)).trans q99_3_M1
  have q100_0_M3 : id (M3 100 0 = M 100 0) := (show M3 100 0 = M1 100 0 by rw [hM3]; exact mu_ne _ _ (by first | decide | omega)).trans q100_0_M1
  have q100_1_M3 : id (M3 100 1 = M 100 1) := (show M3 100 1 = M1 100 1 by rw [hM3]; exact mu_ne _ _ (by first | decide | omega)).trans q100_1_M1
  have q100_2_M3 : id (M3 100 2 = M 100 2) := (show M3 100 2 = M1 100 2 by rw [hM3]; exact mu_ne _ _ (by first | decide | omega)).trans q100_2_M1
  have q100_3_M3 : id (M3 100 3 = M 100 3) := (show M3 100 3 = M1 100 3 by rw [hM3]; exact mu_ne _ _ (by first | decide | omega)).trans q100_3_M1
  have q100_49_M3 : id (M3 100 49 = M 100 49) := (show M3 100 49 = M1 100 49 by rw [hM3]; exact mu_ne _ _ (by first | decide | omega)).trans q100_49_M1
  have q100_50_M3 : id (M3 100 50 = M 100 50) := (show M3 100 50 = M1 100 50 by rw [hM3]; exact mu_ne _ _ (by first | decide | omega)).trans q100_50_M1
  have q100_51_M3 : id (M3 100 51 = M 100 51) := (show M3 100 51 = M1 100 51 by rw [hM3]; exact mu_ne _ _ (by first | decide | omega)).trans q100_51_M1
  have q100_52_M3 : id (M3 100 52 = M 100 52) := (show M3 100 52 = M1 100 52 by rw [hM3]; exact mu_ne _ _ (by first | decide | omega)).trans q100_52_M1
  have q103_0_M3 : id (M3 103 0 = M 103 0) := (show M3 103 0 = M1 103 0 by rw [hM3]; exact mu_ne _ _ (by first | decide | omega)).trans q103_0_M1
  have q103_1_M3 : id (M3 103 1 = M 103 1) := (show M3 103 1 = M1 103 1 by rw [hM3]; exact mu_ne _ _ (by first | decide | omega)).trans q103_1_M1
  have wM3_106_0 : M3 106 0 = M1 106 0 := by rw [hM3]; exact mu_ne _ _ (by first | decide | omega)
  have xM3_97_0 : M3 97 0 = 0 := (show M3 97 0 = M1 97 0 by rw [hM3]; exact mu_ne _ _ (by first | decide | omega)).trans xM1_97_0
  have xM3_97_12 : M3 97 12 = 0 := by rw [hM3]; exact mu_at _ _ _ _
  refine g_iload_n (pc' := 16) 0 dX10_row_15 rfl rfl ?_
  refine g_if_eq (pc' := 19) (tgt := 32) rv2 dX10_row_16 rfl rfl (fun c4 => ?_) (fun c4 => ?_)
  · refine g_aload_n (pc' := 33) 1 dX10_row_32 rfl rfl ?_
    refine g_bipush (pc' := 35) (v := (-6)) dX10_row_33 rfl (by decide) ?_
    refine g_callVi (pc' := 38) (As := [vi (-6)]) (b := 97) (S := []) dX10_row_35 rfl m_X10_87 w_X10_tell (c_X10_tell X M3 iM3 (-6) (by decide) (by omega)) rfl ⟨_, _, _, rfl, rfl, rfl⟩ (by decide) (by decide) rfl (Nat.le_of_ble_eq_true rfl) (fun z6 M7 q5 => ?_)
    obtain ⟨iM7, fM70, eM7_99_0, eM7_99_1, eM7_99_2, eM7_99_3, eM7_100_0, eM7_100_1, eM7_100_2, eM7_100_3, eM7_100_49, eM7_100_50, eM7_100_51, eM7_100_52, eM7_103_0, eM7_103_1, eM7_97_12, pM7⟩ := q5
    have fM7 : Fr (fun c => 97 ≤ c ∧ c ≤ 116) M M7 := Fr.tr fM3 fM70 fi_23
    have q99_0_M7 : (M7 99 0 = M 99 0) := eM7_99_0.trans q99_0_M3
    have q99_1_M7 : (M7 99 1 = M 99 1) := eM7_99_1.trans q99_1_M3
    have q99_2_M7 : (M7 99 2 = M 99 2) := eM7_99_2.trans q99_2_M3
    have q99_3_M7 : (M7 99 3 = M 99 3) := eM7_99_3.trans q99_3_M3
    have q100_0_M7 : id (M7 100 0 = M 100 0) := eM7_100_0.trans q100_0_M3
    have q100_1_M7 : id (M7 100 1 = M 100 1) := eM7_100_1.trans q100_1_M3
    have q100_2_M7 : id (M7 100 2 = M 100 2) := eM7_100_2.trans q100_2_M3
    have q100_3_M7 : id (M7 100 3 = M 100 3) := eM7_100_3.trans q100_3_M3
    have q100_49_M7 : id (M7 100 49 = M 100 49) := eM7_100_49.trans q100_49_M3
    have q100_50_M7 : id (M7 100 50 = M 100 50) := eM7_100_50.trans q100_50_M3
    have q100_51_M7 : id (M7 100 51 = M 100 51) := eM7_100_51.trans q100_51_M3
    have q100_52_M7 : id (M7 100 52 = M 100 52) := eM7_100_52.trans q100_52_M3
    have q103_0_M7 : id (M7 103 0 = M 103 0) := eM7_103_0.trans q103_0_M3
    have q103_1_M7 : id (M7 103 1 = M 103 1) := eM7_103_1.trans q103_1_M3
    have wM7_97_12 : M7 97 12 = M3 97 12 := eM7_97_12
    have wM7_106_0 : M7 106 0 = M3 106 0 := (congrFun (fM70 106 (by first | decide | omega | (dsimp only; omega))) 0)
    have xM7_97_12 : M7 97 12 = 0 := eM7_97_12.trans xM3_97_12
    clear eM7_100_0 eM7_100_1 eM7_100_2 eM7_100_3 eM7_100_49 eM7_100_50 eM7_100_51 eM7_100_52 eM7_103_0 eM7_103_1
    refine g_ireturn dX10_row_38 ?_
    exact ⟨iM7, fM7, q99_0_M7, q99_1_M7, q99_2_M7, q99_3_M7, q100_0_M7, q100_1_M7, q100_2_M7, q100_3_M7, q100_49_M7, q100_50_M7, q100_51_M7, q100_52_M7, q103_0_M7, q103_1_M7, by omega⟩
  · refine g_aload_n (pc' := 20) 1 dX10_row_19 rfl rfl ?_
    refine g_aload_n (pc' := 21) 1 dX10_row_20 rfl rfl ?_
    refine g_getR (pc' := 24) dX10_row_21 rfl f_X10_36 rfl rfl ?_
    refine g_iconst (pc' := 25) dX10_row_24 rfl ?_
    refine g_iald (pc' := 26) dX10_row_25 rfl rfl (by decide) (by decide) (fun v8 ev8 rv8 => ?_)
    have ev8 : v8 = M3 106 0 := ev8
    refine g_callVip (pc' := 29) (As := [vi v8]) (b := 97) (S := []) dX10_row_26 rfl m_X10_102 w_X10_isGlass (c_X10_isGlass X M3 iM3 v8 rv8) rfl ⟨_, _, _, rfl, rfl, rfl⟩ (by decide) (by decide) rfl (Nat.le_of_ble_eq_true rfl) (fun z10 q9 => ?_)
    refine g_if_ne (pc' := 32) (tgt := 39) ⟨by omega, by omega⟩ dX10_row_29 rfl rfl (fun c11 => ?_) (fun c11 => ?_)
    · replace q9 := q9.resolve_right (fun h => c11 h.1)
      refine g_aload_n (pc' := 40) 1 dX10_row_39 rfl rfl ?_
      refine g_iconst (pc' := 41) dX10_row_40 rfl ?_
      refine g_putI (pc' := 44) dX10_row_41 rfl p_X10_145 rfl rfl (by decide) (fun M12 hM12 => ?_)
      have iM12 : IM M12 := IM.wr iM3 hM12 (by unfold okv; first | decide | omega)
      have fM12 : Fr (fun c => 97 ≤ c ∧ c ≤ 116) M M12 := Fr.wr fM3 hM12 (by first | decide | omega | (dsimp only; omega))
      have q99_0_M12 : (M12 99 0 = M 99 0) := (show M12 99 0 = M3 99 0 by rw [hM12]; exact mu_ne _ _ (by first | decide | omega)).trans q99_0_M3
      have q99_1_M12 : (M12 99 1 = M 99 1) := (show M12 99 1 = M3 99 1 by rw [hM12]; exact mu_ne _ _ (by first | decide | omega)).trans q99_1_M3
      have q99_2_M12 : (M12 99 2 = M 99 2) := (show M12 99 2 = M3 99 2 by rw [hM12]; exact mu_ne _ _ (by first | decide | omega)).trans q99_2_M3
      have q99_3_M12 : (M12 99 3 = M 99 3) := (show M12 99 3 = M3 99 3 by rw [hM12]; exact mu_ne _ _ (by first | decide | omega)).trans q99_3_M3
      have q100_0_M12 : id (M12 100 0 = M 100 0) := (show M12 100 0 = M3 100 0 by rw [hM12]; exact mu_ne _ _ (by first | decide | omega)).trans q100_0_M3
      have q100_1_M12 : id (M12 100 1 = M 100 1) := (show M12 100 1 = M3 100 1 by rw [hM12]; exact mu_ne _ _ (by first | decide | omega)).trans q100_1_M3
      have q100_2_M12 : id (M12 100 2 = M 100 2) := (show M12 100 2 = M3 100 2 by rw [hM12]; exact mu_ne _ _ (by first | decide | omega)).trans q100_2_M3
      have q100_3_M12 : id (M12 100 3 = M 100 3) := (show M12 100 3 = M3 100 3 by rw [hM12]; exact mu_ne _ _ (by first | decide | omega)).trans q100_3_M3
      have q100_49_M12 : id (M12 100 49 = M 100 49) := (show M12 100 49 = M3 100 49 by rw [hM12]; exact mu_ne _ _ (by first | decide | omega)).trans q100_49_M3
      have q100_50_M12 : id (M12 100 50 = M 100 50) := (show M12 100 50 = M3 100 50 by rw [hM12]; exact mu_ne _ _ (by first | decide | omega)).trans q100_50_M3
      have q100_51_M12 : id (M12 100 51 = M 100 51) := (show M12 100 51 = M3 100 51 by rw [hM12]; exact mu_ne _ _ (by first | decide | omega)).trans q100_51_M3
      have q100_52_M12 : id (M12 100 52 = M 100 52) := (show M12 100 52 = M3 100 52 by rw [hM12]; exact mu_ne _ _ (by first | decide | omega)).trans q100_52_M3
      have q103_0_M12 : id (M12 103 0 = M 103 0) := (show M12 103 0 = M3 103 0 by rw [hM12]; exact mu_ne _ _ (by first | decide | omega)).trans q103_0_M3
      have q103_1_M12 : id (M12 103 1 = M 103 1) := (show M12 103 1 = M3 103 1 by rw [hM12]; exact mu_ne _ _ (by first | decide | omega)).trans q103_1_M3
      have wM12_97_12 : M12 97 12 = M3 97 12 := by rw [hM12]; exact mu_ne _ _ (by first | decide | omega)
      have wM12_106_0 : M12 106 0 = M3 106 0 := by rw [hM12]; exact mu_ne _ _ (by first | decide | omega)
      have xM12_97_0 : M12 97 0 = 0 := (show M12 97 0 = M3 97 0 by rw [hM12]; exact mu_ne _ _ (by first | decide | omega)).trans xM3_97_0
      have xM12_97_12 : M12 97 12 = 0 := (show M12 97 12 = M3 97 12 by rw [hM12]; exact mu_ne _ _ (by first | decide | omega)).trans xM3_97_12
      have xM12_97_10 : M12 97 10 = 0 := by rw [hM12]; exact mu_at _ _ _ _
      refine g_iconst (pc' := 45) dX10_row_44 rfl ?_
      refine g_istore_n (pc' := 46) (i := 2) (L' := [(2, vi 0), (1, vi v2), (0, vr X 97)]) dX10_row_45 rfl rfl (by decide) rfl ?_
      refine g_iconst (pc' := 47) dX10_row_46 rfl ?_
      refine g_istore_n (pc' := 48) (i := 3) (L' := [(3, vi 1), (2, vi 0), (1, vi v2), (0, vr X 97)]) dX10_row_47 rfl rfl (by decide) rfl ?_
      refine g_sub [2, 1, 0, 3] rfl ?_
      exact l_X10_row_48 X M hi _ v2 0 1 M12 iM12 fM12 q99_0_M12 q99_1_M12 q99_2_M12 q99_3_M12 q100_0_M12 q100_1_M12 q100_2_M12 q100_3_M12 q100_49_M12 q100_50_M12 q100_51_M12 q100_52_M12 q103_0_M12 q103_1_M12 (by omega) (by omega) (by omega) (by omega) (by omega) (by omega) rfl
    · replace q9 := q9.resolve_left (fun h => absurd (c11.symm.trans h.1) (by decide))
      refine g_aload_n (pc' := 33) 1 dX10_row_32 rfl rfl ?_
      refine g_bipush (pc' := 35) (v := (-6)) dX10_row_33 rfl (by decide) ?_
      refine g_callVi (pc' := 38) (As := [vi (-6)]) (b := 97) (S := []) dX10_row_35 rfl m_X10_87 w_X10_tell (c_X10_tell X M3 iM3 (-6) (by decide) (by omega)) rfl ⟨_, _, _, rfl, rfl, rfl⟩ (by decide) (by decide) rfl (Nat.le_of_ble_eq_true rfl) (fun z14 M15 q13 => ?_)
      obtain ⟨iM15, fM150, eM15_99_0, eM15_99_1, eM15_99_2, eM15_99_3, eM15_100_0, eM15_100_1, eM15_100_2, eM15_100_3, eM15_100_49, eM15_100_50, eM15_100_51, eM15_100_52, eM15_103_0, eM15_103_1, eM15_97_12, pM15⟩ := q13
      have fM15 : Fr (fun c => 97 ≤ c ∧ c ≤ 116) M M15 := Fr.tr fM3 fM150 fi_23
      have q99_0_M15 : (M15 99 0 = M 99 0) := eM15_99_0.trans q99_0_M3
      have q99_1_M15 : (M15 99 1 = M 99 1) := eM15_99_1.trans q99_1_M3
      have q99_2_M15 : (M15 99 2 = M 99 2) := eM15_99_2.trans q99_2_M3
      have q99_3_M15 : (M15 99 3 = M 99 3) := eM15_99_3.trans q99_3_M3
      have q100_0_M15 : id (M15 100 0 = M 100 0) := eM15_100_0.trans q100_0_M3
      have q100_1_M15 : id (M15 100 1 = M 100 1) := eM15_100_1.trans q100_1_M3
      have q100_2_M15 : id (M15 100 2 = M 100 2) := eM15_100_2.trans q100_2_M3
      have q100_3_M15 : id (M15 100 3 = M 100 3) := eM15_100_3.trans q100_3_M3
      have q100_49_M15 : id (M15 100 49 = M 100 49) := eM15_100_49.trans q100_49_M3
      have q100_50_M15 : id (M15 100 50 = M 100 50) := eM15_100_50.trans q100_50_M3
      have q100_51_M15 : id (M15 100 51 = M 100 51) := eM15_100_51.trans q100_51_M3
      have q100_52_M15 : id (M15 100 52 = M 100 52) := eM15_100_52.trans q100_52_M3
      have q103_0_M15 : id (M15 103 0 = M 103 0) := eM15_103_0.trans q103_0_M3
      have q103_1_M15 : id (M15 103 1 = M 103 1) := eM15_103_1.trans q103_1_M3
      have wM15_97_12 : M15 97 12 = M3 97 12 := eM15_97_12
      have wM15_106_0 : M15 106 0 = M3 106 0 := (congrFun (fM150 106 (by first | decide | omega | (dsimp only; omega))) 0)
      have xM15_97_12 : M15 97 12 = 0 := eM15_97_12.trans xM3_97_12
      clear eM15_100_0 eM15_100_1 eM15_100_2 eM15_100_3 eM15_100_49 eM15_100_50 eM15_100_51 eM15_100_52 eM15_103_0 eM15_103_1
      refine g_ireturn dX10_row_38 ?_
      exact ⟨iM15, fM15, q99_0_M15, q99_1_M15, q99_2_M15, q99_3_M15, q100_0_M15, q100_1_M15, q100_2_M15, q100_3_M15, q100_49_M15, q100_50_M15, q100_51_M15, q100_52_M15, q103_0_M15, q103_1_M15, by omega⟩
set_option maxHeartbeats 4000000 in
set_option maxRecDepth 100000 in
theorem l_X10_power_5 (X : Cx) (M : Mm) (a : Int) (ha : inL a) (n : Int) (hn : inI n) (pa : 0 ≤ a ∧ a ≤ 130) (pn : 0 ≤ n ∧ n ≤ 6) : ∀ (kk : Nat) (res : Int) (i : Int) (h0 : 0 ≤ i) (h1 : i ≤ n) (hr : res = a ^ i.toNat), (n - i).toNat = kk → G X 0 RX10 cX10_power 6 (some .long) (Ql (fun r M1 => M1 = M ∧ (r = a ^ n.toNat))) 5 [(3, vl res), (5, vi i), (0, vl a), (2, vi n)] [] M := by
  intro kk
  induction kk using Nat.strongRecOn with
  | ind kk ih =>
    intro res i h0 h1 hr hmes
    have hb0 := powR (a := a) (k := i.toNat) pa.1 pa.2 (by omega)
    rw [← hr] at hb0
    refine g_iload (pc' := 7) 1 dX10_power_5 rfl rfl ?_
    refine g_iload_n (pc' := 8) 3 dX10_power_7 rfl rfl ?_
    refine g_ic_ge (pc' := 11) (tgt := 21) ⟨by omega, by omega⟩ hn dX10_power_8 rfl rfl (fun c1 => ?_) (fun c1 => ?_)
    · refine g_lload_n (pc' := 22) 0 dX10_power_21 rfl rfl ?_
      refine g_lreturn dX10_power_22 ?_
      exact ⟨rfl, by rw [hr, show i.toNat = n.toNat by omega]⟩
    · refine g_lload_n (pc' := 12) 0 dX10_power_11 rfl rfl ?_
      refine g_lload_n (pc' := 13) 2 dX10_power_12 rfl rfl ?_
      refine g_lmul (pc' := 14) dX10_power_13 rfl ?_
      obtain ⟨pp, hpp⟩ : ∃ z : Int, z = res * a := ⟨_, rfl⟩
      rw [← hpp]
      have hpe : pp = a ^ (i + 1).toNat := by rw [show (i + 1).toNat = i.toNat + 1 by omega, Int.pow_succ, ← hr]; exact hpp
      have hb1 := powR (a := a) (k := (i + 1).toNat) pa.1 pa.2 (by omega)
      rw [← hpe] at hb1
      refine g_lstore_n (pc' := 15) (i := 3) (L' := [(3, vl pp), (5, vi i), (0, vl a), (2, vi n)]) dX10_power_14 rfl rfl (by decide) rfl ?_
      refine g_iinc (pc' := 18) (L' := [(5, vi (i + 1)), (3, vl pp), (0, vl a), (2, vi n)]) 1 dX10_power_15 rfl rfl (by decide) rfl ?_
      refine g_goto (tgt := 5) dX10_power_18 rfl ?_
      refine g_sub [1, 0, 2, 3] rfl ?_
      exact ih _ (by omega) pp (i + 1) (by omega) (by omega) hpe rfl
set_option maxHeartbeats 4000000 in
set_option maxRecDepth 100000 in
theorem c_X10_power (X : Cx) (M : Mm) (a : Int) (ha : inL a) (n : Int) (hn : inI n) (pa : 0 ≤ a ∧ a ≤ 130) (pn : 0 ≤ n ∧ n ≤ 6) : Con X 0 yX10_power cX10_power 6 (some .long) [vl a, vi n] M (Ql (fun r M1 => M1 = M ∧ (r = a ^ n.toNat))) := by
  refine Con.ofG rfl (Nat.le_of_ble_eq_true rfl) ?_
  show G X 0 RX10 cX10_power 6 (some .long) (Ql (fun r M1 => M1 = M ∧ (r = a ^ n.toNat))) 0 [(0, vl a), (2, vi n)] [] M
  refine g_lconst (pc' := 1) (v := 1) dX10_power_0 rfl (by decide) ?_
  refine g_lstore_n (pc' := 2) (i := 3) (L' := [(3, vl 1), (0, vl a), (2, vi n)]) dX10_power_1 rfl rfl (by decide) rfl ?_
  refine g_iconst (pc' := 3) dX10_power_2 rfl ?_
  refine g_istore (pc' := 5) (L' := [(5, vi 0), (3, vl 1), (0, vl a), (2, vi n)]) dX10_power_3 rfl (by decide) rfl ?_
  refine g_sub [1, 0, 2, 3] rfl ?_
  exact l_X10_power_5 X M a ha n hn pa pn _ 1 0 (by omega) (by omega) (by simp) rfl
set_option maxHeartbeats 4000000 in
set_option maxRecDepth 100000 in
theorem c_X10_lowest (X : Cx) (M : Mm) (a : Int) (ha : inL a) (b : Int) (hb : inL b) (c : Int) (hc : inI c) (pa : 0 ≤ a) (pb : 1 ≤ b) : Con X 1 yX10_lowest cX10_lowest 7 (some .long) [vl a, vl b, vi c] M (Ql (fun r M1 => M1 = M ∧ (inL r))) := by
  refine Con.ofG rfl (Nat.le_of_ble_eq_true rfl) ?_
  show G X 1 RX10 cX10_lowest 7 (some .long) (Ql (fun r M1 => M1 = M ∧ (inL r))) 0 [(0, vl a), (2, vl b), (4, vi c)] [] M
  refine g_lload_n (pc' := 1) 1 dX10_lowest_0 rfl rfl ?_
  refine g_lload_n (pc' := 2) 0 dX10_lowest_1 rfl rfl ?_
  refine g_callSlp (pc' := 5) (As := [vl b, vl a]) (S := []) dX10_lowest_2 rfl m_X10_116 w_X10_common (c_X10_common X M b hb a ha (by omega) (by omega)) rfl (by decide) (by decide) rfl (Nat.le_of_ble_eq_true rfl) (fun z2 q1 => ?_)
  refine g_lstore (pc' := 7) (L' := [(5, vl z2), (0, vl a), (2, vl b), (4, vi c)]) dX10_lowest_5 rfl (by decide) rfl ?_
  refine g_iload (pc' := 9) 3 dX10_lowest_7 rfl rfl ?_
  refine g_if_ne (pc' := 12) (tgt := 19) hc dX10_lowest_9 rfl rfl (fun c3 => ?_) (fun c3 => ?_)
  · refine g_lload_n (pc' := 20) 2 dX10_lowest_19 rfl rfl ?_
    refine g_lload (pc' := 22) 0 dX10_lowest_20 rfl rfl ?_
    refine g_ldiv (pc' := 23) hb ⟨by omega, by omega⟩ (by omega) dX10_lowest_22 rfl ?_
    refine g_nrmL (fun n4 rn4 en4 => ?_)
    refine g_lreturn dX10_lowest_23 ?_
    exact ⟨rfl, by first | assumption | decide⟩
  · refine g_lload_n (pc' := 13) 1 dX10_lowest_12 rfl rfl ?_
    refine g_lload (pc' := 15) 0 dX10_lowest_13 rfl rfl ?_
    refine g_ldiv (pc' := 16) ha ⟨by omega, by omega⟩ (by omega) dX10_lowest_15 rfl ?_
    refine g_nrmL (fun n5 rn5 en5 => ?_)
    refine g_goto (tgt := 23) dX10_lowest_16 rfl ?_
    refine g_lreturn dX10_lowest_23 ?_
    exact ⟨rfl, by first | assumption | decide⟩
set_option maxHeartbeats 4000000 in
set_option maxRecDepth 100000 in
theorem c_X10_areBoth (X : Cx) (M : Mm) (a : Int) (ha : inI a) (b : Int) (hb : inI b) : Con X 2 yX10_areBoth cX10_areBoth 2 (some .boolean) [vi a, vi b] M (Qi (fun r M1 => M1 = M ∧ ((r = 1 ∧ 1 ≤ a ∧ a ≤ 60 ∧ 1 ≤ b ∧ b ≤ a - 1) ∨ (r = 0 ∧ (a < 1 ∨ 60 < a ∨ b < 1 ∨ a - 1 < b))))) := by
  refine Con.ofG rfl (Nat.le_of_ble_eq_true rfl) ?_
  show G X 2 RX10 cX10_areBoth 2 (some .boolean) (Qi (fun r M1 => M1 = M ∧ ((r = 1 ∧ 1 ≤ a ∧ a ≤ 60 ∧ 1 ≤ b ∧ b ≤ a - 1) ∨ (r = 0 ∧ (a < 1 ∨ 60 < a ∨ b < 1 ∨ a - 1 < b))))) 0 [(0, vi a), (1, vi b)] [] M
  refine g_iload_n (pc' := 1) 0 dX10_areBoth_0 rfl rfl ?_
  refine g_callSip (pc' := 4) (As := [vi a]) (S := []) dX10_areBoth_1 rfl m_X10_95 w_X10_isAmount (c_X10_isAmount X M a ha) rfl (by decide) (by decide) rfl (Nat.le_of_ble_eq_true rfl) (fun z2 q1 => ?_)
  refine g_if_eq (pc' := 7) (tgt := 24) ⟨by omega, by omega⟩ dX10_areBoth_4 rfl rfl (fun c3 => ?_) (fun c3 => ?_)
  · replace q1 := q1.resolve_left (fun h => absurd (c3.symm.trans h.1) (by decide))
    refine g_iconst (pc' := 25) dX10_areBoth_24 rfl ?_
    refine g_zreturn dX10_areBoth_25 (by omega) ?_
    exact ⟨rfl, by omega⟩
  · replace q1 := q1.resolve_right (fun h => c3 h.1)
    refine g_iload_n (pc' := 8) 1 dX10_areBoth_7 rfl rfl ?_
    refine g_i2l (pc' := 9) hb dX10_areBoth_8 rfl ?_
    refine g_lconst (pc' := 10) (v := 1) dX10_areBoth_9 rfl (by decide) ?_
    refine g_iload_n (pc' := 11) 0 dX10_areBoth_10 rfl rfl ?_
    refine g_i2l (pc' := 12) ha dX10_areBoth_11 rfl ?_
    refine g_lconst (pc' := 13) (v := 1) dX10_areBoth_12 rfl (by decide) ?_
    refine g_lsub (pc' := 14) dX10_areBoth_13 rfl ?_
    refine g_callSip (pc' := 17) (As := [vl b, vl 1, vl (a - 1)]) (S := []) dX10_areBoth_14 rfl m_X10_83 w_X10_in (c_X10_in X M b ⟨by omega, by omega⟩ 1 (by decide) (a - 1) ⟨by omega, by omega⟩) rfl (by decide) (by decide) rfl (Nat.le_of_ble_eq_true rfl) (fun z5 q4 => ?_)
    refine g_if_eq (pc' := 20) (tgt := 24) ⟨by omega, by omega⟩ dX10_areBoth_17 rfl rfl (fun c6 => ?_) (fun c6 => ?_)
    · replace q4 := q4.resolve_left (fun h => absurd (c6.symm.trans h.1) (by decide))
      refine g_iconst (pc' := 25) dX10_areBoth_24 rfl ?_
      refine g_zreturn dX10_areBoth_25 (by omega) ?_
      exact ⟨rfl, by omega⟩
    · replace q4 := q4.resolve_right (fun h => c6 h.1)
      refine g_iconst (pc' := 21) dX10_areBoth_20 rfl ?_
      refine g_goto (tgt := 25) dX10_areBoth_21 rfl ?_
      refine g_zreturn dX10_areBoth_25 (by omega) ?_
      exact ⟨rfl, by omega⟩
set_option maxHeartbeats 4000000 in
set_option maxRecDepth 100000 in
theorem c_X10_isCask (X : Cx) (M : Mm) (a : Int) (ha : inI a) (b : Int) (hb : inI b) : Con X 2 yX10_isCask cX10_isCask 2 (some .boolean) [vi a, vi b] M (Qi (fun r M1 => M1 = M ∧ ((r = 1 ∧ 1 ≤ a ∧ a ≤ 60 ∧ 0 ≤ b ∧ b ≤ a) ∨ (r = 0 ∧ (a < 1 ∨ 60 < a ∨ b < 0 ∨ a < b))))) := by
  refine Con.ofG rfl (Nat.le_of_ble_eq_true rfl) ?_
  show G X 2 RX10 cX10_isCask 2 (some .boolean) (Qi (fun r M1 => M1 = M ∧ ((r = 1 ∧ 1 ≤ a ∧ a ≤ 60 ∧ 0 ≤ b ∧ b ≤ a) ∨ (r = 0 ∧ (a < 1 ∨ 60 < a ∨ b < 0 ∨ a < b))))) 0 [(0, vi a), (1, vi b)] [] M
  refine g_iload_n (pc' := 1) 0 dX10_isCask_0 rfl rfl ?_
  refine g_callSip (pc' := 4) (As := [vi a]) (S := []) dX10_isCask_1 rfl m_X10_95 w_X10_isAmount (c_X10_isAmount X M a ha) rfl (by decide) (by decide) rfl (Nat.le_of_ble_eq_true rfl) (fun z2 q1 => ?_)
  refine g_if_eq (pc' := 7) (tgt := 22) ⟨by omega, by omega⟩ dX10_isCask_4 rfl rfl (fun c3 => ?_) (fun c3 => ?_)
  · replace q1 := q1.resolve_left (fun h => absurd (c3.symm.trans h.1) (by decide))
    refine g_iconst (pc' := 23) dX10_isCask_22 rfl ?_
    refine g_zreturn dX10_isCask_23 (by omega) ?_
    exact ⟨rfl, by omega⟩
  · replace q1 := q1.resolve_right (fun h => c3 h.1)
    refine g_iload_n (pc' := 8) 1 dX10_isCask_7 rfl rfl ?_
    refine g_i2l (pc' := 9) hb dX10_isCask_8 rfl ?_
    refine g_lconst (pc' := 10) (v := 0) dX10_isCask_9 rfl (by decide) ?_
    refine g_iload_n (pc' := 11) 0 dX10_isCask_10 rfl rfl ?_
    refine g_i2l (pc' := 12) ha dX10_isCask_11 rfl ?_
    refine g_callSip (pc' := 15) (As := [vl b, vl 0, vl a]) (S := []) dX10_isCask_12 rfl m_X10_83 w_X10_in (c_X10_in X M b ⟨by omega, by omega⟩ 0 (by decide) a ⟨by omega, by omega⟩) rfl (by decide) (by decide) rfl (Nat.le_of_ble_eq_true rfl) (fun z5 q4 => ?_)
    refine g_if_eq (pc' := 18) (tgt := 22) ⟨by omega, by omega⟩ dX10_isCask_15 rfl rfl (fun c6 => ?_) (fun c6 => ?_)
    · replace q4 := q4.resolve_left (fun h => absurd (c6.symm.trans h.1) (by decide))
      refine g_iconst (pc' := 23) dX10_isCask_22 rfl ?_
      refine g_zreturn dX10_isCask_23 (by omega) ?_
      exact ⟨rfl, by omega⟩
    · replace q4 := q4.resolve_right (fun h => c6 h.1)
      refine g_iconst (pc' := 19) dX10_isCask_18 rfl ?_
      refine g_goto (tgt := 23) dX10_isCask_19 rfl ?_
      refine g_zreturn dX10_isCask_23 (by omega) ?_
      exact ⟨rfl, by omega⟩
set_option maxHeartbeats 4000000 in
set_option maxRecDepth 100000 in
theorem l_X10_choose_16 (X : Cx) (M : Mm) (a : Int) (ha : inI a) (b : Int) (hb : inI b) (pa : 0 ≤ a ∧ a ≤ 40) (pb : 0 ≤ b ∧ b ≤ 40) : ∀ (kk : Nat) (res : Int) (i : Int) (hr : inL res) (h0 : 1 ≤ i) (h1 : i ≤ 41), (41 - i).toNat = kk → G X 0 RX10 cX10_choose 5 (some .long) (Ql (fun r M1 => M1 = M ∧ (inL r))) 16 [(2, vl res), (4, vi i), (0, vi a), (1, vi b)] [] M := by
  intro kk
  induction kk using Nat.strongRecOn with
  | ind kk ih =>
    intro res i hr h0 h1 hmes
    refine g_iload (pc' := 18) 1 dX10_choose_16 rfl rfl ?_
    refine g_iload_n (pc' := 19) 3 dX10_choose_18 rfl rfl ?_
    refine g_ic_gt (pc' := 22) (tgt := 42) ⟨by omega, by omega⟩ hb dX10_choose_19 rfl rfl (fun c1 => ?_) (fun c1 => ?_)
    · refine g_lload_n (pc' := 43) 0 dX10_choose_42 rfl rfl ?_
      refine g_lreturn dX10_choose_43 ?_
      exact ⟨rfl, by first | assumption | decide⟩
    · refine g_lload_n (pc' := 23) 0 dX10_choose_22 rfl rfl ?_
      refine g_iload_n (pc' := 24) 2 dX10_choose_23 rfl rfl ?_
      refine g_iload_n (pc' := 25) 3 dX10_choose_24 rfl rfl ?_
      refine g_isub (pc' := 26) dX10_choose_25 rfl ?_
      refine g_iload (pc' := 28) 1 dX10_choose_26 rfl rfl ?_
      refine g_iadd (pc' := 29) dX10_choose_28 rfl ?_
      refine g_i2l (pc' := 30) ⟨by omega, by omega⟩ dX10_choose_29 rfl ?_
      refine g_lmul (pc' := 31) dX10_choose_30 rfl ?_
      refine g_nrmL (fun n2 rn2 en2 => ?_)
      refine g_iload (pc' := 33) 1 dX10_choose_31 rfl rfl ?_
      refine g_i2l (pc' := 34) ⟨by omega, by omega⟩ dX10_choose_33 rfl ?_
      refine g_ldiv (pc' := 35) rn2 ⟨by omega, by omega⟩ (by omega) dX10_choose_34 rfl ?_
      refine g_nrmL (fun n3 rn3 en3 => ?_)
      refine g_lstore_n (pc' := 36) (i := 2) (L' := [(2, vl n3), (4, vi i), (0, vi a), (1, vi b)]) dX10_choose_35 rfl rfl (by decide) rfl ?_
      refine g_iinc (pc' := 39) (L' := [(4, vi (i + 1)), (2, vl n3), (0, vi a), (1, vi b)]) 1 dX10_choose_36 rfl rfl (by decide) rfl ?_
      refine g_goto (tgt := 16) dX10_choose_39 rfl ?_
      refine g_sub [1, 0, 2, 3] rfl ?_
      exact ih _ (by omega) n3 (i + 1) (by first | assumption | decide) (by omega) (by omega) rfl
set_option maxHeartbeats 4000000 in
set_option maxRecDepth 100000 in
theorem c_X10_choose (X : Cx) (M : Mm) (a : Int) (ha : inI a) (b : Int) (hb : inI b) (pa : 0 ≤ a ∧ a ≤ 40) (pb : 0 ≤ b ∧ b ≤ 40) : Con X 0 yX10_choose cX10_choose 5 (some .long) [vi a, vi b] M (Ql (fun r M1 => M1 = M ∧ (inL r))) := by
  refine Con.ofG rfl (Nat.le_of_ble_eq_true rfl) ?_
  show G X 0 RX10 cX10_choose 5 (some .long) (Ql (fun r M1 => M1 = M ∧ (inL r))) 0 [(0, vi a), (1, vi b)] [] M
  refine g_iload_n (pc' := 1) 1 dX10_choose_0 rfl rfl ?_
  refine g_if_lt (pc' := 4) (tgt := 9) hb dX10_choose_1 rfl rfl (fun c1 => ?_) (fun c1 => ?_)
  · refine g_lconst (pc' := 10) (v := 0) dX10_choose_9 rfl (by decide) ?_
    refine g_lreturn dX10_choose_10 ?_
    exact ⟨rfl, by first | assumption | decide⟩
  · refine g_iload_n (pc' := 5) 1 dX10_choose_4 rfl rfl ?_
    refine g_iload_n (pc' := 6) 0 dX10_choose_5 rfl rfl ?_
    refine g_ic_le (pc' := 9) (tgt := 11) hb ha dX10_choose_6 rfl rfl (fun c2 => ?_) (fun c2 => ?_)
    · refine g_lconst (pc' := 12) (v := 1) dX10_choose_11 rfl (by decide) ?_
      refine g_lstore_n (pc' := 13) (i := 2) (L' := [(2, vl 1), (0, vi a), (1, vi b)]) dX10_choose_12 rfl rfl (by decide) rfl ?_
      refine g_iconst (pc' := 14) dX10_choose_13 rfl ?_
      refine g_istore (pc' := 16) (L' := [(4, vi 1), (2, vl 1), (0, vi a), (1, vi b)]) dX10_choose_14 rfl (by decide) rfl ?_
      refine g_sub [1, 0, 2, 3] rfl ?_
      exact l_X10_choose_16 X M a ha b hb pa pb _ 1 1 (by first | assumption | decide) (by omega) (by omega) rfl
    · refine g_lconst (pc' := 10) (v := 0) dX10_choose_9 rfl (by decide) ?_
      refine g_lreturn dX10_choose_10 ?_
      exact ⟨rfl, by first | assumption | decide⟩
set_option maxHeartbeats 4000000 in
set_option maxRecDepth 100000 in
theorem c_X10_both (X : Cx) (M : Mm) (hi : IM M) (a : Int) (ha : inI a) (b : Int) (hb : inI b) (c : Int) (hc : inI c) (e : Int) (he : inI e) : Con X 12 yX10_both cX10_both 5 (some .long) [vr X 97, vi a, vi b, vi c, vi e] M (Ql (fun r M1 => IM M1 ∧ Fr (fun c => 97 ≤ c ∧ c ≤ 116) M M1 ∧ M1 99 0 = M 99 0 ∧ M1 99 1 = M 99 1 ∧ M1 99 2 = M 99 2 ∧ M1 99 3 = M 99 3 ∧ M1 100 0 = M 100 0 ∧ M1 100 1 = M 100 1 ∧ M1 100 2 = M 100 2 ∧ M1 100 3 = M 100 3 ∧ M1 100 49 = M 100 49 ∧ M1 100 50 = M 100 50 ∧ M1 100 51 = M 100 51 ∧ M1 100 52 = M 100 52 ∧ M1 103 0 = M 103 0 ∧ M1 103 1 = M 103 1 ∧ M1 97 12 = M 97 12 ∧ (inL r))) := by
  refine Con.ofG rfl (Nat.le_of_ble_eq_true rfl) ?_
  show G X 12 RX10 cX10_both 5 (some .long) (Ql (fun r M1 => IM M1 ∧ Fr (fun c => 97 ≤ c ∧ c ≤ 116) M M1 ∧ M1 99 0 = M 99 0 ∧ M1 99 1 = M 99 1 ∧ M1 99 2 = M 99 2 ∧ M1 99 3 = M 99 3 ∧ M1 100 0 = M 100 0 ∧ M1 100 1 = M 100 1 ∧ M1 100 2 = M 100 2 ∧ M1 100 3 = M 100 3 ∧ M1 100 49 = M 100 49 ∧ M1 100 50 = M 100 50 ∧ M1 100 51 = M 100 51 ∧ M1 100 52 = M 100 52 ∧ M1 103 0 = M 103 0 ∧ M1 103 1 = M 103 1 ∧ M1 97 12 = M 97 12 ∧ (inL r))) 0 [(0, vr X 97), (1, vi a), (2, vi b), (3, vi c), (4, vi e)] [] M
  have p0 := hi.1.1
  have p1 := hi.1.2.1
  have p2 := hi.1.2.2.1
  have p3 := hi.1.2.2.2.1
  have p12 := hi.2.2.2.1
  refine g_aload_n (pc' := 1) 0 dX10_both_0 rfl rfl ?_
  refine g_iconst (pc' := 2) dX10_both_1 rfl ?_
  refine g_putI (pc' := 5) dX10_both_2 rfl p_X10_77 rfl rfl (by decide) (fun M1 hM1 => ?_)
  have iM1 : IM M1 := IM.wr hi hM1 (by unfold okv; first | decide | omega)
  have fM1 : Fr (fun c => 97 ≤ c ∧ c ≤ 116) M M1 := Fr.wr Fr.rf hM1 (by first | decide | omega | (dsimp only; omega))
  have q99_0_M1 : (M1 99 0 = M 99 0) := (show M1 99 0 = M 99 0 by rw [hM1]; exact mu_ne _ _ (by first | decide | omega))
  have q99_1_M1 : (M1 99 1 = M 99 1) := (show M1 99 1 = M 99 1 by rw [hM1]; exact mu_ne _ _ (by first | decide | omega))
  have q99_2_M1 : (M1 99 2 = M 99 2) := (show M1 99 2 = M 99 2 by rw [hM1]; exact mu_ne _ _ (by first | decide | omega))
  have q99_3_M1 : (M1 99 3 = M 99 3) := (show M1 99 3 = M 99 3 by rw [hM1]; exact mu_ne _ _ (by first | decide | omega))
  have q100_0_M1 : id (M1 100 0 = M 100 0) := (show M1 100 0 = M 100 0 by rw [hM1]; exact mu_ne _ _ (by first | decide | omega))
  have q100_1_M1 : id (M1 100 1 = M 100 1) := (show M1 100 1 = M 100 1 by rw [hM1]; exact mu_ne _ _ (by first | decide | omega))
  have q100_2_M1 : id (M1 100 2 = M 100 2) := (show M1 100 2 = M 100 2 by rw [hM1]; exact mu_ne _ _ (by first | decide | omega))
  have q100_3_M1 : id (M1 100 3 = M 100 3) := (show M1 100 3 = M 100 3 by rw [hM1]; exact mu_ne _ _ (by first | decide | omega))
  have q100_49_M1 : id (M1 100 49 = M 100 49) := (show M1 100 49 = M 100 49 by rw [hM1]; exact mu_ne _ _ (by first | decide | omega))
  have q100_50_M1 : id (M1 100 50 = M 100 50) := (show M1 100 50 = M 100 50 by rw [hM1]; exact mu_ne _ _ (by first | decide | omega))
  have q100_51_M1 : id (M1 100 51 = M 100 51) := (show M1 100 51 = M 100 51 by rw [hM1]; exact mu_ne _ _ (by first | decide | omega))
  have q100_52_M1 : id (M1 100 52 = M 100 52) := (show M1 100 52 = M 100 52 by rw [hM1]; exact mu_ne _ _ (by first | decide | omega))
  have q103_0_M1 : id (M1 103 0 = M 103 0) := (show M1 103 0 = M 103 0 by rw [hM1]; exact mu_ne _ _ (by first | decide | omega))
  have q103_1_M1 : id (M1 103 1 = M 103 1) := (show M1 103 1 = M 103 1 by rw [hM1]; exact mu_ne _ _ (by first | decide | omega))
  have q97_12_M1 : (M1 97 12 = M 97 12) := (show M1 97 12 = M 97 12 by rw [hM1]; exact mu_ne _ _ (by first | decide | omega))
  have xM1_97_0 : M1 97 0 = 0 := by rw [hM1]; exact mu_at _ _ _ _
  refine g_iload_n (pc' := 6) 1 dX10_both_5 rfl rfl ?_
  refine g_iload_n (pc' := 7) 2 dX10_both_6 rfl rfl ?_
  refine g_callSip (pc' := 10) (As := [vi a, vi b]) (S := []) dX10_both_7 rfl m_X10_331 w_X10_areBoth (c_X10_areBoth X M1 a ha b hb) rfl (by decide) (by decide) rfl (Nat.le_of_ble_eq_true rfl) (fun z3 q2 => ?_)
  refine g_if_eq (pc' := 13) (tgt := 60) ⟨by omega, by omega⟩ dX10_both_10 rfl rfl (fun c4 => ?_) (fun c4 => ?_)
  · replace q2 := q2.resolve_left (fun h => absurd (c4.symm.trans h.1) (by decide))
    refine g_ldc2 (pc' := 63) (v := (-1)) dX10_both_60 rfl k_X10_108 ?_
    refine g_lreturn dX10_both_63 ?_
    exact ⟨iM1, fM1, q99_0_M1, q99_1_M1, q99_2_M1, q99_3_M1, q100_0_M1, q100_1_M1, q100_2_M1, q100_3_M1, q100_49_M1, q100_50_M1, q100_51_M1, q100_52_M1, q103_0_M1, q103_1_M1, q97_12_M1, by first | assumption | decide | omega⟩
  · replace q2 := q2.resolve_right (fun h => c4 h.1)
    refine g_iload_n (pc' := 14) 3 dX10_both_13 rfl rfl ?_
    refine g_i2l (pc' := 15) hc dX10_both_14 rfl ?_
    refine g_lconst (pc' := 16) (v := 0) dX10_both_15 rfl (by decide) ?_
    refine g_ldc2 (pc' := 19) (v := 6) dX10_both_16 rfl k_X10_335 ?_
    refine g_callSip (pc' := 22) (As := [vl c, vl 0, vl 6]) (S := []) dX10_both_19 rfl m_X10_83 w_X10_in (c_X10_in X M1 c ⟨by omega, by omega⟩ 0 (by decide) 6 (by decide)) rfl (by decide) (by decide) rfl (Nat.le_of_ble_eq_true rfl) (fun z6 q5 => ?_)
    refine g_if_eq (pc' := 25) (tgt := 60) ⟨by omega, by omega⟩ dX10_both_22 rfl rfl (fun c7 => ?_) (fun c7 => ?_)
    · replace q5 := q5.resolve_left (fun h => absurd (c7.symm.trans h.1) (by decide))
      refine g_ldc2 (pc' := 63) (v := (-1)) dX10_both_60 rfl k_X10_108 ?_
      refine g_lreturn dX10_both_63 ?_
      exact ⟨iM1, fM1, q99_0_M1, q99_1_M1, q99_2_M1, q99_3_M1, q100_0_M1, q100_1_M1, q100_2_M1, q100_3_M1, q100_49_M1, q100_50_M1, q100_51_M1, q100_52_M1, q103_0_M1, q103_1_M1, q97_12_M1, by first | assumption | decide | omega⟩
    · replace q5 := q5.resolve_right (fun h => c7 h.1)
      refine g_iload (pc' := 27) 4 dX10_both_25 rfl rfl ?_
      refine g_i2l (pc' := 28) he dX10_both_27 rfl ?_
      refine g_lconst (pc' := 29) (v := 0) dX10_both_28 rfl (by decide) ?_
      refine g_lconst (pc' := 30) (v := 1) dX10_both_29 rfl (by decide) ?_
      refine g_callSip (pc' := 33) (As := [vl e, vl 0, vl 1]) (S := []) dX10_both_30 rfl m_X10_83 w_X10_in (c_X10_in X M1 e ⟨by omega, by omega⟩ 0 (by decide) 1 (by decide)) rfl (by decide) (by decide) rfl (Nat.le_of_ble_eq_true rfl) (fun z9 q8 => ?_)
      refine g_if_eq (pc' := 36) (tgt := 60) ⟨by omega, by omega⟩ dX10_both_33 rfl rfl (fun c10 => ?_) (fun c10 => ?_)
      · replace q8 := q8.resolve_left (fun h => absurd (c10.symm.trans h.1) (by decide))
        refine g_ldc2 (pc' := 63) (v := (-1)) dX10_both_60 rfl k_X10_108 ?_
        refine g_lreturn dX10_both_63 ?_
        exact ⟨iM1, fM1, q99_0_M1, q99_1_M1, q99_2_M1, q99_3_M1, q100_0_M1, q100_1_M1, q100_2_M1, q100_3_M1, q100_49_M1, q100_50_M1, q100_51_M1, q100_52_M1, q103_0_M1, q103_1_M1, q97_12_M1, by first | assumption | decide | omega⟩
      · replace q8 := q8.resolve_right (fun h => c10 h.1)
        refine g_iload_n (pc' := 37) 1 dX10_both_36 rfl rfl ?_
        refine g_iload_n (pc' := 38) 2 dX10_both_37 rfl rfl ?_
        refine g_isub (pc' := 39) dX10_both_38 rfl ?_
        refine g_i2l (pc' := 40) ⟨by omega, by omega⟩ dX10_both_39 rfl ?_
        refine g_iload_n (pc' := 41) 3 dX10_both_40 rfl rfl ?_
        refine g_callSlp (pc' := 44) (As := [vl (a - b), vi c]) (S := []) dX10_both_41 rfl m_X10_337 w_X10_power (c_X10_power X M1 (a - b) ⟨by omega, by omega⟩ c hc (by omega) (by omega)) rfl (by decide) (by decide) rfl (Nat.le_of_ble_eq_true rfl) (fun z12 q11 => ?_)
        have hz12 := powR (a := a - b) (k := (c).toNat) (by omega) (by omega) (by omega)
        rw [← q11] at hz12
        refine g_iload_n (pc' := 45) 1 dX10_both_44 rfl rfl ?_
        refine g_iload_n (pc' := 46) 2 dX10_both_45 rfl rfl ?_
        refine g_iadd (pc' := 47) dX10_both_46 rfl ?_
        refine g_i2l (pc' := 48) ⟨by omega, by omega⟩ dX10_both_47 rfl ?_
        refine g_iload_n (pc' := 49) 3 dX10_both_48 rfl rfl ?_
        refine g_callSlp (pc' := 52) (As := [vl (a + b), vi c]) (S := [vl z12]) dX10_both_49 rfl m_X10_337 w_X10_power (c_X10_power X M1 (a + b) ⟨by omega, by omega⟩ c hc (by omega) (by omega)) rfl (by decide) (by decide) rfl (Nat.le_of_ble_eq_true rfl) (fun z14 q13 => ?_)
        have hz14 := powR (a := a + b) (k := (c).toNat) (by omega) (by omega) (by omega)
        rw [← q13] at hz14
        refine g_iload (pc' := 54) 4 dX10_both_52 rfl rfl ?_
        refine g_callSlp (pc' := 57) (As := [vl z12, vl z14, vi e]) (S := []) dX10_both_54 rfl m_X10_341 w_X10_lowest (c_X10_lowest X M1 z12 ⟨by omega, by omega⟩ z14 ⟨by omega, by omega⟩ e he (by omega) (by omega)) rfl (by decide) (by decide) rfl (Nat.le_of_ble_eq_true rfl) (fun z16 q15 => ?_)
        refine g_goto (tgt := 63) dX10_both_57 rfl ?_
        refine g_lreturn dX10_both_63 ?_
        exact ⟨iM1, fM1, q99_0_M1, q99_1_M1, q99_2_M1, q99_3_M1, q100_0_M1, q100_1_M1, q100_2_M1, q100_3_M1, q100_49_M1, q100_50_M1, q100_51_M1, q100_52_M1, q103_0_M1, q103_1_M1, q97_12_M1, by first | assumption | decide | omega⟩
set_option maxHeartbeats 4000000 in
set_option maxRecDepth 100000 in
theorem c_X10_cask (X : Cx) (M : Mm) (hi : IM M) (a : Int) (ha : inI a) (b : Int) (hb : inI b) (c : Int) (hc : inI c) (e : Int) (he : inI e) : Con X 12 yX10_cask cX10_cask 5 (some .long) [vr X 97, vi a, vi b, vi c, vi e] M (Ql (fun r M1 => IM M1 ∧ Fr (fun c => 97 ≤ c ∧ c ≤ 116) M M1 ∧ M1 99 0 = M 99 0 ∧ M1 99 1 = M 99 1 ∧ M1 99 2 = M 99 2 ∧ M1 99 3 = M 99 3 ∧ M1 100 0 = M 100 0 ∧ M1 100 1 = M 100 1 ∧ M1 100 2 = M 100 2 ∧ M1 100 3 = M 100 3 ∧ M1 100 49 = M 100 49 ∧ M1 100 50 = M 100 50 ∧ M1 100 51 = M 100 51 ∧ M1 100 52 = M 100 52 ∧ M1 103 0 = M 103 0 ∧ M1 103 1 = M 103 1 ∧ M1 97 12 = M 97 12 ∧ (inL r))) := by
  refine Con.ofG rfl (Nat.le_of_ble_eq_true rfl) ?_
  show G X 12 RX10 cX10_cask 5 (some .long) (Ql (fun r M1 => IM M1 ∧ Fr (fun c => 97 ≤ c ∧ c ≤ 116) M M1 ∧ M1 99 0 = M 99 0 ∧ M1 99 1 = M 99 1 ∧ M1 99 2 = M 99 2 ∧ M1 99 3 = M 99 3 ∧ M1 100 0 = M 100 0 ∧ M1 100 1 = M 100 1 ∧ M1 100 2 = M 100 2 ∧ M1 100 3 = M 100 3 ∧ M1 100 49 = M 100 49 ∧ M1 100 50 = M 100 50 ∧ M1 100 51 = M 100 51 ∧ M1 100 52 = M 100 52 ∧ M1 103 0 = M 103 0 ∧ M1 103 1 = M 103 1 ∧ M1 97 12 = M 97 12 ∧ (inL r))) 0 [(0, vr X 97), (1, vi a), (2, vi b), (3, vi c), (4, vi e)] [] M
  have p0 := hi.1.1
  have p1 := hi.1.2.1
  have p2 := hi.1.2.2.1
  have p3 := hi.1.2.2.2.1
  have p12 := hi.2.2.2.1
  refine g_aload_n (pc' := 1) 0 dX10_cask_0 rfl rfl ?_
  refine g_iconst (pc' := 2) dX10_cask_1 rfl ?_
  refine g_putI (pc' := 5) dX10_cask_2 rfl p_X10_77 rfl rfl (by decide) (fun M1 hM1 => ?_)
  have iM1 : IM M1 := IM.wr hi hM1 (by unfold okv; first | decide | omega)
  have fM1 : Fr (fun c => 97 ≤ c ∧ c ≤ 116) M M1 := Fr.wr Fr.rf hM1 (by first | decide | omega | (dsimp only; omega))
  have q99_0_M1 : (M1 99 0 = M 99 0) := (show M1 99 0 = M 99 0 by rw [hM1]; exact mu_ne _ _ (by first | decide | omega))
  have q99_1_M1 : (M1 99 1 = M 99 1) := (show M1 99 1 = M 99 1 by rw [hM1]; exact mu_ne _ _ (by first | decide | omega))
  have q99_2_M1 : (M1 99 2 = M 99 2) := (show M1 99 2 = M 99 2 by rw [hM1]; exact mu_ne _ _ (by first | decide | omega))
  have q99_3_M1 : (M1 99 3 = M 99 3) := (show M1 99 3 = M 99 3 by rw [hM1]; exact mu_ne _ _ (by first | decide | omega))
  have q100_0_M1 : id (M1 100 0 = M 100 0) := (show M1 100 0 = M 100 0 by rw [hM1]; exact mu_ne _ _ (by first | decide | omega))
  have q100_1_M1 : id (M1 100 1 = M 100 1) := (show M1 100 1 = M 100 1 by rw [hM1]; exact mu_ne _ _ (by first | decide | omega))
  have q100_2_M1 : id (M1 100 2 = M 100 2) := (show M1 100 2 = M 100 2 by rw [hM1]; exact mu_ne _ _ (by first | decide | omega))
  have q100_3_M1 : id (M1 100 3 = M 100 3) := (show M1 100 3 = M 100 3 by rw [hM1]; exact mu_ne _ _ (by first | decide | omega))
  have q100_49_M1 : id (M1 100 49 = M 100 49) := (show M1 100 49 = M 100 49 by rw [hM1]; exact mu_ne _ _ (by first | decide | omega))
  have q100_50_M1 : id (M1 100 50 = M 100 50) := (show M1 100 50 = M 100 50 by rw [hM1]; exact mu_ne _ _ (by first | decide | omega))
  have q100_51_M1 : id (M1 100 51 = M 100 51) := (show M1 100 51 = M 100 51 by rw [hM1]; exact mu_ne _ _ (by first | decide | omega))
  have q100_52_M1 : id (M1 100 52 = M 100 52) := (show M1 100 52 = M 100 52 by rw [hM1]; exact mu_ne _ _ (by first | decide | omega))
  have q103_0_M1 : id (M1 103 0 = M 103 0) := (show M1 103 0 = M 103 0 by rw [hM1]; exact mu_ne _ _ (by first | decide | omega))
  have q103_1_M1 : id (M1 103 1 = M 103 1) := (show M1 103 1 = M 103 1 by rw [hM1]; exact mu_ne _ _ (by first | decide | omega))
  have q97_12_M1 : (M1 97 12 = M 97 12) := (show M1 97 12 = M 97 12 by rw [hM1]; exact mu_ne _ _ (by first | decide | omega))
  have xM1_97_0 : M1 97 0 = 0 := by rw [hM1]; exact mu_at _ _ _ _
  refine g_iload_n (pc' := 6) 1 dX10_cask_5 rfl rfl ?_
  refine g_iload_n (pc' := 7) 2 dX10_cask_6 rfl rfl ?_
  refine g_callSip (pc' := 10) (As := [vi a, vi b]) (S := []) dX10_cask_7 rfl m_X10_377 w_X10_isCask (c_X10_isCask X M1 a ha b hb) rfl (by decide) (by decide) rfl (Nat.le_of_ble_eq_true rfl) (fun z3 q2 => ?_)
  refine g_if_eq (pc' := 13) (tgt := 58) ⟨by omega, by omega⟩ dX10_cask_10 rfl rfl (fun c4 => ?_) (fun c4 => ?_)
  · replace q2 := q2.resolve_left (fun h => absurd (c4.symm.trans h.1) (by decide))
    refine g_ldc2 (pc' := 61) (v := (-1)) dX10_cask_58 rfl k_X10_108 ?_
    refine g_lreturn dX10_cask_61 ?_
    exact ⟨iM1, fM1, q99_0_M1, q99_1_M1, q99_2_M1, q99_3_M1, q100_0_M1, q100_1_M1, q100_2_M1, q100_3_M1, q100_49_M1, q100_50_M1, q100_51_M1, q100_52_M1, q103_0_M1, q103_1_M1, q97_12_M1, by first | assumption | decide | omega⟩
  · replace q2 := q2.resolve_right (fun h => c4 h.1)
    refine g_iload_n (pc' := 14) 3 dX10_cask_13 rfl rfl ?_
    refine g_i2l (pc' := 15) hc dX10_cask_14 rfl ?_
    refine g_lconst (pc' := 16) (v := 0) dX10_cask_15 rfl (by decide) ?_
    refine g_ldc2 (pc' := 19) (v := 6) dX10_cask_16 rfl k_X10_335 ?_
    refine g_callSip (pc' := 22) (As := [vl c, vl 0, vl 6]) (S := []) dX10_cask_19 rfl m_X10_83 w_X10_in (c_X10_in X M1 c ⟨by omega, by omega⟩ 0 (by decide) 6 (by decide)) rfl (by decide) (by decide) rfl (Nat.le_of_ble_eq_true rfl) (fun z6 q5 => ?_)
    refine g_if_eq (pc' := 25) (tgt := 58) ⟨by omega, by omega⟩ dX10_cask_22 rfl rfl (fun c7 => ?_) (fun c7 => ?_)
    · replace q5 := q5.resolve_left (fun h => absurd (c7.symm.trans h.1) (by decide))
      refine g_ldc2 (pc' := 61) (v := (-1)) dX10_cask_58 rfl k_X10_108 ?_
      refine g_lreturn dX10_cask_61 ?_
      exact ⟨iM1, fM1, q99_0_M1, q99_1_M1, q99_2_M1, q99_3_M1, q100_0_M1, q100_1_M1, q100_2_M1, q100_3_M1, q100_49_M1, q100_50_M1, q100_51_M1, q100_52_M1, q103_0_M1, q103_1_M1, q97_12_M1, by first | assumption | decide | omega⟩
    · replace q5 := q5.resolve_right (fun h => c7 h.1)
      refine g_iload (pc' := 27) 4 dX10_cask_25 rfl rfl ?_
      refine g_i2l (pc' := 28) he dX10_cask_27 rfl ?_
      refine g_lconst (pc' := 29) (v := 0) dX10_cask_28 rfl (by decide) ?_
      refine g_lconst (pc' := 30) (v := 1) dX10_cask_29 rfl (by decide) ?_
      refine g_callSip (pc' := 33) (As := [vl e, vl 0, vl 1]) (S := []) dX10_cask_30 rfl m_X10_83 w_X10_in (c_X10_in X M1 e ⟨by omega, by omega⟩ 0 (by decide) 1 (by decide)) rfl (by decide) (by decide) rfl (Nat.le_of_ble_eq_true rfl) (fun z9 q8 => ?_)
      refine g_if_eq (pc' := 36) (tgt := 58) ⟨by omega, by omega⟩ dX10_cask_33 rfl rfl (fun c10 => ?_) (fun c10 => ?_)
      · replace q8 := q8.resolve_left (fun h => absurd (c10.symm.trans h.1) (by decide))
        refine g_ldc2 (pc' := 61) (v := (-1)) dX10_cask_58 rfl k_X10_108 ?_
        refine g_lreturn dX10_cask_61 ?_
        exact ⟨iM1, fM1, q99_0_M1, q99_1_M1, q99_2_M1, q99_3_M1, q100_0_M1, q100_1_M1, q100_2_M1, q100_3_M1, q100_49_M1, q100_50_M1, q100_51_M1, q100_52_M1, q103_0_M1, q103_1_M1, q97_12_M1, by first | assumption | decide | omega⟩
      · replace q8 := q8.resolve_right (fun h => c10 h.1)
        refine g_iload_n (pc' := 37) 1 dX10_cask_36 rfl rfl ?_
        refine g_iload_n (pc' := 38) 2 dX10_cask_37 rfl rfl ?_
        refine g_isub (pc' := 39) dX10_cask_38 rfl ?_
        refine g_i2l (pc' := 40) ⟨by omega, by omega⟩ dX10_cask_39 rfl ?_
        refine g_iload_n (pc' := 41) 3 dX10_cask_40 rfl rfl ?_
        refine g_callSlp (pc' := 44) (As := [vl (a - b), vi c]) (S := []) dX10_cask_41 rfl m_X10_337 w_X10_power (c_X10_power X M1 (a - b) ⟨by omega, by omega⟩ c hc (by omega) (by omega)) rfl (by decide) (by decide) rfl (Nat.le_of_ble_eq_true rfl) (fun z12 q11 => ?_)
        have hz12 := powR (a := a - b) (k := (c).toNat) (by omega) (by omega) (by omega)
        rw [← q11] at hz12
        refine g_iload_n (pc' := 45) 1 dX10_cask_44 rfl rfl ?_
        refine g_i2l (pc' := 46) ha dX10_cask_45 rfl ?_
        refine g_iload_n (pc' := 47) 3 dX10_cask_46 rfl rfl ?_
        refine g_callSlp (pc' := 50) (As := [vl a, vi c]) (S := [vl z12]) dX10_cask_47 rfl m_X10_337 w_X10_power (c_X10_power X M1 a ⟨by omega, by omega⟩ c hc (by omega) (by omega)) rfl (by decide) (by decide) rfl (Nat.le_of_ble_eq_true rfl) (fun z14 q13 => ?_)
        have hz14 := powR (a := a) (k := (c).toNat) (by omega) (by omega) (by omega)
        rw [← q13] at hz14
        refine g_iload (pc' := 52) 4 dX10_cask_50 rfl rfl ?_
        refine g_callSlp (pc' := 55) (As := [vl z12, vl z14, vi e]) (S := []) dX10_cask_52 rfl m_X10_341 w_X10_lowest (c_X10_lowest X M1 z12 ⟨by omega, by omega⟩ z14 ⟨by omega, by omega⟩ e he (by omega) (by omega)) rfl (by decide) (by decide) rfl (Nat.le_of_ble_eq_true rfl) (fun z16 q15 => ?_)
        refine g_goto (tgt := 61) dX10_cask_55 rfl ?_
        refine g_lreturn dX10_cask_61 ?_
        exact ⟨iM1, fM1, q99_0_M1, q99_1_M1, q99_2_M1, q99_3_M1, q100_0_M1, q100_1_M1, q100_2_M1, q100_3_M1, q100_49_M1, q100_50_M1, q100_51_M1, q100_52_M1, q103_0_M1, q103_1_M1, q97_12_M1, by first | assumption | decide | omega⟩
set_option maxHeartbeats 4000000 in
set_option maxRecDepth 100000 in
theorem l_X10_rounds_30 (X : Cx) (M : Mm) (hi : IM M) (a : Int) (ha : inI a) (b : Int) (hb : inI b) (c : Int) (hc : inI c) : ∀ (kk : Nat) (i : Int) (M1 : Mm) (ic1 : IM M1) (fr1 : Fr (fun c => 97 ≤ c ∧ c ≤ 116) M M1) (q99_0 : (M1 99 0 = M 99 0)) (q99_1 : (M1 99 1 = M 99 1)) (q99_2 : (M1 99 2 = M 99 2)) (q99_3 : (M1 99 3 = M 99 3)) (q100_0 : id (M1 100 0 = M 100 0)) (q100_1 : id (M1 100 1 = M 100 1)) (q100_2 : id (M1 100 2 = M 100 2)) (q100_3 : id (M1 100 3 = M 100 3)) (q100_49 : id (M1 100 49 = M 100 49)) (q100_50 : id (M1 100 50 = M 100 50)) (q100_51 : id (M1 100 51 = M 100 51)) (q100_52 : id (M1 100 52 = M 100 52)) (q103_0 : id (M1 103 0 = M 103 0)) (q103_1 : id (M1 103 1 = M 103 1)) (q97_12 : (M1 97 12 = M 97 12)) (h0 : 0 ≤ i) (h1 : i ≤ 7) (k1 : 1 ≤ a ∧ a ≤ 60 ∧ 1 ≤ b ∧ b ≤ a - 1), (7 - i).toNat = kk → G X 12 RX10 cX10_rounds 5 (some .int) (Qi (fun r M1 => IM M1 ∧ Fr (fun c => 97 ≤ c ∧ c ≤ 116) M M1 ∧ M1 99 0 = M 99 0 ∧ M1 99 1 = M 99 1 ∧ M1 99 2 = M 99 2 ∧ M1 99 3 = M 99 3 ∧ M1 100 0 = M 100 0 ∧ M1 100 1 = M 100 1 ∧ M1 100 2 = M 100 2 ∧ M1 100 3 = M 100 3 ∧ M1 100 49 = M 100 49 ∧ M1 100 50 = M 100 50 ∧ M1 100 51 = M 100 51 ∧ M1 100 52 = M 100 52 ∧ M1 103 0 = M 103 0 ∧ M1 103 1 = M 103 1 ∧ M1 97 12 = M 97 12 ∧ (inI r))) 30 [(4, vi i), (0, vr X 97), (1, vi a), (2, vi b), (3, vi c)] [] M1 := by
  intro kk
  induction kk using Nat.strongRecOn with
  | ind kk ih =>
    intro i M1 ic1 fr1 q99_0 q99_1 q99_2 q99_3 q100_0 q100_1 q100_2 q100_3 q100_49 q100_50 q100_51 q100_52 q103_0 q103_1 q97_12 h0 h1 k1 hmes
    have p0 := hi.1.1
    have p1 := hi.1.2.1
    have p2 := hi.1.2.2.1
    have p3 := hi.1.2.2.2.1
    have p12 := hi.2.2.2.1
    refine g_iload (pc' := 32) 0 dX10_rounds_30 rfl rfl ?_
    refine g_bipush (pc' := 34) (v := 7) dX10_rounds_32 rfl (by decide) ?_
    refine g_ic_ge (pc' := 37) (tgt := 75) ⟨by omega, by omega⟩ (by decide) dX10_rounds_34 rfl rfl (fun c1 => ?_) (fun c1 => ?_)
    · refine g_iconst (pc' := 76) dX10_rounds_75 rfl ?_
      refine g_ireturn dX10_rounds_76 ?_
      exact ⟨ic1, fr1, q99_0, q99_1, q99_2, q99_3, q100_0, q100_1, q100_2, q100_3, q100_49, q100_50, q100_51, q100_52, q103_0, q103_1, q97_12, by first | assumption | decide | omega⟩
    · refine g_ldc2 (pc' := 40) (v := 100) dX10_rounds_37 rfl k_X10_110 ?_
      refine g_iload_n (pc' := 41) 2 dX10_rounds_40 rfl rfl ?_
      refine g_iload_n (pc' := 42) 3 dX10_rounds_41 rfl rfl ?_
      refine g_isub (pc' := 43) dX10_rounds_42 rfl ?_
      refine g_i2l (pc' := 44) ⟨by omega, by omega⟩ dX10_rounds_43 rfl ?_
      refine g_iload (pc' := 46) 0 dX10_rounds_44 rfl rfl ?_
      refine g_callSlp (pc' := 49) (As := [vl (a - b), vi i]) (S := [vl 100]) dX10_rounds_46 rfl m_X10_337 w_X10_power (c_X10_power X M1 (a - b) ⟨by omega, by omega⟩ i ⟨by omega, by omega⟩ (by omega) (by omega)) rfl (by decide) (by decide) rfl (Nat.le_of_ble_eq_true rfl) (fun z3 q2 => ?_)
      have hz3 := powR (a := a - b) (k := (i).toNat) (by omega) (by omega) (by omega)
      rw [← q2] at hz3
      refine g_lmul (pc' := 50) dX10_rounds_49 rfl ?_
      refine g_nrmL (fun n4 rn4 en4 => ?_)
      refine g_iload_n (pc' := 51) 4 dX10_rounds_50 rfl rfl ?_
      refine g_i2l (pc' := 52) hc dX10_rounds_51 rfl ?_
      refine g_iload_n (pc' := 53) 2 dX10_rounds_52 rfl rfl ?_
      refine g_iload_n (pc' := 54) 3 dX10_rounds_53 rfl rfl ?_
      refine g_iadd (pc' := 55) dX10_rounds_54 rfl ?_
      refine g_i2l (pc' := 56) ⟨by omega, by omega⟩ dX10_rounds_55 rfl ?_
      refine g_iload (pc' := 58) 0 dX10_rounds_56 rfl rfl ?_
      refine g_callSlp (pc' := 61) (As := [vl (a + b), vi i]) (S := [vl c, vl n4]) dX10_rounds_58 rfl m_X10_337 w_X10_power (c_X10_power X M1 (a + b) ⟨by omega, by omega⟩ i ⟨by omega, by omega⟩ (by omega) (by omega)) rfl (by decide) (by decide) rfl (Nat.le_of_ble_eq_true rfl) (fun z6 q5 => ?_)
      have hz6 := powR (a := a + b) (k := (i).toNat) (by omega) (by omega) (by omega)
      rw [← q5] at hz6
      refine g_lmul (pc' := 62) dX10_rounds_61 rfl ?_
      refine g_nrmL (fun n7 rn7 en7 => ?_)
      refine g_lc_gt (pc' := 66) (tgt := 69) rn4 rn7 dX10_rounds_62 dX10_rounds_63 rfl rfl (fun c8 => ?_) (fun c8 => ?_)
      · refine g_iinc (pc' := 72) (L' := [(4, vi (i + 1)), (0, vr X 97), (1, vi a), (2, vi b), (3, vi c)]) 0 dX10_rounds_69 rfl rfl (by decide) rfl ?_
        refine g_goto (tgt := 30) dX10_rounds_72 rfl ?_
        refine g_sub [0, 1, 2, 3, 4] rfl ?_
        exact ih _ (by omega) (i + 1) M1 ic1 fr1 q99_0 q99_1 q99_2 q99_3 q100_0 q100_1 q100_2 q100_3 q100_49 q100_50 q100_51 q100_52 q103_0 q103_1 q97_12 (by omega) (by omega) (by omega) rfl
      · refine g_iload (pc' := 68) 0 dX10_rounds_66 rfl rfl ?_
        refine g_ireturn dX10_rounds_68 ?_
        exact ⟨ic1, fr1, q99_0, q99_1, q99_2, q99_3, q100_0, q100_1, q100_2, q100_3, q100_49, q100_50, q100_51, q100_52, q103_0, q103_1, q97_12, by first | assumption | decide | omega⟩
set_option maxHeartbeats 4000000 in
set_option maxRecDepth 100000 in
theorem c_X10_rounds (X : Cx) (M : Mm) (hi : IM M) (a : Int) (ha : inI a) (b : Int) (hb : inI b) (c : Int) (hc : inI c) : Con X 12 yX10_rounds cX10_rounds 5 (some .int) [vr X 97, vi a, vi b, vi c] M (Qi (fun r M1 => IM M1 ∧ Fr (fun c => 97 ≤ c ∧ c ≤ 116) M M1 ∧ M1 99 0 = M 99 0 ∧ M1 99 1 = M 99 1 ∧ M1 99 2 = M 99 2 ∧ M1 99 3 = M 99 3 ∧ M1 100 0 = M 100 0 ∧ M1 100 1 = M 100 1 ∧ M1 100 2 = M 100 2 ∧ M1 100 3 = M 100 3 ∧ M1 100 49 = M 100 49 ∧ M1 100 50 = M 100 50 ∧ M1 100 51 = M 100 51 ∧ M1 100 52 = M 100 52 ∧ M1 103 0 = M 103 0 ∧ M1 103 1 = M 103 1 ∧ M1 97 12 = M 97 12 ∧ (inI r))) := by
  refine Con.ofG rfl (Nat.le_of_ble_eq_true rfl) ?_
  show G X 12 RX10 cX10_rounds 5 (some .int) (Qi (fun r M1 => IM M1 ∧ Fr (fun c => 97 ≤ c ∧ c ≤ 116) M M1 ∧ M1 99 0 = M 99 0 ∧ M1 99 1 = M 99 1 ∧ M1 99 2 = M 99 2 ∧ M1 99 3 = M 99 3 ∧ M1 100 0 = M 100 0 ∧ M1 100 1 = M 100 1 ∧ M1 100 2 = M 100 2 ∧ M1 100 3 = M 100 3 ∧ M1 100 49 = M 100 49 ∧ M1 100 50 = M 100 50 ∧ M1 100 51 = M 100 51 ∧ M1 100 52 = M 100 52 ∧ M1 103 0 = M 103 0 ∧ M1 103 1 = M 103 1 ∧ M1 97 12 = M 97 12 ∧ (inI r))) 0 [(0, vr X 97), (1, vi a), (2, vi b), (3, vi c)] [] M
  have p0 := hi.1.1
  have p1 := hi.1.2.1
  have p2 := hi.1.2.2.1
  have p3 := hi.1.2.2.2.1
  have p12 := hi.2.2.2.1
  refine g_aload_n (pc' := 1) 0 dX10_rounds_0 rfl rfl ?_
  refine g_iconst (pc' := 2) dX10_rounds_1 rfl ?_
  refine g_putI (pc' := 5) dX10_rounds_2 rfl p_X10_77 rfl rfl (by decide) (fun M1 hM1 => ?_)
  have iM1 : IM M1 := IM.wr hi hM1 (by unfold okv; first | decide | omega)
  have fM1 : Fr (fun c => 97 ≤ c ∧ c ≤ 116) M M1 := Fr.wr Fr.rf hM1 (by first | decide | omega | (dsimp only; omega))
  have q99_0_M1 : (M1 99 0 = M 99 0) := (show M1 99 0 = M 99 0 by rw [hM1]; exact mu_ne _ _ (by first | decide | omega))
  have q99_1_M1 : (M1 99 1 = M 99 1) := (show M1 99 1 = M 99 1 by rw [hM1]; exact mu_ne _ _ (by first | decide | omega))
  have q99_2_M1 : (M1 99 2 = M 99 2) := (show M1 99 2 = M 99 2 by rw [hM1]; exact mu_ne _ _ (by first | decide | omega))
  have q99_3_M1 : (M1 99 3 = M 99 3) := (show M1 99 3 = M 99 3 by rw [hM1]; exact mu_ne _ _ (by first | decide | omega))
  have q100_0_M1 : id (M1 100 0 = M 100 0) := (show M1 100 0 = M 100 0 by rw [hM1]; exact mu_ne _ _ (by first | decide | omega))
  have q100_1_M1 : id (M1 100 1 = M 100 1) := (show M1 100 1 = M 100 1 by rw [hM1]; exact mu_ne _ _ (by first | decide | omega))
  have q100_2_M1 : id (M1 100 2 = M 100 2) := (show M1 100 2 = M 100 2 by rw [hM1]; exact mu_ne _ _ (by first | decide | omega))
  have q100_3_M1 : id (M1 100 3 = M 100 3) := (show M1 100 3 = M 100 3 by rw [hM1]; exact mu_ne _ _ (by first | decide | omega))
  have q100_49_M1 : id (M1 100 49 = M 100 49) := (show M1 100 49 = M 100 49 by rw [hM1]; exact mu_ne _ _ (by first | decide | omega))
  have q100_50_M1 : id (M1 100 50 = M 100 50) := (show M1 100 50 = M 100 50 by rw [hM1]; exact mu_ne _ _ (by first | decide | omega))
  have q100_51_M1 : id (M1 100 51 = M 100 51) := (show M1 100 51 = M 100 51 by rw [hM1]; exact mu_ne _ _ (by first | decide | omega))
  have q100_52_M1 : id (M1 100 52 = M 100 52) := (show M1 100 52 = M 100 52 by rw [hM1]; exact mu_ne _ _ (by first | decide | omega))
  have q103_0_M1 : id (M1 103 0 = M 103 0) := (show M1 103 0 = M 103 0 by rw [hM1]; exact mu_ne _ _ (by first | decide | omega))
  have q103_1_M1 : id (M1 103 1 = M 103 1) := (show M1 103 1 = M 103 1 by rw [hM1]; exact mu_ne _ _ (by first | decide | omega))
  have q97_12_M1 : (M1 97 12 = M 97 12) := (show M1 97 12 = M 97 12 by rw [hM1]; exact mu_ne _ _ (by first | decide | omega))
  have xM1_97_0 : M1 97 0 = 0 := by rw [hM1]; exact mu_at _ _ _ _
  refine g_iload_n (pc' := 6) 1 dX10_rounds_5 rfl rfl ?_
  refine g_iload_n (pc' := 7) 2 dX10_rounds_6 rfl rfl ?_
  refine g_callSip (pc' := 10) (As := [vi a, vi b]) (S := []) dX10_rounds_7 rfl m_X10_331 w_X10_areBoth (c_X10_areBoth X M1 a ha b hb) rfl (by decide) (by decide) rfl (Nat.le_of_ble_eq_true rfl) (fun z3 q2 => ?_)
  refine g_if_eq (pc' := 13) (tgt := 25) ⟨by omega, by omega⟩ dX10_rounds_10 rfl rfl (fun c4 => ?_) (fun c4 => ?_)
  · replace q2 := q2.resolve_left (fun h => absurd (c4.symm.trans h.1) (by decide))
    refine g_iconst (pc' := 26) dX10_rounds_25 rfl ?_
    refine g_ireturn dX10_rounds_26 ?_
    exact ⟨iM1, fM1, q99_0_M1, q99_1_M1, q99_2_M1, q99_3_M1, q100_0_M1, q100_1_M1, q100_2_M1, q100_3_M1, q100_49_M1, q100_50_M1, q100_51_M1, q100_52_M1, q103_0_M1, q103_1_M1, q97_12_M1, by first | assumption | decide | omega⟩
  · replace q2 := q2.resolve_right (fun h => c4 h.1)
    refine g_iload_n (pc' := 14) 3 dX10_rounds_13 rfl rfl ?_
    refine g_i2l (pc' := 15) hc dX10_rounds_14 rfl ?_
    refine g_lconst (pc' := 16) (v := 0) dX10_rounds_15 rfl (by decide) ?_
    refine g_ldc2 (pc' := 19) (v := 100) dX10_rounds_16 rfl k_X10_110 ?_
    refine g_callSip (pc' := 22) (As := [vl c, vl 0, vl 100]) (S := []) dX10_rounds_19 rfl m_X10_83 w_X10_in (c_X10_in X M1 c ⟨by omega, by omega⟩ 0 (by decide) 100 (by decide)) rfl (by decide) (by decide) rfl (Nat.le_of_ble_eq_true rfl) (fun z6 q5 => ?_)
    refine g_if_ne (pc' := 25) (tgt := 27) ⟨by omega, by omega⟩ dX10_rounds_22 rfl rfl (fun c7 => ?_) (fun c7 => ?_)
    · replace q5 := q5.resolve_right (fun h => c7 h.1)
      refine g_iconst (pc' := 28) dX10_rounds_27 rfl ?_
      refine g_istore (pc' := 30) (L' := [(4, vi 0), (0, vr X 97), (1, vi a), (2, vi b), (3, vi c)]) dX10_rounds_28 rfl (by decide) rfl ?_
      refine g_sub [0, 1, 2, 3, 4] rfl ?_
      exact l_X10_rounds_30 X M hi a ha b hb c hc _ 0 M1 iM1 fM1 q99_0_M1 q99_1_M1 q99_2_M1 q99_3_M1 q100_0_M1 q100_1_M1 q100_2_M1 q100_3_M1 q100_49_M1 q100_50_M1 q100_51_M1 q100_52_M1 q103_0_M1 q103_1_M1 q97_12_M1 (by omega) (by omega) (by omega) rfl
    · replace q5 := q5.resolve_left (fun h => absurd (c7.symm.trans h.1) (by decide))
      refine g_iconst (pc' := 26) dX10_rounds_25 rfl ?_
      refine g_ireturn dX10_rounds_26 ?_
      exact ⟨iM1, fM1, q99_0_M1, q99_1_M1, q99_2_M1, q99_3_M1, q100_0_M1, q100_1_M1, q100_2_M1, q100_3_M1, q100_49_M1, q100_50_M1, q100_51_M1, q100_52_M1, q103_0_M1, q103_1_M1, q97_12_M1, by first | assumption | decide | omega⟩
set_option maxHeartbeats 4000000 in
set_option maxRecDepth 100000 in
theorem l_X10_guests_30 (X : Cx) (M : Mm) (hi : IM M) (a : Int) (ha : inI a) (b : Int) (hb : inI b) (c : Int) (hc : inI c) : ∀ (kk : Nat) (i : Int) (M1 : Mm) (ic1 : IM M1) (fr1 : Fr (fun c => 97 ≤ c ∧ c ≤ 116) M M1) (q99_0 : (M1 99 0 = M 99 0)) (q99_1 : (M1 99 1 = M 99 1)) (q99_2 : (M1 99 2 = M 99 2)) (q99_3 : (M1 99 3 = M 99 3)) (q100_0 : id (M1 100 0 = M 100 0)) (q100_1 : id (M1 100 1 = M 100 1)) (q100_2 : id (M1 100 2 = M 100 2)) (q100_3 : id (M1 100 3 = M 100 3)) (q100_49 : id (M1 100 49 = M 100 49)) (q100_50 : id (M1 100 50 = M 100 50)) (q100_51 : id (M1 100 51 = M 100 51)) (q100_52 : id (M1 100 52 = M 100 52)) (q103_0 : id (M1 103 0 = M 103 0)) (q103_1 : id (M1 103 1 = M 103 1)) (q97_12 : (M1 97 12 = M 97 12)) (h0 : 0 ≤ i) (h1 : i ≤ 7) (k1 : 1 ≤ a ∧ a ≤ 60 ∧ 0 ≤ b ∧ b ≤ a), (7 - i).toNat = kk → G X 12 RX10 cX10_guests 5 (some .int) (Qi (fun r M1 => IM M1 ∧ Fr (fun c => 97 ≤ c ∧ c ≤ 116) M M1 ∧ M1 99 0 = M 99 0 ∧ M1 99 1 = M 99 1 ∧ M1 99 2 = M 99 2 ∧ M1 99 3 = M 99 3 ∧ M1 100 0 = M 100 0 ∧ M1 100 1 = M 100 1 ∧ M1 100 2 = M 100 2 ∧ M1 100 3 = M 100 3 ∧ M1 100 49 = M 100 49 ∧ M1 100 50 = M 100 50 ∧ M1 100 51 = M 100 51 ∧ M1 100 52 = M 100 52 ∧ M1 103 0 = M 103 0 ∧ M1 103 1 = M 103 1 ∧ M1 97 12 = M 97 12 ∧ (inI r))) 30 [(4, vi i), (0, vr X 97), (1, vi a), (2, vi b), (3, vi c)] [] M1 := by
  intro kk
  induction kk using Nat.strongRecOn with
  | ind kk ih =>
    intro i M1 ic1 fr1 q99_0 q99_1 q99_2 q99_3 q100_0 q100_1 q100_2 q100_3 q100_49 q100_50 q100_51 q100_52 q103_0 q103_1 q97_12 h0 h1 k1 hmes
    have p0 := hi.1.1
    have p1 := hi.1.2.1
    have p2 := hi.1.2.2.1
    have p3 := hi.1.2.2.2.1
    have p12 := hi.2.2.2.1
    refine g_iload (pc' := 32) 0 dX10_guests_30 rfl rfl ?_
    refine g_bipush (pc' := 34) (v := 7) dX10_guests_32 rfl (by decide) ?_
    refine g_ic_ge (pc' := 37) (tgt := 73) ⟨by omega, by omega⟩ (by decide) dX10_guests_34 rfl rfl (fun c1 => ?_) (fun c1 => ?_)
    · refine g_iconst (pc' := 74) dX10_guests_73 rfl ?_
      refine g_ireturn dX10_guests_74 ?_
      exact ⟨ic1, fr1, q99_0, q99_1, q99_2, q99_3, q100_0, q100_1, q100_2, q100_3, q100_49, q100_50, q100_51, q100_52, q103_0, q103_1, q97_12, by first | assumption | decide | omega⟩
    · refine g_ldc2 (pc' := 40) (v := 100) dX10_guests_37 rfl k_X10_110 ?_
      refine g_iload_n (pc' := 41) 2 dX10_guests_40 rfl rfl ?_
      refine g_iload_n (pc' := 42) 3 dX10_guests_41 rfl rfl ?_
      refine g_isub (pc' := 43) dX10_guests_42 rfl ?_
      refine g_i2l (pc' := 44) ⟨by omega, by omega⟩ dX10_guests_43 rfl ?_
      refine g_iload (pc' := 46) 0 dX10_guests_44 rfl rfl ?_
      refine g_callSlp (pc' := 49) (As := [vl (a - b), vi i]) (S := [vl 100]) dX10_guests_46 rfl m_X10_337 w_X10_power (c_X10_power X M1 (a - b) ⟨by omega, by omega⟩ i ⟨by omega, by omega⟩ (by omega) (by omega)) rfl (by decide) (by decide) rfl (Nat.le_of_ble_eq_true rfl) (fun z3 q2 => ?_)
      have hz3 := powR (a := a - b) (k := (i).toNat) (by omega) (by omega) (by omega)
      rw [← q2] at hz3
      refine g_lmul (pc' := 50) dX10_guests_49 rfl ?_
      refine g_nrmL (fun n4 rn4 en4 => ?_)
      refine g_iload_n (pc' := 51) 4 dX10_guests_50 rfl rfl ?_
      refine g_i2l (pc' := 52) hc dX10_guests_51 rfl ?_
      refine g_iload_n (pc' := 53) 2 dX10_guests_52 rfl rfl ?_
      refine g_i2l (pc' := 54) ha dX10_guests_53 rfl ?_
      refine g_iload (pc' := 56) 0 dX10_guests_54 rfl rfl ?_
      refine g_callSlp (pc' := 59) (As := [vl a, vi i]) (S := [vl c, vl n4]) dX10_guests_56 rfl m_X10_337 w_X10_power (c_X10_power X M1 a ⟨by omega, by omega⟩ i ⟨by omega, by omega⟩ (by omega) (by omega)) rfl (by decide) (by decide) rfl (Nat.le_of_ble_eq_true rfl) (fun z6 q5 => ?_)
      have hz6 := powR (a := a) (k := (i).toNat) (by omega) (by omega) (by omega)
      rw [← q5] at hz6
      refine g_lmul (pc' := 60) dX10_guests_59 rfl ?_
      refine g_nrmL (fun n7 rn7 en7 => ?_)
      refine g_lc_ge (pc' := 64) (tgt := 67) rn4 rn7 dX10_guests_60 dX10_guests_61 rfl rfl (fun c8 => ?_) (fun c8 => ?_)
      · refine g_iinc (pc' := 70) (L' := [(4, vi (i + 1)), (0, vr X 97), (1, vi a), (2, vi b), (3, vi c)]) 0 dX10_guests_67 rfl rfl (by decide) rfl ?_
        refine g_goto (tgt := 30) dX10_guests_70 rfl ?_
        refine g_sub [0, 1, 2, 3, 4] rfl ?_
        exact ih _ (by omega) (i + 1) M1 ic1 fr1 q99_0 q99_1 q99_2 q99_3 q100_0 q100_1 q100_2 q100_3 q100_49 q100_50 q100_51 q100_52 q103_0 q103_1 q97_12 (by omega) (by omega) (by omega) rfl
      · refine g_iload (pc' := 66) 0 dX10_guests_64 rfl rfl ?_
        refine g_ireturn dX10_guests_66 ?_
        exact ⟨ic1, fr1, q99_0, q99_1, q99_2, q99_3, q100_0, q100_1, q100_2, q100_3, q100_49, q100_50, q100_51, q100_52, q103_0, q103_1, q97_12, by first | assumption | decide | omega⟩
set_option maxHeartbeats 4000000 in
set_option maxRecDepth 100000 in
theorem c_X10_guests (X : Cx) (M : Mm) (hi : IM M) (a : Int) (ha : inI a) (b : Int) (hb : inI b) (c : Int) (hc : inI c) : Con X 12 yX10_guests cX10_guests 5 (some .int) [vr X 97, vi a, vi b, vi c] M (Qi (fun r M1 => IM M1 ∧ Fr (fun c => 97 ≤ c ∧ c ≤ 116) M M1 ∧ M1 99 0 = M 99 0 ∧ M1 99 1 = M 99 1 ∧ M1 99 2 = M 99 2 ∧ M1 99 3 = M 99 3 ∧ M1 100 0 = M 100 0 ∧ M1 100 1 = M 100 1 ∧ M1 100 2 = M 100 2 ∧ M1 100 3 = M 100 3 ∧ M1 100 49 = M 100 49 ∧ M1 100 50 = M 100 50 ∧ M1 100 51 = M 100 51 ∧ M1 100 52 = M 100 52 ∧ M1 103 0 = M 103 0 ∧ M1 103 1 = M 103 1 ∧ M1 97 12 = M 97 12 ∧ (inI r))) := by
  refine Con.ofG rfl (Nat.le_of_ble_eq_true rfl) ?_
  show G X 12 RX10 cX10_guests 5 (some .int) (Qi (fun r M1 => IM M1 ∧ Fr (fun c => 97 ≤ c ∧ c ≤ 116) M M1 ∧ M1 99 0 = M 99 0 ∧ M1 99 1 = M 99 1 ∧ M1 99 2 = M 99 2 ∧ M1 99 3 = M 99 3 ∧ M1 100 0 = M 100 0 ∧ M1 100 1 = M 100 1 ∧ M1 100 2 = M 100 2 ∧ M1 100 3 = M 100 3 ∧ M1 100 49 = M 100 49 ∧ M1 100 50 = M 100 50 ∧ M1 100 51 = M 100 51 ∧ M1 100 52 = M 100 52 ∧ M1 103 0 = M 103 0 ∧ M1 103 1 = M 103 1 ∧ M1 97 12 = M 97 12 ∧ (inI r))) 0 [(0, vr X 97), (1, vi a), (2, vi b), (3, vi c)] [] M
  have p0 := hi.1.1
  have p1 := hi.1.2.1
  have p2 := hi.1.2.2.1
  have p3 := hi.1.2.2.2.1
  have p12 := hi.2.2.2.1
  refine g_aload_n (pc' := 1) 0 dX10_guests_0 rfl rfl ?_
  refine g_iconst (pc' := 2) dX10_guests_1 rfl ?_
  refine g_putI (pc' := 5) dX10_guests_2 rfl p_X10_77 rfl rfl (by decide) (fun M1 hM1 => ?_)
  have iM1 : IM M1 := IM.wr hi hM1 (by unfold okv; first | decide | omega)
  have fM1 : Fr (fun c => 97 ≤ c ∧ c ≤ 116) M M1 := Fr.wr Fr.rf hM1 (by first | decide | omega | (dsimp only; omega))
  have q99_0_M1 : (M1 99 0 = M 99 0) := (show M1 99 0 = M 99 0 by rw [hM1]; exact mu_ne _ _ (by first | decide | omega))
  have q99_1_M1 : (M1 99 1 = M 99 1) := (show M1 99 1 = M 99 1 by rw [hM1]; exact mu_ne _ _ (by first | decide | omega))
  have q99_2_M1 : (M1 99 2 = M 99 2) := (show M1 99 2 = M 99 2 by rw [hM1]; exact mu_ne _ _ (by first | decide | omega))
  have q99_3_M1 : (M1 99 3 = M 99 3) := (show M1 99 3 = M 99 3 by rw [hM1]; exact mu_ne _ _ (by first | decide | omega))
  have q100_0_M1 : id (M1 100 0 = M 100 0) := (show M1 100 0 = M 100 0 by rw [hM1]; exact mu_ne _ _ (by first | decide | omega))
  have q100_1_M1 : id (M1 100 1 = M 100 1) := (show M1 100 1 = M 100 1 by rw [hM1]; exact mu_ne _ _ (by first | decide | omega))
  have q100_2_M1 : id (M1 100 2 = M 100 2) := (show M1 100 2 = M 100 2 by rw [hM1]; exact mu_ne _ _ (by first | decide | omega))
  have q100_3_M1 : id (M1 100 3 = M 100 3) := (show M1 100 3 = M 100 3 by rw [hM1]; exact mu_ne _ _ (by first | decide | omega))
  have q100_49_M1 : id (M1 100 49 = M 100 49) := (show M1 100 49 = M 100 49 by rw [hM1]; exact mu_ne _ _ (by first | decide | omega))
  have q100_50_M1 : id (M1 100 50 = M 100 50) := (show M1 100 50 = M 100 50 by rw [hM1]; exact mu_ne _ _ (by first | decide | omega))
  have q100_51_M1 : id (M1 100 51 = M 100 51) := (show M1 100 51 = M 100 51 by rw [hM1]; exact mu_ne _ _ (by first | decide | omega))
  have q100_52_M1 : id (M1 100 52 = M 100 52) := (show M1 100 52 = M 100 52 by rw [hM1]; exact mu_ne _ _ (by first | decide | omega))
  have q103_0_M1 : id (M1 103 0 = M 103 0) := (show M1 103 0 = M 103 0 by rw [hM1]; exact mu_ne _ _ (by first | decide | omega))
  have q103_1_M1 : id (M1 103 1 = M 103 1) := (show M1 103 1 = M 103 1 by rw [hM1]; exact mu_ne _ _ (by first | decide | omega))
  have q97_12_M1 : (M1 97 12 = M 97 12) := (show M1 97 12 = M 97 12 by rw [hM1]; exact mu_ne _ _ (by first | decide | omega))
  have xM1_97_0 : M1 97 0 = 0 := by rw [hM1]; exact mu_at _ _ _ _
  refine g_iload_n (pc' := 6) 1 dX10_guests_5 rfl rfl ?_
  refine g_iload_n (pc' := 7) 2 dX10_guests_6 rfl rfl ?_
  refine g_callSip (pc' := 10) (As := [vi a, vi b]) (S := []) dX10_guests_7 rfl m_X10_377 w_X10_isCask (c_X10_isCask X M1 a ha b hb) rfl (by decide) (by decide) rfl (Nat.le_of_ble_eq_true rfl) (fun z3 q2 => ?_)
  refine g_if_eq (pc' := 13) (tgt := 25) ⟨by omega, by omega⟩ dX10_guests_10 rfl rfl (fun c4 => ?_) (fun c4 => ?_)
  · replace q2 := q2.resolve_left (fun h => absurd (c4.symm.trans h.1) (by decide))
    refine g_iconst (pc' := 26) dX10_guests_25 rfl ?_
    refine g_ireturn dX10_guests_26 ?_
    exact ⟨iM1, fM1, q99_0_M1, q99_1_M1, q99_2_M1, q99_3_M1, q100_0_M1, q100_1_M1, q100_2_M1, q100_3_M1, q100_49_M1, q100_50_M1, q100_51_M1, q100_52_M1, q103_0_M1, q103_1_M1, q97_12_M1, by first | assumption | decide | omega⟩
  · replace q2 := q2.resolve_right (fun h => c4 h.1)
    refine g_iload_n (pc' := 14) 3 dX10_guests_13 rfl rfl ?_
    refine g_i2l (pc' := 15) hc dX10_guests_14 rfl ?_
    refine g_lconst (pc' := 16) (v := 0) dX10_guests_15 rfl (by decide) ?_
    refine g_ldc2 (pc' := 19) (v := 100) dX10_guests_16 rfl k_X10_110 ?_
    refine g_callSip (pc' := 22) (As := [vl c, vl 0, vl 100]) (S := []) dX10_guests_19 rfl m_X10_83 w_X10_in (c_X10_in X M1 c ⟨by omega, by omega⟩ 0 (by decide) 100 (by decide)) rfl (by decide) (by decide) rfl (Nat.le_of_ble_eq_true rfl) (fun z6 q5 => ?_)
    refine g_if_ne (pc' := 25) (tgt := 27) ⟨by omega, by omega⟩ dX10_guests_22 rfl rfl (fun c7 => ?_) (fun c7 => ?_)
    · replace q5 := q5.resolve_right (fun h => c7 h.1)
      refine g_iconst (pc' := 28) dX10_guests_27 rfl ?_
      refine g_istore (pc' := 30) (L' := [(4, vi 0), (0, vr X 97), (1, vi a), (2, vi b), (3, vi c)]) dX10_guests_28 rfl (by decide) rfl ?_
      refine g_sub [0, 1, 2, 3, 4] rfl ?_
      exact l_X10_guests_30 X M hi a ha b hb c hc _ 0 M1 iM1 fM1 q99_0_M1 q99_1_M1 q99_2_M1 q99_3_M1 q100_0_M1 q100_1_M1 q100_2_M1 q100_3_M1 q100_49_M1 q100_50_M1 q100_51_M1 q100_52_M1 q103_0_M1 q103_1_M1 q97_12_M1 (by omega) (by omega) (by omega) rfl
    · replace q5 := q5.resolve_left (fun h => absurd (c7.symm.trans h.1) (by decide))
      refine g_iconst (pc' := 26) dX10_guests_25 rfl ?_
      refine g_ireturn dX10_guests_26 ?_
      exact ⟨iM1, fM1, q99_0_M1, q99_1_M1, q99_2_M1, q99_3_M1, q100_0_M1, q100_1_M1, q100_2_M1, q100_3_M1, q100_49_M1, q100_50_M1, q100_51_M1, q100_52_M1, q103_0_M1, q103_1_M1, q97_12_M1, by first | assumption | decide | omega⟩
set_option maxHeartbeats 4000000 in
set_option maxRecDepth 100000 in
theorem c_X10_cards (X : Cx) (M : Mm) (hi : IM M) (a : Int) (ha : inI a) (b : Int) (hb : inI b) (c : Int) (hc : inI c) (j : Int) (hj : inI j) (e : Int) (he : inI e) : Con X 12 yX10_cards cX10_cards 6 (some .long) [vr X 97, vi a, vi b, vi c, vi j, vi e] M (Ql (fun r M1 => IM M1 ∧ Fr (fun c => 97 ≤ c ∧ c ≤ 116) M M1 ∧ M1 99 0 = M 99 0 ∧ M1 99 1 = M 99 1 ∧ M1 99 2 = M 99 2 ∧ M1 99 3 = M 99 3 ∧ M1 100 0 = M 100 0 ∧ M1 100 1 = M 100 1 ∧ M1 100 2 = M 100 2 ∧ M1 100 3 = M 100 3 ∧ M1 100 49 = M 100 49 ∧ M1 100 50 = M 100 50 ∧ M1 100 51 = M 100 51 ∧ M1 100 52 = M 100 52 ∧ M1 103 0 = M 103 0 ∧ M1 103 1 = M 103 1 ∧ M1 97 12 = M 97 12 ∧ (inL r))) := by
  refine Con.ofG rfl (Nat.le_of_ble_eq_true rfl) ?_
  show G X 12 RX10 cX10_cards 6 (some .long) (Ql (fun r M1 => IM M1 ∧ Fr (fun c => 97 ≤ c ∧ c ≤ 116) M M1 ∧ M1 99 0 = M 99 0 ∧ M1 99 1 = M 99 1 ∧ M1 99 2 = M 99 2 ∧ M1 99 3 = M 99 3 ∧ M1 100 0 = M 100 0 ∧ M1 100 1 = M 100 1 ∧ M1 100 2 = M 100 2 ∧ M1 100 3 = M 100 3 ∧ M1 100 49 = M 100 49 ∧ M1 100 50 = M 100 50 ∧ M1 100 51 = M 100 51 ∧ M1 100 52 = M 100 52 ∧ M1 103 0 = M 103 0 ∧ M1 103 1 = M 103 1 ∧ M1 97 12 = M 97 12 ∧ (inL r))) 0 [(0, vr X 97), (1, vi a), (2, vi b), (3, vi c), (4, vi j), (5, vi e)] [] M
  have p0 := hi.1.1
  have p1 := hi.1.2.1
  have p2 := hi.1.2.2.1
  have p3 := hi.1.2.2.2.1
  have p12 := hi.2.2.2.1
  refine g_aload_n (pc' := 1) 0 dX10_cards_0 rfl rfl ?_
  refine g_iconst (pc' := 2) dX10_cards_1 rfl ?_
  refine g_putI (pc' := 5) dX10_cards_2 rfl p_X10_77 rfl rfl (by decide) (fun M1 hM1 => ?_)
  have iM1 : IM M1 := IM.wr hi hM1 (by unfold okv; first | decide | omega)
  have fM1 : Fr (fun c => 97 ≤ c ∧ c ≤ 116) M M1 := Fr.wr Fr.rf hM1 (by first | decide | omega | (dsimp only; omega))
  have q99_0_M1 : (M1 99 0 = M 99 0) := (show M1 99 0 = M 99 0 by rw [hM1]; exact mu_ne _ _ (by first | decide | omega))
  have q99_1_M1 : (M1 99 1 = M 99 1) := (show M1 99 1 = M 99 1 by rw [hM1]; exact mu_ne _ _ (by first | decide | omega))
  have q99_2_M1 : (M1 99 2 = M 99 2) := (show M1 99 2 = M 99 2 by rw [hM1]; exact mu_ne _ _ (by first | decide | omega))
  have q99_3_M1 : (M1 99 3 = M 99 3) := (show M1 99 3 = M 99 3 by rw [hM1]; exact mu_ne _ _ (by first | decide | omega))
  have q100_0_M1 : id (M1 100 0 = M 100 0) := (show M1 100 0 = M 100 0 by rw [hM1]; exact mu_ne _ _ (by first | decide | omega))
  have q100_1_M1 : id (M1 100 1 = M 100 1) := (show M1 100 1 = M 100 1 by rw [hM1]; exact mu_ne _ _ (by first | decide | omega))
  have q100_2_M1 : id (M1 100 2 = M 100 2) := (show M1 100 2 = M 100 2 by rw [hM1]; exact mu_ne _ _ (by first | decide | omega))
  have q100_3_M1 : id (M1 100 3 = M 100 3) := (show M1 100 3 = M 100 3 by rw [hM1]; exact mu_ne _ _ (by first | decide | omega))
  have q100_49_M1 : id (M1 100 49 = M 100 49) := (show M1 100 49 = M 100 49 by rw [hM1]; exact mu_ne _ _ (by first | decide | omega))
  have q100_50_M1 : id (M1 100 50 = M 100 50) := (show M1 100 50 = M 100 50 by rw [hM1]; exact mu_ne _ _ (by first | decide | omega))
  have q100_51_M1 : id (M1 100 51 = M 100 51) := (show M1 100 51 = M 100 51 by rw [hM1]; exact mu_ne _ _ (by first | decide | omega))
  have q100_52_M1 : id (M1 100 52 = M 100 52) := (show M1 100 52 = M 100 52 by rw [hM1]; exact mu_ne _ _ (by first | decide | omega))
  have q103_0_M1 : id (M1 103 0 = M 103 0) := (show M1 103 0 = M 103 0 by rw [hM1]; exact mu_ne _ _ (by first | decide | omega))
  have q103_1_M1 : id (M1 103 1 = M 103 1) := (show M1 103 1 = M 103 1 by rw [hM1]; exact mu_ne _ _ (by first | decide | omega))
  have q97_12_M1 : (M1 97 12 = M 97 12) := (show M1 97 12 = M 97 12 by rw [hM1]; exact mu_ne _ _ (by first | decide | omega))
  have xM1_97_0 : M1 97 0 = 0 := by rw [hM1]; exact mu_at _ _ _ _
  refine g_iload_n (pc' := 6) 1 dX10_cards_5 rfl rfl ?_
  refine g_i2l (pc' := 7) ha dX10_cards_6 rfl ?_
  refine g_lconst (pc' := 8) (v := 0) dX10_cards_7 rfl (by decide) ?_
  refine g_ldc2 (pc' := 11) (v := 20) dX10_cards_8 rfl k_X10_204 ?_
  refine g_callSip (pc' := 14) (As := [vl a, vl 0, vl 20]) (S := []) dX10_cards_11 rfl m_X10_83 w_X10_in (c_X10_in X M1 a ⟨by omega, by omega⟩ 0 (by decide) 20 (by decide)) rfl (by decide) (by decide) rfl (Nat.le_of_ble_eq_true rfl) (fun z3 q2 => ?_)
  refine g_if_eq (pc' := 17) (tgt := 63) ⟨by omega, by omega⟩ dX10_cards_14 rfl rfl (fun c4 => ?_) (fun c4 => ?_)
  · replace q2 := q2.resolve_left (fun h => absurd (c4.symm.trans h.1) (by decide))
    refine g_ldc2 (pc' := 66) (v := (-1)) dX10_cards_63 rfl k_X10_108 ?_
    refine g_lreturn dX10_cards_66 ?_
    exact ⟨iM1, fM1, q99_0_M1, q99_1_M1, q99_2_M1, q99_3_M1, q100_0_M1, q100_1_M1, q100_2_M1, q100_3_M1, q100_49_M1, q100_50_M1, q100_51_M1, q100_52_M1, q103_0_M1, q103_1_M1, q97_12_M1, by first | assumption | decide | omega⟩
  · replace q2 := q2.resolve_right (fun h => c4 h.1)
    refine g_iload_n (pc' := 18) 2 dX10_cards_17 rfl rfl ?_
    refine g_i2l (pc' := 19) hb dX10_cards_18 rfl ?_
    refine g_lconst (pc' := 20) (v := 0) dX10_cards_19 rfl (by decide) ?_
    refine g_ldc2 (pc' := 23) (v := 20) dX10_cards_20 rfl k_X10_204 ?_
    refine g_callSip (pc' := 26) (As := [vl b, vl 0, vl 20]) (S := []) dX10_cards_23 rfl m_X10_83 w_X10_in (c_X10_in X M1 b ⟨by omega, by omega⟩ 0 (by decide) 20 (by decide)) rfl (by decide) (by decide) rfl (Nat.le_of_ble_eq_true rfl) (fun z6 q5 => ?_)
    refine g_if_eq (pc' := 29) (tgt := 63) ⟨by omega, by omega⟩ dX10_cards_26 rfl rfl (fun c7 => ?_) (fun c7 => ?_)
    · replace q5 := q5.resolve_left (fun h => absurd (c7.symm.trans h.1) (by decide))
      refine g_ldc2 (pc' := 66) (v := (-1)) dX10_cards_63 rfl k_X10_108 ?_
      refine g_lreturn dX10_cards_66 ?_
      exact ⟨iM1, fM1, q99_0_M1, q99_1_M1, q99_2_M1, q99_3_M1, q100_0_M1, q100_1_M1, q100_2_M1, q100_3_M1, q100_49_M1, q100_50_M1, q100_51_M1, q100_52_M1, q103_0_M1, q103_1_M1, q97_12_M1, by first | assumption | decide | omega⟩
    · replace q5 := q5.resolve_right (fun h => c7 h.1)
      refine g_iload_n (pc' := 30) 3 dX10_cards_29 rfl rfl ?_
      refine g_i2l (pc' := 31) hc dX10_cards_30 rfl ?_
      refine g_lconst (pc' := 32) (v := 0) dX10_cards_31 rfl (by decide) ?_
      refine g_iload_n (pc' := 33) 1 dX10_cards_32 rfl rfl ?_
      refine g_i2l (pc' := 34) ha dX10_cards_33 rfl ?_
      refine g_callSip (pc' := 37) (As := [vl c, vl 0, vl a]) (S := []) dX10_cards_34 rfl m_X10_83 w_X10_in (c_X10_in X M1 c ⟨by omega, by omega⟩ 0 (by decide) a ⟨by omega, by omega⟩) rfl (by decide) (by decide) rfl (Nat.le_of_ble_eq_true rfl) (fun z9 q8 => ?_)
      refine g_if_eq (pc' := 40) (tgt := 63) ⟨by omega, by omega⟩ dX10_cards_37 rfl rfl (fun c10 => ?_) (fun c10 => ?_)
      · replace q8 := q8.resolve_left (fun h => absurd (c10.symm.trans h.1) (by decide))
        refine g_ldc2 (pc' := 66) (v := (-1)) dX10_cards_63 rfl k_X10_108 ?_
        refine g_lreturn dX10_cards_66 ?_
        exact ⟨iM1, fM1, q99_0_M1, q99_1_M1, q99_2_M1, q99_3_M1, q100_0_M1, q100_1_M1, q100_2_M1, q100_3_M1, q100_49_M1, q100_50_M1, q100_51_M1, q100_52_M1, q103_0_M1, q103_1_M1, q97_12_M1, by first | assumption | decide | omega⟩
      · replace q8 := q8.resolve_right (fun h => c10 h.1)
        refine g_iload (pc' := 42) 4 dX10_cards_40 rfl rfl ?_
        refine g_i2l (pc' := 43) hj dX10_cards_42 rfl ?_
        refine g_lconst (pc' := 44) (v := 0) dX10_cards_43 rfl (by decide) ?_
        refine g_iload_n (pc' := 45) 3 dX10_cards_44 rfl rfl ?_
        refine g_i2l (pc' := 46) hc dX10_cards_45 rfl ?_
        refine g_callSip (pc' := 49) (As := [vl j, vl 0, vl c]) (S := []) dX10_cards_46 rfl m_X10_83 w_X10_in (c_X10_in X M1 j ⟨by omega, by omega⟩ 0 (by decide) c ⟨by omega, by omega⟩) rfl (by decide) (by decide) rfl (Nat.le_of_ble_eq_true rfl) (fun z12 q11 => ?_)
        refine g_if_eq (pc' := 52) (tgt := 63) ⟨by omega, by omega⟩ dX10_cards_49 rfl rfl (fun c13 => ?_) (fun c13 => ?_)
        · replace q11 := q11.resolve_left (fun h => absurd (c13.symm.trans h.1) (by decide))
          refine g_ldc2 (pc' := 66) (v := (-1)) dX10_cards_63 rfl k_X10_108 ?_
          refine g_lreturn dX10_cards_66 ?_
          exact ⟨iM1, fM1, q99_0_M1, q99_1_M1, q99_2_M1, q99_3_M1, q100_0_M1, q100_1_M1, q100_2_M1, q100_3_M1, q100_49_M1, q100_50_M1, q100_51_M1, q100_52_M1, q103_0_M1, q103_1_M1, q97_12_M1, by first | assumption | decide | omega⟩
        · replace q11 := q11.resolve_right (fun h => c13 h.1)
          refine g_iload (pc' := 54) 5 dX10_cards_52 rfl rfl ?_
          refine g_i2l (pc' := 55) he dX10_cards_54 rfl ?_
          refine g_lconst (pc' := 56) (v := 0) dX10_cards_55 rfl (by decide) ?_
          refine g_lconst (pc' := 57) (v := 1) dX10_cards_56 rfl (by decide) ?_
          refine g_callSip (pc' := 60) (As := [vl e, vl 0, vl 1]) (S := []) dX10_cards_57 rfl m_X10_83 w_X10_in (c_X10_in X M1 e ⟨by omega, by omega⟩ 0 (by decide) 1 (by decide)) rfl (by decide) (by decide) rfl (Nat.le_of_ble_eq_true rfl) (fun z15 q14 => ?_)
          refine g_if_ne (pc' := 63) (tgt := 67) ⟨by omega, by omega⟩ dX10_cards_60 rfl rfl (fun c16 => ?_) (fun c16 => ?_)
          · replace q14 := q14.resolve_right (fun h => c16 h.1)
            refine g_iload_n (pc' := 68) 1 dX10_cards_67 rfl rfl ?_
            refine g_iload_n (pc' := 69) 3 dX10_cards_68 rfl rfl ?_
            refine g_callSlp (pc' := 72) (As := [vi a, vi c]) (S := []) dX10_cards_69 rfl m_X10_396 w_X10_choose (c_X10_choose X M1 a ha c hc (by omega) (by omega)) rfl (by decide) (by decide) rfl (Nat.le_of_ble_eq_true rfl) (fun z18 q17 => ?_)
            refine g_iload (pc' := 74) 5 dX10_cards_72 rfl rfl ?_
            refine g_iconst (pc' := 75) dX10_cards_74 rfl ?_
            refine g_ic_ne (pc' := 78) (tgt := 88) he (by decide) dX10_cards_75 rfl rfl (fun c19 => ?_) (fun c19 => ?_)
            · refine g_iload_n (pc' := 89) 3 dX10_cards_88 rfl rfl ?_
              refine g_iload (pc' := 91) 4 dX10_cards_89 rfl rfl ?_
              refine g_callSlp (pc' := 94) (As := [vi c, vi j]) (S := [vl z18]) dX10_cards_91 rfl m_X10_396 w_X10_choose (c_X10_choose X M1 c hc j hj (by omega) (by omega)) rfl (by decide) (by decide) rfl (Nat.le_of_ble_eq_true rfl) (fun z21 q20 => ?_)
              refine g_iload_n (pc' := 95) 2 dX10_cards_94 rfl rfl ?_
              refine g_iload (pc' := 97) 4 dX10_cards_95 rfl rfl ?_
              refine g_callSlp (pc' := 100) (As := [vi b, vi j]) (S := [vl z21, vl z18]) dX10_cards_97 rfl m_X10_396 w_X10_choose (c_X10_choose X M1 b hb j hj (by omega) (by omega)) rfl (by decide) (by decide) rfl (Nat.le_of_ble_eq_true rfl) (fun z23 q22 => ?_)
              refine g_lmul (pc' := 101) dX10_cards_100 rfl ?_
              refine g_nrmL (fun n24 rn24 en24 => ?_)
              refine g_lmul (pc' := 102) dX10_cards_101 rfl ?_
              refine g_nrmL (fun n25 rn25 en25 => ?_)
              refine g_lreturn dX10_cards_102 ?_
              exact ⟨iM1, fM1, q99_0_M1, q99_1_M1, q99_2_M1, q99_3_M1, q100_0_M1, q100_1_M1, q100_2_M1, q100_3_M1, q100_49_M1, q100_50_M1, q100_51_M1, q100_52_M1, q103_0_M1, q103_1_M1, q97_12_M1, by first | assumption | decide | omega⟩
            · refine g_iload_n (pc' := 79) 2 dX10_cards_78 rfl rfl ?_
              refine g_iload_n (pc' := 80) 3 dX10_cards_79 rfl rfl ?_
              refine g_iadd (pc' := 81) dX10_cards_80 rfl ?_
              refine g_iload_n (pc' := 82) 3 dX10_cards_81 rfl rfl ?_
              refine g_callSlp (pc' := 85) (As := [vi (b + c), vi c]) (S := [vl z18]) dX10_cards_82 rfl m_X10_396 w_X10_choose (c_X10_choose X M1 (b + c) ⟨by omega, by omega⟩ c hc (by omega) (by omega)) rfl (by decide) (by decide) rfl (Nat.le_of_ble_eq_true rfl) (fun z27 q26 => ?_)
              refine g_goto (tgt := 101) dX10_cards_85 rfl ?_
              refine g_lmul (pc' := 102) dX10_cards_101 rfl ?_
              refine g_nrmL (fun n28 rn28 en28 => ?_)
              refine g_lreturn dX10_cards_102 ?_
              exact ⟨iM1, fM1, q99_0_M1, q99_1_M1, q99_2_M1, q99_3_M1, q100_0_M1, q100_1_M1, q100_2_M1, q100_3_M1, q100_49_M1, q100_50_M1, q100_51_M1, q100_52_M1, q103_0_M1, q103_1_M1, q97_12_M1, by first | assumption | decide | omega⟩
          · replace q14 := q14.resolve_left (fun h => absurd (c16.symm.trans h.1) (by decide))
            refine g_ldc2 (pc' := 66) (v := (-1)) dX10_cards_63 rfl k_X10_108 ?_
            refine g_lreturn dX10_cards_66 ?_
            exact ⟨iM1, fM1, q99_0_M1, q99_1_M1, q99_2_M1, q99_3_M1, q100_0_M1, q100_1_M1, q100_2_M1, q100_3_M1, q100_49_M1, q100_50_M1, q100_51_M1, q100_52_M1, q103_0_M1, q103_1_M1, q97_12_M1, by first | assumption | decide | omega⟩
set_option maxHeartbeats 4000000 in
set_option maxRecDepth 100000 in
theorem c_X10_drawn (X : Cx) (M : Mm) (hi : IM M) (a : Int) (ha : inI a) (b : Int) (hb : inI b) : Con X 12 yX10_drawn cX10_drawn 3 (some .int) [vr X 97, vi a, vi b] M (Qi (fun r M1 => IM M1 ∧ Fr (fun c => 97 ≤ c ∧ c ≤ 116) M M1 ∧ M1 99 0 = M 99 0 ∧ M1 99 1 = M 99 1 ∧ M1 99 2 = M 99 2 ∧ M1 99 3 = M 99 3 ∧ M1 100 0 = M 100 0 ∧ M1 100 1 = M 100 1 ∧ M1 100 2 = M 100 2 ∧ M1 100 3 = M 100 3 ∧ M1 100 49 = M 100 49 ∧ M1 100 50 = M 100 50 ∧ M1 100 51 = M 100 51 ∧ M1 100 52 = M 100 52 ∧ M1 103 0 = M 103 0 ∧ M1 103 1 = M 103 1 ∧ M1 97 12 = M 97 12 ∧ (inI r))) := by
  refine Con.ofG rfl (Nat.le_of_ble_eq_true rfl) ?_
  show G X 12 RX10 cX10_drawn 3 (some .int) (Qi (fun r M1 => IM M1 ∧ Fr (fun c => 97 ≤ c ∧ c ≤ 116) M M1 ∧ M1 99 0 = M 99 0 ∧ M1 99 1 = M 99 1 ∧ M1 99 2 = M 99 2 ∧ M1 99 3 = M 99 3 ∧ M1 100 0 = M 100 0 ∧ M1 100 1 = M 100 1 ∧ M1 100 2 = M 100 2 ∧ M1 100 3 = M 100 3 ∧ M1 100 49 = M 100 49 ∧ M1 100 50 = M 100 50 ∧ M1 100 51 = M 100 51 ∧ M1 100 52 = M 100 52 ∧ M1 103 0 = M 103 0 ∧ M1 103 1 = M 103 1 ∧ M1 97 12 = M 97 12 ∧ (inI r))) 0 [(0, vr X 97), (1, vi a), (2, vi b)] [] M
  have p0 := hi.1.1
  have p1 := hi.1.2.1
  have p2 := hi.1.2.2.1
  have p3 := hi.1.2.2.2.1
  have p12 := hi.2.2.2.1
  refine g_aload_n (pc' := 1) 0 dX10_drawn_0 rfl rfl ?_
  refine g_iconst (pc' := 2) dX10_drawn_1 rfl ?_
  refine g_putI (pc' := 5) dX10_drawn_2 rfl p_X10_77 rfl rfl (by decide) (fun M1 hM1 => ?_)
  have iM1 : IM M1 := IM.wr hi hM1 (by unfold okv; first | decide | omega)
  have fM1 : Fr (fun c => 97 ≤ c ∧ c ≤ 116) M M1 := Fr.wr Fr.rf hM1 (by first | decide | omega | (dsimp only; omega))
  have q99_0_M1 : (M1 99 0 = M 99 0) := (show M1 99 0 = M 99 0 by rw [hM1]; exact mu_ne _ _ (by first | decide | omega))
  have q99_1_M1 : (M1 99 1 = M 99 1) := (show M1 99 1 = M 99 1 by rw [hM1]; exact mu_ne _ _ (by first | decide | omega))
  have q99_2_M1 : (M1 99 2 = M 99 2) := (show M1 99 2 = M 99 2 by rw [hM1]; exact mu_ne _ _ (by first | decide | omega))
  have q99_3_M1 : (M1 99 3 = M 99 3) := (show M1 99 3 = M 99 3 by rw [hM1]; exact mu_ne _ _ (by first | decide | omega))
  have q100_0_M1 : id (M1 100 0 = M 100 0) := (show M1 100 0 = M 100 0 by rw [hM1]; exact mu_ne _ _ (by first | decide | omega))
  have q100_1_M1 : id (M1 100 1 = M 100 1) := (show M1 100 1 = M 100 1 by rw [hM1]; exact mu_ne _ _ (by first | decide | omega))
  have q100_2_M1 : id (M1 100 2 = M 100 2) := (show M1 100 2 = M 100 2 by rw [hM1]; exact mu_ne _ _ (by first | decide | omega))
  have q100_3_M1 : id (M1 100 3 = M 100 3) := (show M1 100 3 = M 100 3 by rw [hM1]; exact mu_ne _ _ (by first | decide | omega))
  have q100_49_M1 : id (M1 100 49 = M 100 49) := (show M1 100 49 = M 100 49 by rw [hM1]; exact mu_ne _ _ (by first | decide | omega))
  have q100_50_M1 : id (M1 100 50 = M 100 50) := (show M1 100 50 = M 100 50 by rw [hM1]; exact mu_ne _ _ (by first | decide | omega))
  have q100_51_M1 : id (M1 100 51 = M 100 51) := (show M1 100 51 = M 100 51 by rw [hM1]; exact mu_ne _ _ (by first | decide | omega))
  have q100_52_M1 : id (M1 100 52 = M 100 52) := (show M1 100 52 = M 100 52 by rw [hM1]; exact mu_ne _ _ (by first | decide | omega))
  have q103_0_M1 : id (M1 103 0 = M 103 0) := (show M1 103 0 = M 103 0 by rw [hM1]; exact mu_ne _ _ (by first | decide | omega))
  have q103_1_M1 : id (M1 103 1 = M 103 1) := (show M1 103 1 = M 103 1 by rw [hM1]; exact mu_ne _ _ (by first | decide | omega))
  have q97_12_M1 : (M1 97 12 = M 97 12) := (show M1 97 12 = M 97 12 by rw [hM1]; exact mu_ne _ _ (by first | decide | omega))
  have xM1_97_0 : M1 97 0 = 0 := by rw [hM1]; exact mu_at _ _ _ _
  refine g_iload_n (pc' := 6) 1 dX10_drawn_5 rfl rfl ?_
  refine g_i2l (pc' := 7) ha dX10_drawn_6 rfl ?_
  refine g_lconst (pc' := 8) (v := 0) dX10_drawn_7 rfl (by decide) ?_
  refine g_aload_n (pc' := 9) 0 dX10_drawn_8 rfl rfl ?_
  refine g_getI (pc' := 12) dX10_drawn_9 rfl f_X10_411 rfl rfl (fun v2 ev2 rv2 => ?_)
  have bv2 : 0 ≤ v2 ∧ v2 ≤ 6 := by rw [ev2]; exact iM1.2.2.2.2
  refine g_i2l (pc' := 13) rv2 dX10_drawn_12 rfl ?_
  refine g_lconst (pc' := 14) (v := 1) dX10_drawn_13 rfl (by decide) ?_
  refine g_lsub (pc' := 15) dX10_drawn_14 rfl ?_
  refine g_callSip (pc' := 18) (As := [vl a, vl 0, vl (v2 - 1)]) (S := []) dX10_drawn_15 rfl m_X10_83 w_X10_in (c_X10_in X M1 a ⟨by omega, by omega⟩ 0 (by decide) (v2 - 1) ⟨by omega, by omega⟩) rfl (by decide) (by decide) rfl (Nat.le_of_ble_eq_true rfl) (fun z4 q3 => ?_)
  refine g_if_eq (pc' := 21) (tgt := 41) ⟨by omega, by omega⟩ dX10_drawn_18 rfl rfl (fun c5 => ?_) (fun c5 => ?_)
  · replace q3 := q3.resolve_left (fun h => absurd (c5.symm.trans h.1) (by decide))
    refine g_iconst (pc' := 42) dX10_drawn_41 rfl ?_
    refine g_ireturn dX10_drawn_42 ?_
    exact ⟨iM1, fM1, q99_0_M1, q99_1_M1, q99_2_M1, q99_3_M1, q100_0_M1, q100_1_M1, q100_2_M1, q100_3_M1, q100_49_M1, q100_50_M1, q100_51_M1, q100_52_M1, q103_0_M1, q103_1_M1, q97_12_M1, by first | assumption | decide | omega⟩
  · replace q3 := q3.resolve_right (fun h => c5 h.1)
    refine g_iload_n (pc' := 22) 2 dX10_drawn_21 rfl rfl ?_
    refine g_callSip (pc' := 25) (As := [vi b]) (S := []) dX10_drawn_22 rfl m_X10_105 w_X10_isStuff (c_X10_isStuff X M1 b hb) rfl (by decide) (by decide) rfl (Nat.le_of_ble_eq_true rfl) (fun z7 q6 => ?_)
    refine g_if_eq (pc' := 28) (tgt := 41) ⟨by omega, by omega⟩ dX10_drawn_25 rfl rfl (fun c8 => ?_) (fun c8 => ?_)
    · replace q6 := q6.resolve_left (fun h => absurd (c8.symm.trans h.1) (by decide))
      refine g_iconst (pc' := 42) dX10_drawn_41 rfl ?_
      refine g_ireturn dX10_drawn_42 ?_
      exact ⟨iM1, fM1, q99_0_M1, q99_1_M1, q99_2_M1, q99_3_M1, q100_0_M1, q100_1_M1, q100_2_M1, q100_3_M1, q100_49_M1, q100_50_M1, q100_51_M1, q100_52_M1, q103_0_M1, q103_1_M1, q97_12_M1, by first | assumption | decide | omega⟩
    · replace q6 := q6.resolve_right (fun h => c8 h.1)
      refine g_aload_n (pc' := 29) 0 dX10_drawn_28 rfl rfl ?_
      refine g_getR (pc' := 32) dX10_drawn_29 rfl f_X10_74 rfl rfl ?_
      refine g_iconst (pc' := 33) dX10_drawn_32 rfl ?_
      refine g_iload_n (pc' := 34) 1 dX10_drawn_33 rfl rfl ?_
      refine g_imul (pc' := 35) dX10_drawn_34 rfl ?_
      refine g_iload_n (pc' := 36) 2 dX10_drawn_35 rfl rfl ?_
      refine g_iadd (pc' := 37) dX10_drawn_36 rfl ?_
      refine g_iald (pc' := 38) dX10_drawn_37 rfl rfl (by omega) (by omega) (fun v9 ev9 rv9 => ?_)
      refine g_goto (tgt := 42) dX10_drawn_38 rfl ?_
      refine g_ireturn dX10_drawn_42 ?_
      exact ⟨iM1, fM1, q99_0_M1, q99_1_M1, q99_2_M1, q99_3_M1, q100_0_M1, q100_1_M1, q100_2_M1, q100_3_M1, q100_49_M1, q100_50_M1, q100_51_M1, q100_52_M1, q103_0_M1, q103_1_M1, q97_12_M1, by first | assumption | decide | omega⟩
set_option maxHeartbeats 4000000 in
set_option maxRecDepth 100000 in
theorem c_X10_count (X : Cx) (M : Mm) (hi : IM M) (a : Int) (ha : inI a) : Con X 12 yX10_count cX10_count 2 (some .int) [vr X 97, vi a] M (Qi (fun r M1 => IM M1 ∧ Fr (fun c => 97 ≤ c ∧ c ≤ 116) M M1 ∧ M1 99 0 = M 99 0 ∧ M1 99 1 = M 99 1 ∧ M1 99 2 = M 99 2 ∧ M1 99 3 = M 99 3 ∧ M1 100 0 = M 100 0 ∧ M1 100 1 = M 100 1 ∧ M1 100 2 = M 100 2 ∧ M1 100 3 = M 100 3 ∧ M1 100 49 = M 100 49 ∧ M1 100 50 = M 100 50 ∧ M1 100 51 = M 100 51 ∧ M1 100 52 = M 100 52 ∧ M1 103 0 = M 103 0 ∧ M1 103 1 = M 103 1 ∧ M1 97 12 = M 97 12 ∧ (inI r))) := by
  refine Con.ofG rfl (Nat.le_of_ble_eq_true rfl) ?_
  show G X 12 RX10 cX10_count 2 (some .int) (Qi (fun r M1 => IM M1 ∧ Fr (fun c => 97 ≤ c ∧ c ≤ 116) M M1 ∧ M1 99 0 = M 99 0 ∧ M1 99 1 = M 99 1 ∧ M1 99 2 = M 99 2 ∧ M1 99 3 = M 99 3 ∧ M1 100 0 = M 100 0 ∧ M1 100 1 = M 100 1 ∧ M1 100 2 = M 100 2 ∧ M1 100 3 = M 100 3 ∧ M1 100 49 = M 100 49 ∧ M1 100 50 = M 100 50 ∧ M1 100 51 = M 100 51 ∧ M1 100 52 = M 100 52 ∧ M1 103 0 = M 103 0 ∧ M1 103 1 = M 103 1 ∧ M1 97 12 = M 97 12 ∧ (inI r))) 0 [(0, vr X 97), (1, vi a)] [] M
  have p0 := hi.1.1
  have p1 := hi.1.2.1
  have p2 := hi.1.2.2.1
  have p3 := hi.1.2.2.2.1
  have p12 := hi.2.2.2.1
  refine g_aload_n (pc' := 1) 0 dX10_count_0 rfl rfl ?_
  refine g_iconst (pc' := 2) dX10_count_1 rfl ?_
  refine g_putI (pc' := 5) dX10_count_2 rfl p_X10_77 rfl rfl (by decide) (fun M1 hM1 => ?_)
  have iM1 : IM M1 := IM.wr hi hM1 (by unfold okv; first | decide | omega)
  have fM1 : Fr (fun c => 97 ≤ c ∧ c ≤ 116) M M1 := Fr.wr Fr.rf hM1 (by first | decide | omega | (dsimp only; omega))
  have q99_0_M1 : (M1 99 0 = M 99 0) := (show M1 99 0 = M 99 0 by rw [hM1]; exact mu_ne _ _ (by first | decide | omega))
  have q99_1_M1 : (M1 99 1 = M 99 1) := (show M1 99 1 = M 99 1 by rw [hM1]; exact mu_ne _ _ (by first | decide | omega))
  have q99_2_M1 : (M1 99 2 = M 99 2) := (show M1 99 2 = M 99 2 by rw [hM1]; exact mu_ne _ _ (by first | decide | omega))
  have q99_3_M1 : (M1 99 3 = M 99 3) := (show M1 99 3 = M 99 3 by rw [hM1]; exact mu_ne _ _ (by first | decide | omega))
  have q100_0_M1 : id (M1 100 0 = M 100 0) := (show M1 100 0 = M 100 0 by rw [hM1]; exact mu_ne _ _ (by first | decide | omega))
  have q100_1_M1 : id (M1 100 1 = M 100 1) := (show M1 100 1 = M 100 1 by rw [hM1]; exact mu_ne _ _ (by first | decide | omega))
  have q100_2_M1 : id (M1 100 2 = M 100 2) := (show M1 100 2 = M 100 2 by rw [hM1]; exact mu_ne _ _ (by first | decide | omega))
  have q100_3_M1 : id (M1 100 3 = M 100 3) := (show M1 100 3 = M 100 3 by rw [hM1]; exact mu_ne _ _ (by first | decide | omega))
  have q100_49_M1 : id (M1 100 49 = M 100 49) := (show M1 100 49 = M 100 49 by rw [hM1]; exact mu_ne _ _ (by first | decide | omega))
  have q100_50_M1 : id (M1 100 50 = M 100 50) := (show M1 100 50 = M 100 50 by rw [hM1]; exact mu_ne _ _ (by first | decide | omega))
  have q100_51_M1 : id (M1 100 51 = M 100 51) := (show M1 100 51 = M 100 51 by rw [hM1]; exact mu_ne _ _ (by first | decide | omega))
  have q100_52_M1 : id (M1 100 52 = M 100 52) := (show M1 100 52 = M 100 52 by rw [hM1]; exact mu_ne _ _ (by first | decide | omega))
  have q103_0_M1 : id (M1 103 0 = M 103 0) := (show M1 103 0 = M 103 0 by rw [hM1]; exact mu_ne _ _ (by first | decide | omega))
  have q103_1_M1 : id (M1 103 1 = M 103 1) := (show M1 103 1 = M 103 1 by rw [hM1]; exact mu_ne _ _ (by first | decide | omega))
  have q97_12_M1 : (M1 97 12 = M 97 12) := (show M1 97 12 = M 97 12 by rw [hM1]; exact mu_ne _ _ (by first | decide | omega))
  have xM1_97_0 : M1 97 0 = 0 := by rw [hM1]; exact mu_at _ _ _ _
  refine g_iload_n (pc' := 6) 1 dX10_count_5 rfl rfl ?_
  by_cases c2 : a = 0
  · refine g_tabIn (tgt := 60) (off := 54) ha dX10_count_6 (by omega) (by omega) (by rw [c2]; rfl) rfl ?_
    refine g_aload_n (pc' := 61) 0 dX10_count_60 rfl rfl ?_
    refine g_getR (pc' := 64) dX10_count_61 rfl f_X10_13 rfl rfl ?_
    refine g_iconst (pc' := 65) dX10_count_64 rfl ?_
    refine g_iald (pc' := 66) dX10_count_65 rfl rfl (by decide) (by decide) (fun v3 ev3 rv3 => ?_)
    have ev3 : v3 = M1 99 0 := ev3
    have bv3 : 0 ≤ v3 ∧ v3 ≤ 6 := by rw [ev3]; exact iM1.1.1
    have av3 : v3 = M 99 0 := ev3.trans q99_0_M1
    refine g_ireturn dX10_count_66 ?_
    exact ⟨iM1, fM1, q99_0_M1, q99_1_M1, q99_2_M1, q99_3_M1, q100_0_M1, q100_1_M1, q100_2_M1, q100_3_M1, q100_49_M1, q100_50_M1, q100_51_M1, q100_52_M1, q103_0_M1, q103_1_M1, q97_12_M1, by first | assumption | decide | omega⟩
  by_cases c4 : a = 1
  · refine g_tabIn (tgt := 67) (off := 61) ha dX10_count_6 (by omega) (by omega) (by rw [c4]; rfl) rfl ?_
    refine g_aload_n (pc' := 68) 0 dX10_count_67 rfl rfl ?_
    refine g_getR (pc' := 71) dX10_count_68 rfl f_X10_13 rfl rfl ?_
    refine g_iconst (pc' := 72) dX10_count_71 rfl ?_
    refine g_iald (pc' := 73) dX10_count_72 rfl rfl (by decide) (by decide) (fun v5 ev5 rv5 => ?_)
    have ev5 : v5 = M1 99 1 := ev5
    have bv5 : 0 ≤ v5 ∧ v5 ≤ 3 := by rw [ev5]; exact iM1.1.2.1
    have av5 : v5 = M 99 1 := ev5.trans q99_1_M1
    refine g_ireturn dX10_count_73 ?_
    exact ⟨iM1, fM1, q99_0_M1, q99_1_M1, q99_2_M1, q99_3_M1, q100_0_M1, q100_1_M1, q100_2_M1, q100_3_M1, q100_49_M1, q100_50_M1, q100_51_M1, q100_52_M1, q103_0_M1, q103_1_M1, q97_12_M1, by first | assumption | decide | omega⟩
  by_cases c6 : a = 2
  · refine g_tabIn (tgt := 74) (off := 68) ha dX10_count_6 (by omega) (by omega) (by rw [c6]; rfl) rfl ?_
    refine g_aload_n (pc' := 75) 0 dX10_count_74 rfl rfl ?_
    refine g_getR (pc' := 78) dX10_count_75 rfl f_X10_13 rfl rfl ?_
    refine g_iconst (pc' := 79) dX10_count_78 rfl ?_
    refine g_iald (pc' := 80) dX10_count_79 rfl rfl (by decide) (by decide) (fun v7 ev7 rv7 => ?_)
    have ev7 : v7 = M1 99 2 := ev7
    have bv7 : 0 ≤ v7 ∧ v7 ≤ 6 := by rw [ev7]; exact iM1.1.2.2.1
    have av7 : v7 = M 99 2 := ev7.trans q99_2_M1
    refine g_ireturn dX10_count_80 ?_
    exact ⟨iM1, fM1, q99_0_M1, q99_1_M1, q99_2_M1, q99_3_M1, q100_0_M1, q100_1_M1, q100_2_M1, q100_3_M1, q100_49_M1, q100_50_M1, q100_51_M1, q100_52_M1, q103_0_M1, q103_1_M1, q97_12_M1, by first | assumption | decide | omega⟩
  by_cases c8 : a = 3
  · refine g_tabIn (tgt := 81) (off := 75) ha dX10_count_6 (by omega) (by omega) (by rw [c8]; rfl) rfl ?_
    refine g_aload_n (pc' := 82) 0 dX10_count_81 rfl rfl ?_
    refine g_getR (pc' := 85) dX10_count_82 rfl f_X10_13 rfl rfl ?_
    refine g_iconst (pc' := 86) dX10_count_85 rfl ?_
    refine g_iald (pc' := 87) dX10_count_86 rfl rfl (by decide) (by decide) (fun v9 ev9 rv9 => ?_)
    have ev9 : v9 = M1 99 3 := ev9
    have bv9 : 0 ≤ v9 ∧ v9 ≤ 6 := by rw [ev9]; exact iM1.1.2.2.2.1
    have av9 : v9 = M 99 3 := ev9.trans q99_3_M1
    refine g_ireturn dX10_count_87 ?_
    exact ⟨iM1, fM1, q99_0_M1, q99_1_M1, q99_2_M1, q99_3_M1, q100_0_M1, q100_1_M1, q100_2_M1, q100_3_M1, q100_49_M1, q100_50_M1, q100_51_M1, q100_52_M1, q103_0_M1, q103_1_M1, q97_12_M1, by first | assumption | decide | omega⟩
  by_cases c10 : a = 4
  · refine g_tabIn (tgt := 88) (off := 82) ha dX10_count_6 (by omega) (by omega) (by rw [c10]; rfl) rfl ?_
    refine g_aload_n (pc' := 89) 0 dX10_count_88 rfl rfl ?_
    refine g_getI (pc' := 92) dX10_count_89 rfl f_X10_142 rfl rfl (fun v11 ev11 rv11 => ?_)
    have bv11 : 0 ≤ v11 ∧ v11 ≤ 400 := by rw [ev11]; exact iM1.2.2.2.1
    have av11 : v11 = M 97 12 := ev11.trans q97_12_M1
    refine g_ireturn dX10_count_92 ?_
    exact ⟨iM1, fM1, q99_0_M1, q99_1_M1, q99_2_M1, q99_3_M1, q100_0_M1, q100_1_M1, q100_2_M1, q100_3_M1, q100_49_M1, q100_50_M1, q100_51_M1, q100_52_M1, q103_0_M1, q103_1_M1, q97_12_M1, by first | assumption | decide | omega⟩
  by_cases c12 : a = 5
  · refine g_tabIn (tgt := 93) (off := 87) ha dX10_count_6 (by omega) (by omega) (by rw [c12]; rfl) rfl ?_
    refine g_aload_n (pc' := 94) 0 dX10_count_93 rfl rfl ?_
    refine g_getR (pc' := 97) dX10_count_94 rfl f_X10_7 rfl rfl ?_
    refine g_iconst (pc' := 98) dX10_count_97 rfl ?_
    refine g_iald (pc' := 99) dX10_count_98 rfl rfl (by decide) (by decide) (fun v13 ev13 rv13 => ?_)
    have ev13 : v13 = M1 98 1 := ev13
    refine g_ireturn dX10_count_99 ?_
    exact ⟨iM1, fM1, q99_0_M1, q99_1_M1, q99_2_M1, q99_3_M1, q100_0_M1, q100_1_M1, q100_2_M1, q100_3_M1, q100_49_M1, q100_50_M1, q100_51_M1, q100_52_M1, q103_0_M1, q103_1_M1, q97_12_M1, by first | assumption | decide | omega⟩
  by_cases c14 : a = 6
  · refine g_tabIn (tgt := 100) (off := 94) ha dX10_count_6 (by omega) (by omega) (by rw [c14]; rfl) rfl ?_
    refine g_aload_n (pc' := 101) 0 dX10_count_100 rfl rfl ?_
    refine g_getR (pc' := 104) dX10_count_101 rfl f_X10_7 rfl rfl ?_
    refine g_iconst (pc' := 105) dX10_count_104 rfl ?_
    refine g_iald (pc' := 106) dX10_count_105 rfl rfl (by decide) (by decide) (fun v15 ev15 rv15 => ?_)
    have ev15 : v15 = M1 98 2 := ev15
    refine g_ireturn dX10_count_106 ?_
    exact ⟨iM1, fM1, q99_0_M1, q99_1_M1, q99_2_M1, q99_3_M1, q100_0_M1, q100_1_M1, q100_2_M1, q100_3_M1, q100_49_M1, q100_50_M1, q100_51_M1, q100_52_M1, q103_0_M1, q103_1_M1, q97_12_M1, by first | assumption | decide | omega⟩
  by_cases c16 : a = 7
  · refine g_tabIn (tgt := 107) (off := 101) ha dX10_count_6 (by omega) (by omega) (by rw [c16]; rfl) rfl ?_
    refine g_aload_n (pc' := 108) 0 dX10_count_107 rfl rfl ?_
    refine g_getR (pc' := 111) dX10_count_108 rfl f_X10_7 rfl rfl ?_
    refine g_iconst (pc' := 112) dX10_count_111 rfl ?_
    refine g_iald (pc' := 113) dX10_count_112 rfl rfl (by decide) (by decide) (fun v17 ev17 rv17 => ?_)
    have ev17 : v17 = M1 98 3 := ev17
    refine g_ireturn dX10_count_113 ?_
    exact ⟨iM1, fM1, q99_0_M1, q99_1_M1, q99_2_M1, q99_3_M1, q100_0_M1, q100_1_M1, q100_2_M1, q100_3_M1, q100_49_M1, q100_50_M1, q100_51_M1, q100_52_M1, q103_0_M1, q103_1_M1, q97_12_M1, by first | assumption | decide | omega⟩
  by_cases c18 : a = 8
  · refine g_tabIn (tgt := 114) (off := 108) ha dX10_count_6 (by omega) (by omega) (by rw [c18]; rfl) rfl ?_
    refine g_aload_n (pc' := 115) 0 dX10_count_114 rfl rfl ?_
    refine g_getR (pc' := 118) dX10_count_115 rfl f_X10_7 rfl rfl ?_
    refine g_iconst (pc' := 119) dX10_count_118 rfl ?_
    refine g_iald (pc' := 120) dX10_count_119 rfl rfl (by decide) (by decide) (fun v19 ev19 rv19 => ?_)
    have ev19 : v19 = M1 98 5 := ev19
    refine g_ireturn dX10_count_120 ?_
    exact ⟨iM1, fM1, q99_0_M1, q99_1_M1, q99_2_M1, q99_3_M1, q100_0_M1, q100_1_M1, q100_2_M1, q100_3_M1, q100_49_M1, q100_50_M1, q100_51_M1, q100_52_M1, q103_0_M1, q103_1_M1, q97_12_M1, by first | assumption | decide | omega⟩
  by_cases c20 : a = 9
  · refine g_tabIn (tgt := 121) (off := 115) ha dX10_count_6 (by omega) (by omega) (by rw [c20]; rfl) rfl ?_
    refine g_aload_n (pc' := 122) 0 dX10_count_121 rfl rfl ?_
    refine g_getR (pc' := 125) dX10_count_122 rfl f_X10_7 rfl rfl ?_
    refine g_bipush (pc' := 127) (v := 6) dX10_count_125 rfl (by decide) ?_
    refine g_iald (pc' := 128) dX10_count_127 rfl rfl (by decide) (by decide) (fun v21 ev21 rv21 => ?_)
    have ev21 : v21 = M1 98 6 := ev21
    refine g_ireturn dX10_count_128 ?_
    exact ⟨iM1, fM1, q99_0_M1, q99_1_M1, q99_2_M1, q99_3_M1, q100_0_M1, q100_1_M1, q100_2_M1, q100_3_M1, q100_49_M1, q100_50_M1, q100_51_M1, q100_52_M1, q103_0_M1, q103_1_M1, q97_12_M1, by first | assumption | decide | omega⟩
  refine g_tabOut (tgt := 129) ha dX10_count_6 (by omega) rfl ?_
  refine g_iload_n (pc' := 130) 1 dX10_count_129 rfl rfl ?_
  refine g_i2l (pc' := 131) ha dX10_count_130 rfl ?_
  refine g_ldc2 (pc' := 134) (v := 10) dX10_count_131 rfl k_X10_183 ?_
  refine g_ldc2 (pc' := 137) (v := 12) dX10_count_134 rfl k_X10_414 ?_
  refine g_callSip (pc' := 140) (As := [vl a, vl 10, vl 12]) (S := []) dX10_count_137 rfl m_X10_83 w_X10_in (c_X10_in X M1 a ⟨by omega, by omega⟩ 10 (by decide) 12 (by decide)) rfl (by decide) (by decide) rfl (Nat.le_of_ble_eq_true rfl) (fun z24 q23 => ?_)
  refine g_if_eq (pc' := 143) (tgt := 171) ⟨by omega, by omega⟩ dX10_count_140 rfl rfl (fun c25 => ?_) (fun c25 => ?_)
  · replace q23 := q23.resolve_left (fun h => absurd (c25.symm.trans h.1) (by decide))
    refine g_iconst (pc' := 172) dX10_count_171 rfl ?_
    refine g_ireturn dX10_count_172 ?_
    exact ⟨iM1, fM1, q99_0_M1, q99_1_M1, q99_2_M1, q99_3_M1, q100_0_M1, q100_1_M1, q100_2_M1, q100_3_M1, q100_49_M1, q100_50_M1, q100_51_M1, q100_52_M1, q103_0_M1, q103_1_M1, q97_12_M1, by first | assumption | decide | omega⟩
  · replace q23 := q23.resolve_right (fun h => c25 h.1)
    refine g_iload_n (pc' := 144) 1 dX10_count_143 rfl rfl ?_
    refine g_bipush (pc' := 146) (v := 10) dX10_count_144 rfl (by decide) ?_
    refine g_isub (pc' := 147) dX10_count_146 rfl ?_
    refine g_aload_n (pc' := 148) 0 dX10_count_147 rfl rfl ?_
    refine g_getR (pc' := 151) dX10_count_148 rfl f_X10_13 rfl rfl ?_
    refine g_iconst (pc' := 152) dX10_count_151 rfl ?_
    refine g_iald (pc' := 153) dX10_count_152 rfl rfl (by decide) (by decide) (fun v26 ev26 rv26 => ?_)
    have ev26 : v26 = M1 99 1 := ev26
    have bv26 : 0 ≤ v26 ∧ v26 ≤ 3 := by rw [ev26]; exact iM1.1.2.1
    have av26 : v26 = M 99 1 := ev26.trans q99_1_M1
    refine g_ic_ge (pc' := 156) (tgt := 171) ⟨by omega, by omega⟩ rv26 dX10_count_153 rfl rfl (fun c27 => ?_) (fun c27 => ?_)
    · refine g_iconst (pc' := 172) dX10_count_171 rfl ?_
      refine g_ireturn dX10_count_172 ?_
      exact ⟨iM1, fM1, q99_0_M1, q99_1_M1, q99_2_M1, q99_3_M1, q100_0_M1, q100_1_M1, q100_2_M1, q100_3_M1, q100_49_M1, q100_50_M1, q100_51_M1, q100_52_M1, q103_0_M1, q103_1_M1, q97_12_M1, by first | assumption | decide | omega⟩
    · refine g_aload_n (pc' := 157) 0 dX10_count_156 rfl rfl ?_
      refine g_getR (pc' := 160) dX10_count_157 rfl f_X10_13 rfl rfl ?_
      refine g_bipush (pc' := 162) (v := 10) dX10_count_160 rfl (by decide) ?_
      refine g_iload_n (pc' := 163) 1 dX10_count_162 rfl rfl ?_
      refine g_iadd (pc' := 164) dX10_count_163 rfl ?_
      refine g_bipush (pc' := 166) (v := 10) dX10_count_164 rfl (by decide) ?_
      refine g_isub (pc' := 167) dX10_count_166 rfl ?_
      refine g_iald (pc' := 168) dX10_count_167 rfl rfl (by omega) (by omega) (fun v28 ev28 rv28 => ?_)
      refine g_goto (tgt := 172) dX10_count_168 rfl ?_
      refine g_ireturn dX10_count_172 ?_
      exact ⟨iM1, fM1, q99_0_M1, q99_1_M1, q99_2_M1, q99_3_M1, q100_0_M1, q100_1_M1, q100_2_M1, q100_3_M1, q100_49_M1, q100_50_M1, q100_51_M1, q100_52_M1, q103_0_M1, q103_1_M1, q97_12_M1, by first | assumption | decide | omega⟩
set_option maxHeartbeats 4000000 in
set_option maxRecDepth 100000 in
theorem c_X10_alike (X : Cx) (M : Mm) (hi : IM M) (a : Int) (ha : inI a) (b : Int) (hb : inI b) (c : Int) (hc : inI c) : Con X 12 yX10_alike cX10_alike 10 (some .int) [vr X 97, vi a, vi b, vi c] M (Qi (fun r M1 => IM M1 ∧ Fr (fun c => 97 ≤ c ∧ c ≤ 116) M M1 ∧ M1 99 0 = M 99 0 ∧ M1 99 1 = M 99 1 ∧ M1 99 2 = M 99 2 ∧ M1 99 3 = M 99 3 ∧ M1 100 0 = M 100 0 ∧ M1 100 1 = M 100 1 ∧ M1 100 2 = M 100 2 ∧ M1 100 3 = M 100 3 ∧ M1 100 49 = M 100 49 ∧ M1 100 50 = M 100 50 ∧ M1 100 51 = M 100 51 ∧ M1 100 52 = M 100 52 ∧ M1 103 0 = M 103 0 ∧ M1 103 1 = M 103 1 ∧ M1 97 12 = M 97 12 ∧ (inI r))) := by
  refine Con.ofG rfl (Nat.le_of_ble_eq_true rfl) ?_
  show G X 12 RX10 cX10_alike 10 (some .int) (Qi (fun r M1 => IM M1 ∧ Fr (fun c => 97 ≤ c ∧ c ≤ 116) M M1 ∧ M1 99 0 = M 99 0 ∧ M1 99 1 = M 99 1 ∧ M1 99 2 = M 99 2 ∧ M1 99 3 = M 99 3 ∧ M1 100 0 = M 100 0 ∧ M1 100 1 = M 100 1 ∧ M1 100 2 = M 100 2 ∧ M1 100 3 = M 100 3 ∧ M1 100 49 = M 100 49 ∧ M1 100 50 = M 100 50 ∧ M1 100 51 = M 100 51 ∧ M1 100 52 = M 100 52 ∧ M1 103 0 = M 103 0 ∧ M1 103 1 = M 103 1 ∧ M1 97 12 = M 97 12 ∧ (inI r))) 0 [(0, vr X 97), (1, vi a), (2, vi b), (3, vi c)] [] M
  have p0 := hi.1.1
  have p1 := hi.1.2.1
  have p2 := hi.1.2.2.1
  have p3 := hi.1.2.2.2.1
  have p12 := hi.2.2.2.1
  refine g_aload_n (pc' := 1) 0 dX10_alike_0 rfl rfl ?_
  refine g_iconst (pc' := 2) dX10_alike_1 rfl ?_
  refine g_putI (pc' := 5) dX10_alike_2 rfl p_X10_77 rfl rfl (by decide) (fun M1 hM1 => ?_)
  have iM1 : IM M1 := IM.wr hi hM1 (by unfold okv; first | decide | omega)
  have fM1 : Fr (fun c => 97 ≤ c ∧ c ≤ 116) M M1 := Fr.wr Fr.rf hM1 (by first | decide | omega | (dsimp only; omega))
  have q99_0_M1 : (M1 99 0 = M 99 0) := (show M1 99 0 = M 99 0 by rw [hM1]; exact mu_ne _ _ (by first | decide | omega))
  have q99_1_M1 : (M1 99 1 = M 99 1) := (show M1 99 1 = M 99 1 by rw [hM1]; exact mu_ne _ _ (by first | decide | omega))
  have q99_2_M1 : (M1 99 2 = M 99 2) := (show M1 99 2 = M 99 2 by rw [hM1]; exact mu_ne _ _ (by first | decide | omega))
  have q99_3_M1 : (M1 99 3 = M 99 3) := (show M1 99 3 = M 99 3 by rw [hM1]; exact mu_ne _ _ (by first | decide | omega))
  have q100_0_M1 : id (M1 100 0 = M 100 0) := (show M1 100 0 = M 100 0 by rw [hM1]; exact mu_ne _ _ (by first | decide | omega))
  have q100_1_M1 : id (M1 100 1 = M 100 1) := (show M1 100 1 = M 100 1 by rw [hM1]; exact mu_ne _ _ (by first | decide | omega))
  have q100_2_M1 : id (M1 100 2 = M 100 2) := (show M1 100 2 = M 100 2 by rw [hM1]; exact mu_ne _ _ (by first | decide | omega))
  have q100_3_M1 : id (M1 100 3 = M 100 3) := (show M1 100 3 = M 100 3 by rw [hM1]; exact mu_ne _ _ (by first | decide | omega))
  have q100_49_M1 : id (M1 100 49 = M 100 49) := (show M1 100 49 = M 100 49 by rw [hM1]; exact mu_ne _ _ (by first | decide | omega))
  have q100_50_M1 : id (M1 100 50 = M 100 50) := (show M1 100 50 = M 100 50 by rw [hM1]; exact mu_ne _ _ (by first | decide | omega))
  have q100_51_M1 : id (M1 100 51 = M 100 51) := (show M1 100 51 = M 100 51 by rw [hM1]; exact mu_ne _ _ (by first | decide | omega))
  have q100_52_M1 : id (M1 100 52 = M 100 52) := (show M1 100 52 = M 100 52 by rw [hM1]; exact mu_ne _ _ (by first | decide | omega))
  have q103_0_M1 : id (M1 103 0 = M 103 0) := (show M1 103 0 = M 103 0 by rw [hM1]; exact mu_ne _ _ (by first | decide | omega))
  have q103_1_M1 : id (M1 103 1 = M 103 1) := (show M1 103 1 = M 103 1 by rw [hM1]; exact mu_ne _ _ (by first | decide | omega))
  have q97_12_M1 : (M1 97 12 = M 97 12) := (show M1 97 12 = M 97 12 by rw [hM1]; exact mu_ne _ _ (by first | decide | omega))
  have xM1_97_0 : M1 97 0 = 0 := by rw [hM1]; exact mu_at _ _ _ _
  refine g_aload_n (pc' := 6) 0 dX10_alike_5 rfl rfl ?_
  refine g_iload_n (pc' := 7) 1 dX10_alike_6 rfl rfl ?_
  refine g_callVip (pc' := 10) (As := [vi a]) (b := 97) (S := []) dX10_alike_7 rfl m_X10_102 w_X10_isGlass (c_X10_isGlass X M1 iM1 a ha) rfl ⟨_, _, _, rfl, rfl, rfl⟩ (by decide) (by decide) rfl (Nat.le_of_ble_eq_true rfl) (fun z3 q2 => ?_)
  refine g_if_eq (pc' := 13) (tgt := 28) ⟨by omega, by omega⟩ dX10_alike_10 rfl rfl (fun c4 => ?_) (fun c4 => ?_)
  · replace q2 := q2.resolve_left (fun h => absurd (c4.symm.trans h.1) (by decide))
    refine g_iconst (pc' := 29) dX10_alike_28 rfl ?_
    refine g_ireturn dX10_alike_29 ?_
    exact ⟨iM1, fM1, q99_0_M1, q99_1_M1, q99_2_M1, q99_3_M1, q100_0_M1, q100_1_M1, q100_2_M1, q100_3_M1, q100_49_M1, q100_50_M1, q100_51_M1, q100_52_M1, q103_0_M1, q103_1_M1, q97_12_M1, by first | assumption | decide | omega⟩
  · replace q2 := q2.resolve_right (fun h => c4 h.1)
    refine g_aload_n (pc' := 14) 0 dX10_alike_13 rfl rfl ?_
    refine g_iload_n (pc' := 15) 2 dX10_alike_14 rfl rfl ?_
    refine g_callVip (pc' := 18) (As := [vi b]) (b := 97) (S := []) dX10_alike_15 rfl m_X10_102 w_X10_isGlass (c_X10_isGlass X M1 iM1 b hb) rfl ⟨_, _, _, rfl, rfl, rfl⟩ (by decide) (by decide) rfl (Nat.le_of_ble_eq_true rfl) (fun z6 q5 => ?_)
    refine g_if_eq (pc' := 21) (tgt := 28) ⟨by omega, by omega⟩ dX10_alike_18 rfl rfl (fun c7 => ?_) (fun c7 => ?_)
    · replace q5 := q5.resolve_left (fun h => absurd (c7.symm.trans h.1) (by decide))
      refine g_iconst (pc' := 29) dX10_alike_28 rfl ?_
      refine g_ireturn dX10_alike_29 ?_
      exact ⟨iM1, fM1, q99_0_M1, q99_1_M1, q99_2_M1, q99_3_M1, q100_0_M1, q100_1_M1, q100_2_M1, q100_3_M1, q100_49_M1, q100_50_M1, q100_51_M1, q100_52_M1, q103_0_M1, q103_1_M1, q97_12_M1, by first | assumption | decide | omega⟩
    · replace q5 := q5.resolve_right (fun h => c7 h.1)
      refine g_iload_n (pc' := 22) 3 dX10_alike_21 rfl rfl ?_
      refine g_callSip (pc' := 25) (As := [vi c]) (S := []) dX10_alike_22 rfl m_X10_105 w_X10_isStuff (c_X10_isStuff X M1 c hc) rfl (by decide) (by decide) rfl (Nat.le_of_ble_eq_true rfl) (fun z9 q8 => ?_)
      refine g_if_ne (pc' := 28) (tgt := 30) ⟨by omega, by omega⟩ dX10_alike_25 rfl rfl (fun c10 => ?_) (fun c10 => ?_)
      · replace q8 := q8.resolve_right (fun h => c10 h.1)
        refine g_aload_n (pc' := 31) 0 dX10_alike_30 rfl rfl ?_
        refine g_iload_n (pc' := 32) 1 dX10_alike_31 rfl rfl ?_
        refine g_callVip (pc' := 35) (As := [vi a]) (b := 97) (S := []) dX10_alike_32 rfl m_X10_99 w_X10_full (c_X10_full X M1 iM1 a ha ⟨by omega, by omega⟩) rfl ⟨_, _, _, rfl, rfl, rfl⟩ (by decide) (by decide) rfl (Nat.le_of_ble_eq_true rfl) (fun z12 q11 => ?_)
        refine g_istore (pc' := 37) (L' := [(4, vi z12), (0, vr X 97), (1, vi a), (2, vi b), (3, vi c)]) dX10_alike_35 rfl (by decide) rfl ?_
        refine g_aload_n (pc' := 38) 1 dX10_alike_37 rfl rfl ?_
        refine g_iload_n (pc' := 39) 3 dX10_alike_38 rfl rfl ?_
        refine g_callVip (pc' := 42) (As := [vi b]) (b := 97) (S := []) dX10_alike_39 rfl m_X10_99 w_X10_full (c_X10_full X M1 iM1 b hb ⟨by omega, by omega⟩) rfl ⟨_, _, _, rfl, rfl, rfl⟩ (by decide) (by decide) rfl (Nat.le_of_ble_eq_true rfl) (fun z14 q13 => ?_)
        refine g_istore (pc' := 44) (L' := [(5, vi z14), (4, vi z12), (0, vr X 97), (1, vi a), (2, vi b), (3, vi c)]) dX10_alike_42 rfl (by decide) rfl ?_
        refine g_iload (pc' := 46) 1 dX10_alike_44 rfl rfl ?_
        refine g_if_ne (pc' := 49) (tgt := 53) ⟨by omega, by omega⟩ dX10_alike_46 rfl rfl (fun c15 => ?_) (fun c15 => ?_)
        · refine g_aload_n (pc' := 54) 2 dX10_alike_53 rfl rfl ?_
          refine g_getR (pc' := 57) dX10_alike_54 rfl f_X10_19 rfl rfl ?_
          refine g_iconst (pc' := 58) dX10_alike_57 rfl ?_
          refine g_iload_n (pc' := 59) 3 dX10_alike_58 rfl rfl ?_
          refine g_imul (pc' := 60) dX10_alike_59 rfl ?_
          refine g_iload_n (pc' := 61) 5 dX10_alike_60 rfl rfl ?_
          refine g_iadd (pc' := 62) dX10_alike_61 rfl ?_
          refine g_lald (pc' := 63) dX10_alike_62 rfl rfl (by omega) (by omega) (fun v16 ev16 rv16 => ?_)
          have bv16 : 0 ≤ v16 ∧ v16 ≤ 6000000000000000 := by rw [ev16]; exact PIw.le iM1.2.1 (by omega)
          refine g_lstore (pc' := 65) (L' := [(6, vl v16), (5, vi z14), (4, vi z12), (0, vr X 97), (1, vi a), (2, vi b), (3, vi c)]) dX10_alike_63 rfl (by decide) rfl ?_
          refine g_iload (pc' := 67) 1 dX10_alike_65 rfl rfl ?_
          refine g_if_ne (pc' := 70) (tgt := 74) ⟨by omega, by omega⟩ dX10_alike_67 rfl rfl (fun c17 => ?_) (fun c17 => ?_)
          · refine g_aload_n (pc' := 75) 3 dX10_alike_74 rfl rfl ?_
            refine g_getR (pc' := 78) dX10_alike_75 rfl f_X10_19 rfl rfl ?_
            refine g_iconst (pc' := 79) dX10_alike_78 rfl ?_
            refine g_iload_n (pc' := 80) 5 dX10_alike_79 rfl rfl ?_
            refine g_imul (pc' := 81) dX10_alike_80 rfl ?_
            refine g_iload_n (pc' := 82) 6 dX10_alike_81 rfl rfl ?_
            refine g_iadd (pc' := 83) dX10_alike_82 rfl ?_
            refine g_lald (pc' := 84) dX10_alike_83 rfl rfl (by omega) (by omega) (fun v18 ev18 rv18 => ?_)
            have bv18 : 0 ≤ v18 ∧ v18 ≤ 6000000000000000 := by rw [ev18]; exact PIw.le iM1.2.1 (by omega)
            refine g_lstore (pc' := 86) (L' := [(8, vl v18), (6, vl v16), (5, vi z14), (4, vi z12), (0, vr X 97), (1, vi a), (2, vi b), (3, vi c)]) dX10_alike_84 rfl (by decide) rfl ?_
            refine g_lload (pc' := 88) 1 dX10_alike_86 rfl rfl ?_
            refine g_iload (pc' := 90) 2 dX10_alike_88 rfl rfl ?_
            refine g_if_ne (pc' := 93) (tgt := 97) ⟨by omega, by omega⟩ dX10_alike_90 rfl rfl (fun c19 => ?_) (fun c19 => ?_)
            · refine g_iload (pc' := 99) 2 dX10_alike_97 rfl rfl ?_
              refine g_i2l (pc' := 100) ⟨by omega, by omega⟩ dX10_alike_99 rfl ?_
              refine g_lmul (pc' := 101) dX10_alike_100 rfl ?_
              refine g_nrmL (fun n20 rn20 en20 => ?_)
              refine g_lload (pc' := 103) 0 dX10_alike_101 rfl rfl ?_
              refine g_iload (pc' := 105) 3 dX10_alike_103 rfl rfl ?_
              refine g_if_ne (pc' := 108) (tgt := 112) ⟨by omega, by omega⟩ dX10_alike_105 rfl rfl (fun c21 => ?_) (fun c21 => ?_)
              · refine g_iload (pc' := 114) 3 dX10_alike_112 rfl rfl ?_
                refine g_i2l (pc' := 115) ⟨by omega, by omega⟩ dX10_alike_114 rfl ?_
                refine g_lmul (pc' := 116) dX10_alike_115 rfl ?_
                refine g_nrmL (fun n22 rn22 en22 => ?_)
                refine g_lc_ne (pc' := 120) (tgt := 124) rn20 rn22 dX10_alike_116 dX10_alike_117 rfl rfl (fun c23 => ?_) (fun c23 => ?_)
                · refine g_iconst (pc' := 125) dX10_alike_124 rfl ?_
                  refine g_ireturn dX10_alike_125 ?_
                  exact ⟨iM1, fM1, q99_0_M1, q99_1_M1, q99_2_M1, q99_3_M1, q100_0_M1, q100_1_M1, q100_2_M1, q100_3_M1, q100_49_M1, q100_50_M1, q100_51_M1, q100_52_M1, q103_0_M1, q103_1_M1, q97_12_M1, by first | assumption | decide | omega⟩
                · refine g_iconst (pc' := 121) dX10_alike_120 rfl ?_
                  refine g_goto (tgt := 125) dX10_alike_121 rfl ?_
                  refine g_ireturn dX10_alike_125 ?_
                  exact ⟨iM1, fM1, q99_0_M1, q99_1_M1, q99_2_M1, q99_3_M1, q100_0_M1, q100_1_M1, q100_2_M1, q100_3_M1, q100_49_M1, q100_50_M1, q100_51_M1, q100_52_M1, q103_0_M1, q103_1_M1, q97_12_M1, by first | assumption | decide | omega⟩
              · refine g_iconst (pc' := 109) dX10_alike_108 rfl ?_
                refine g_goto (tgt := 114) dX10_alike_109 rfl ?_
                refine g_i2l (pc' := 115) (by decide) dX10_alike_114 rfl ?_
                refine g_lmul (pc' := 116) dX10_alike_115 rfl ?_
                refine g_nrmL (fun n24 rn24 en24 => ?_)
                refine g_lc_ne (pc' := 120) (tgt := 124) rn20 rn24 dX10_alike_116 dX10_alike_117 rfl rfl (fun c25 => ?_) (fun c25 => ?_)
                · refine g_iconst (pc' := 125) dX10_alike_124 rfl ?_
                  refine g_ireturn dX10_alike_125 ?_
                  exact ⟨iM1, fM1, q99_0_M1, q99_1_M1, q99_2_M1, q99_3_M1, q100_0_M1, q100_1_M1, q100_2_M1, q100_3_M1, q100_49_M1, q100_50_M1, q100_51_M1, q100_52_M1, q103_0_M1, q103_1_M1, q97_12_M1, by first | assumption | decide | omega⟩
                · refine g_iconst (pc' := 121) dX10_alike_120 rfl ?_
                  refine g_goto (tgt := 125) dX10_alike_121 rfl ?_
                  refine g_ireturn dX10_alike_125 ?_
                  exact ⟨iM1, fM1, q99_0_M1, q99_1_M1, q99_2_M1, q99_3_M1, q100_0_M1, q100_1_M1, q100_2_M1, q100_3_M1, q100_49_M1, q100_50_M1, q100_51_M1, q100_52_M1, q103_0_M1, q103_1_M1, q97_12_M1, by first | assumption | decide | omega⟩
            · refine g_iconst (pc' := 94) dX10_alike_93 rfl ?_
              refine g_goto (tgt := 99) dX10_alike_94 rfl ?_
              refine g_i2l (pc' := 100) (by decide) dX10_alike_99 rfl ?_
              refine g_lmul (pc' := 101) dX10_alike_100 rfl ?_
              refine g_nrmL (fun n26 rn26 en26 => ?_)
              refine g_lload (pc' := 103) 0 dX10_alike_101 rfl rfl ?_
              refine g_iload (pc' := 105) 3 dX10_alike_103 rfl rfl ?_
              refine g_if_ne (pc' := 108) (tgt := 112) ⟨by omega, by omega⟩ dX10_alike_105 rfl rfl (fun c27 => ?_) (fun c27 => ?_)
              · refine g_iload (pc' := 114) 3 dX10_alike_112 rfl rfl ?_
                refine g_i2l (pc' := 115) ⟨by omega, by omega⟩ dX10_alike_114 rfl ?_
                refine g_lmul (pc' := 116) dX10_alike_115 rfl ?_
                refine g_nrmL (fun n28 rn28 en28 => ?_)
                refine g_lc_ne (pc' := 120) (tgt := 124) rn26 rn28 dX10_alike_116 dX10_alike_117 rfl rfl (fun c29 => ?_) (fun c29 => ?_)
                · refine g_iconst (pc' := 125) dX10_alike_124 rfl ?_
                  refine g_ireturn dX10_alike_125 ?_
                  exact ⟨iM1, fM1, q99_0_M1, q99_1_M1, q99_2_M1, q99_3_M1, q100_0_M1, q100_1_M1, q100_2_M1, q100_3_M1, q100_49_M1, q100_50_M1, q100_51_M1, q100_52_M1, q103_0_M1, q103_1_M1, q97_12_M1, by first | assumption | decide | omega⟩
                · refine g_iconst (pc' := 121) dX10_alike_120 rfl ?_
                  refine g_goto (tgt := 125) dX10_alike_121 rfl ?_
                  refine g_ireturn dX10_alike_125 ?_
                  exact ⟨iM1, fM1, q99_0_M1, q99_1_M1, q99_2_M1, q99_3_M1, q100_0_M1, q100_1_M1, q100_2_M1, q100_3_M1, q100_49_M1, q100_50_M1, q100_51_M1, q100_52_M1, q103_0_M1, q103_1_M1, q97_12_M1, by first | assumption | decide | omega⟩
              · refine g_iconst (pc' := 109) dX10_alike_108 rfl ?_
                refine g_goto (tgt := 114) dX10_alike_109 rfl ?_
                refine g_i2l (pc' := 115) (by decide) dX10_alike_114 rfl ?_
                refine g_lmul (pc' := 116) dX10_alike_115 rfl ?_
                refine g_nrmL (fun n30 rn30 en30 => ?_)
                refine g_lc_ne (pc' := 120) (tgt := 124) rn26 rn30 dX10_alike_116 dX10_alike_117 rfl rfl (fun c31 => ?_) (fun c31 => ?_)
                · refine g_iconst (pc' := 125) dX10_alike_124 rfl ?_
                  refine g_ireturn dX10_alike_125 ?_
                  exact ⟨iM1, fM1, q99_0_M1, q99_1_M1, q99_2_M1, q99_3_M1, q100_0_M1, q100_1_M1, q100_2_M1, q100_3_M1, q100_49_M1, q100_50_M1, q100_51_M1, q100_52_M1, q103_0_M1, q103_1_M1, q97_12_M1, by first | assumption | decide | omega⟩
                · refine g_iconst (pc' := 121) dX10_alike_120 rfl ?_
                  refine g_goto (tgt := 125) dX10_alike_121 rfl ?_
                  refine g_ireturn dX10_alike_125 ?_
                  exact ⟨iM1, fM1, q99_0_M1, q99_1_M1, q99_2_M1, q99_3_M1, q100_0_M1, q100_1_M1, q100_2_M1, q100_3_M1, q100_49_M1, q100_50_M1, q100_51_M1, q100_52_M1, q103_0_M1, q103_1_M1, q97_12_M1, by first | assumption | decide | omega⟩
          · refine g_lconst (pc' := 71) (v := 0) dX10_alike_70 rfl (by decide) ?_
            refine g_goto (tgt := 84) dX10_alike_71 rfl ?_
            refine g_lstore (pc' := 86) (L' := [(8, vl 0), (6, vl v16), (5, vi z14), (4, vi z12), (0, vr X 97), (1, vi a), (2, vi b), (3, vi c)]) dX10_alike_84 rfl (by decide) rfl ?_
            refine g_lload (pc' := 88) 1 dX10_alike_86 rfl rfl ?_
            refine g_iload (pc' := 90) 2 dX10_alike_88 rfl rfl ?_
            refine g_if_ne (pc' := 93) (tgt := 97) ⟨by omega, by omega⟩ dX10_alike_90 rfl rfl (fun c32 => ?_) (fun c32 => ?_)
            · refine g_iload (pc' := 99) 2 dX10_alike_97 rfl rfl ?_
              refine g_i2l (pc' := 100) ⟨by omega, by omega⟩ dX10_alike_99 rfl ?_
              refine g_lmul (pc' := 101) dX10_alike_100 rfl ?_
              refine g_nrmL (fun n33 rn33 en33 => ?_)
              refine g_lload (pc' := 103) 0 dX10_alike_101 rfl rfl ?_
              refine g_iload (pc' := 105) 3 dX10_alike_103 rfl rfl ?_
              refine g_if_ne (pc' := 108) (tgt := 112) ⟨by omega, by omega⟩ dX10_alike_105 rfl rfl (fun c34 => ?_) (fun c34 => ?_)
              · refine g_iload (pc' := 114) 3 dX10_alike_112 rfl rfl ?_
                refine g_i2l (pc' := 115) ⟨by omega, by omega⟩ dX10_alike_114 rfl ?_
                refine g_lmul (pc' := 116) dX10_alike_115 rfl ?_
                refine g_nrmL (fun n35 rn35 en35 => ?_)
                refine g_lc_ne (pc' := 120) (tgt := 124) rn33 rn35 dX10_alike_116 dX10_alike_117 rfl rfl (fun c36 => ?_) (fun c36 => ?_)
                · refine g_iconst (pc' := 125) dX10_alike_124 rfl ?_
                  refine g_ireturn dX10_alike_125 ?_
                  exact ⟨iM1, fM1, q99_0_M1, q99_1_M1, q99_2_M1, q99_3_M1, q100_0_M1, q100_1_M1, q100_2_M1, q100_3_M1, q100_49_M1, q100_50_M1, q100_51_M1, q100_52_M1, q103_0_M1, q103_1_M1, q97_12_M1, by first | assumption | decide | omega⟩
                · refine g_iconst (pc' := 121) dX10_alike_120 rfl ?_
                  refine g_goto (tgt := 125) dX10_alike_121 rfl ?_
                  refine g_ireturn dX10_alike_125 ?_
                  exact ⟨iM1, fM1, q99_0_M1, q99_1_M1, q99_2_M1, q99_3_M1, q100_0_M1, q100_1_M1, q100_2_M1, q100_3_M1, q100_49_M1, q100_50_M1, q100_51_M1, q100_52_M1, q103_0_M1, q103_1_M1, q97_12_M1, by first | assumption | decide | omega⟩
              · refine g_iconst (pc' := 109) dX10_alike_108 rfl ?_
                refine g_goto (tgt := 114) dX10_alike_109 rfl ?_
                refine g_i2l (pc' := 115) (by decide) dX10_alike_114 rfl ?_
                refine g_lmul (pc' := 116) dX10_alike_115 rfl ?_
                refine g_nrmL (fun n37 rn37 en37 => ?_)
                refine g_lc_ne (pc' := 120) (tgt := 124) rn33 rn37 dX10_alike_116 dX10_alike_117 rfl rfl (fun c38 => ?_) (fun c38 => ?_)
                · refine g_iconst (pc' := 125) dX10_alike_124 rfl ?_
                  refine g_ireturn dX10_alike_125 ?_
                  exact ⟨iM1, fM1, q99_0_M1, q99_1_M1, q99_2_M1, q99_3_M1, q100_0_M1, q100_1_M1, q100_2_M1, q100_3_M1, q100_49_M1, q100_50_M1, q100_51_M1, q100_52_M1, q103_0_M1, q103_1_M1, q97_12_M1, by first | assumption | decide | omega⟩
                · refine g_iconst (pc' := 121) dX10_alike_120 rfl ?_
                  refine g_goto (tgt := 125) dX10_alike_121 rfl ?_
                  refine g_ireturn dX10_alike_125 ?_
                  exact ⟨iM1, fM1, q99_0_M1, q99_1_M1, q99_2_M1, q99_3_M1, q100_0_M1, q100_1_M1, q100_2_M1, q100_3_M1, q100_49_M1, q100_50_M1, q100_51_M1, q100_52_M1, q103_0_M1, q103_1_M1, q97_12_M1, by first | assumption | decide | omega⟩
            · refine g_iconst (pc' := 94) dX10_alike_93 rfl ?_
              refine g_goto (tgt := 99) dX10_alike_94 rfl ?_
              refine g_i2l (pc' := 100) (by decide) dX10_alike_99 rfl ?_
              refine g_lmul (pc' := 101) dX10_alike_100 rfl ?_
              refine g_nrmL (fun n39 rn39 en39 => ?_)
              refine g_lload (pc' := 103) 0 dX10_alike_101 rfl rfl ?_
              refine g_iload (pc' := 105) 3 dX10_alike_103 rfl rfl ?_
              refine g_if_ne (pc' := 108) (tgt := 112) ⟨by omega, by omega⟩ dX10_alike_105 rfl rfl (fun c40 => ?_) (fun c40 => ?_)
              · refine g_iload (pc' := 114) 3 dX10_alike_112 rfl rfl ?_
                refine g_i2l (pc' := 115) ⟨by omega, by omega⟩ dX10_alike_114 rfl ?_
                refine g_lmul (pc' := 116) dX10_alike_115 rfl ?_
                refine g_nrmL (fun n41 rn41 en41 => ?_)
                refine g_lc_ne (pc' := 120) (tgt := 124) rn39 rn41 dX10_alike_116 dX10_alike_117 rfl rfl (fun c42 => ?_) (fun c42 => ?_)
                · refine g_iconst (pc' := 125) dX10_alike_124 rfl ?_
                  refine g_ireturn dX10_alike_125 ?_
                  exact ⟨iM1, fM1, q99_0_M1, q99_1_M1, q99_2_M1, q99_3_M1, q100_0_M1, q100_1_M1, q100_2_M1, q100_3_M1, q100_49_M1, q100_50_M1, q100_51_M1, q100_52_M1, q103_0_M1, q103_1_M1, q97_12_M1, by first | assumption | decide | omega⟩
                · refine g_iconst (pc' := 121) dX10_alike_120 rfl ?_
                  refine g_goto (tgt := 125) dX10_alike_121 rfl ?_
                  refine g_ireturn dX10_alike_125 ?_
                  exact ⟨iM1, fM1, q99_0_M1, q99_1_M1, q99_2_M1, q99_3_M1, q100_0_M1, q100_1_M1, q100_2_M1, q100_3_M1, q100_49_M1, q100_50_M1, q100_51_M1, q100_52_M1, q103_0_M1, q103_1_M1, q97_12_M1, by first | assumption | decide | omega⟩
              · refine g_iconst (pc' := 109) dX10_alike_108 rfl ?_
                refine g_goto (tgt := 114) dX10_alike_109 rfl ?_
                refine g_i2l (pc' := 115) (by decide) dX10_alike_114 rfl ?_
                refine g_lmul (pc' := 116) dX10_alike_115 rfl ?_
                refine g_nrmL (fun n43 rn43 en43 => ?_)
                refine g_lc_ne (pc' := 120) (tgt := 124) rn39 rn43 dX10_alike_116 dX10_alike_117 rfl rfl (fun c44 => ?_) (fun c44 => ?_)
                · refine g_iconst (pc' := 125) dX10_alike_124 rfl ?_
                  refine g_ireturn dX10_alike_125 ?_
                  exact ⟨iM1, fM1, q99_0_M1, q99_1_M1, q99_2_M1, q99_3_M1, q100_0_M1, q100_1_M1, q100_2_M1, q100_3_M1, q100_49_M1, q100_50_M1, q100_51_M1, q100_52_M1, q103_0_M1, q103_1_M1, q97_12_M1, by first | assumption | decide | omega⟩
                · refine g_iconst (pc' := 121) dX10_alike_120 rfl ?_
                  refine g_goto (tgt := 125) dX10_alike_121 rfl ?_
                  refine g_ireturn dX10_alike_125 ?_
                  exact ⟨iM1, fM1, q99_0_M1, q99_1_M1, q99_2_M1, q99_3_M1, q100_0_M1, q100_1_M1, q100_2_M1, q100_3_M1, q100_49_M1, q100_50_M1, q100_51_M1, q100_52_M1, q103_0_M1, q103_1_M1, q97_12_M1, by first | assumption | decide | omega⟩
        · refine g_lconst (pc' := 50) (v := 0) dX10_alike_49 rfl (by decide) ?_
          refine g_goto (tgt := 63) dX10_alike_50 rfl ?_
          refine g_lstore (pc' := 65) (L' := [(6, vl 0), (5, vi z14), (4, vi z12), (0, vr X 97), (1, vi a), (2, vi b), (3, vi c)]) dX10_alike_63 rfl (by decide) rfl ?_
          refine g_iload (pc' := 67) 1 dX10_alike_65 rfl rfl ?_
          refine g_if_ne (pc' := 70) (tgt := 74) ⟨by omega, by omega⟩ dX10_alike_67 rfl rfl (fun c45 => ?_) (fun c45 => ?_)
          · refine g_aload_n (pc' := 75) 3 dX10_alike_74 rfl rfl ?_
            refine g_getR (pc' := 78) dX10_alike_75 rfl f_X10_19 rfl rfl ?_
            refine g_iconst (pc' := 79) dX10_alike_78 rfl ?_
            refine g_iload_n (pc' := 80) 5 dX10_alike_79 rfl rfl ?_
            refine g_imul (pc' := 81) dX10_alike_80 rfl ?_
            refine g_iload_n (pc' := 82) 6 dX10_alike_81 rfl rfl ?_
            refine g_iadd (pc' := 83) dX10_alike_82 rfl ?_
            refine g_lald (pc' := 84) dX10_alike_83 rfl rfl (by omega) (by omega) (fun v46 ev46 rv46 => ?_)
            have bv46 : 0 ≤ v46 ∧ v46 ≤ 6000000000000000 := by rw [ev46]; exact PIw.le iM1.2.1 (by omega)
            refine g_lstore (pc' := 86) (L' := [(8, vl v46), (6, vl 0), (5, vi z14), (4, vi z12), (0, vr X 97), (1, vi a), (2, vi b), (3, vi c)]) dX10_alike_84 rfl (by decide) rfl ?_
            refine g_lload (pc' := 88) 1 dX10_alike_86 rfl rfl ?_
            refine g_iload (pc' := 90) 2 dX10_alike_88 rfl rfl ?_
            refine g_if_ne (pc' := 93) (tgt := 97) ⟨by omega, by omega⟩ dX10_alike_90 rfl rfl (fun c47 => ?_) (fun c47 => ?_)
            · refine g_iload (pc' := 99) 2 dX10_alike_97 rfl rfl ?_
              refine g_i2l (pc' := 100) ⟨by omega, by omega⟩ dX10_alike_99 rfl ?_
              refine g_lmul (pc' := 101) dX10_alike_100 rfl ?_
              refine g_nrmL (fun n48 rn48 en48 => ?_)
              refine g_lload (pc' := 103) 0 dX10_alike_101 rfl rfl ?_
              refine g_iload (pc' := 105) 3 dX10_alike_103 rfl rfl ?_
              refine g_if_ne (pc' := 108) (tgt := 112) ⟨by omega, by omega⟩ dX10_alike_105 rfl rfl (fun c49 => ?_) (fun c49 => ?_)
              · refine g_iload (pc' := 114) 3 dX10_alike_112 rfl rfl ?_
                refine g_i2l (pc' := 115) ⟨by omega, by omega⟩ dX10_alike_114 rfl ?_
                refine g_lmul (pc' := 116) dX10_alike_115 rfl ?_
                refine g_nrmL (fun n50 rn50 en50 => ?_)
                refine g_lc_ne (pc' := 120) (tgt := 124) rn48 rn50 dX10_alike_116 dX10_alike_117 rfl rfl (fun c51 => ?_) (fun c51 => ?_)
                · refine g_iconst (pc' := 125) dX10_alike_124 rfl ?_
                  refine g_ireturn dX10_alike_125 ?_
                  exact ⟨iM1, fM1, q99_0_M1, q99_1_M1, q99_2_M1, q99_3_M1, q100_0_M1, q100_1_M1, q100_2_M1, q100_3_M1, q100_49_M1, q100_50_M1, q100_51_M1, q100_52_M1, q103_0_M1, q103_1_M1, q97_12_M1, by first | assumption | decide | omega⟩
                · refine g_iconst (pc' := 121) dX10_alike_120 rfl ?_
                  refine g_goto (tgt := 125) dX10_alike_121 rfl ?_
                  refine g_ireturn dX10_alike_125 ?_
                  exact ⟨iM1, fM1, q99_0_M1, q99_1_M1, q99_2_M1, q99_3_M1, q100_0_M1, q100_1_M1, q100_2_M1, q100_3_M1, q100_49_M1, q100_50_M1, q100_51_M1, q100_52_M1, q103_0_M1, q103_1_M1, q97_12_M1, by first | assumption | decide | omega⟩
              · refine g_iconst (pc' := 109) dX10_alike_108 rfl ?_
                refine g_goto (tgt := 114) dX10_alike_109 rfl ?_
                refine g_i2l (pc' := 115) (by decide) dX10_alike_114 rfl ?_
                refine g_lmul (pc' := 116) dX10_alike_115 rfl ?_
                refine g_nrmL (fun n52 rn52 en52 => ?_)
                refine g_lc_ne (pc' := 120) (tgt := 124) rn48 rn52 dX10_alike_116 dX10_alike_117 rfl rfl (fun c53 => ?_) (fun c53 => ?_)
                · refine g_iconst (pc' := 125) dX10_alike_124 rfl ?_
                  refine g_ireturn dX10_alike_125 ?_
                  exact ⟨iM1, fM1, q99_0_M1, q99_1_M1, q99_2_M1, q99_3_M1, q100_0_M1, q100_1_M1, q100_2_M1, q100_3_M1, q100_49_M1, q100_50_M1, q100_51_M1, q100_52_M1, q103_0_M1, q103_1_M1, q97_12_M1, by first | assumption | decide | omega⟩
                · refine g_iconst (pc' := 121) dX10_alike_120 rfl ?_
                  refine g_goto (tgt := 125) dX10_alike_121 rfl ?_
                  refine g_ireturn dX10_alike_125 ?_
                  exact ⟨iM1, fM1, q99_0_M1, q99_1_M1, q99_2_M1, q99_3_M1, q100_0_M1, q100_1_M1, q100_2_M1, q100_3_M1, q100_49_M1, q100_50_M1, q100_51_M1, q100_52_M1, q103_0_M1, q103_1_M1, q97_12_M1, by first | assumption | decide | omega⟩
            · refine g_iconst (pc' := 94) dX10_alike_93 rfl ?_
              refine g_goto (tgt := 99) dX10_alike_94 rfl ?_
              refine g_i2l (pc' := 100) (by decide) dX10_alike_99 rfl ?_
              refine g_lmul (pc' := 101) dX10_alike_100 rfl ?_
              refine g_nrmL (fun n54 rn54 en54 => ?_)
              refine g_lload (pc' := 103) 0 dX10_alike_101 rfl rfl ?_
              refine g_iload (pc' := 105) 3 dX10_alike_103 rfl rfl ?_
              refine g_if_ne (pc' := 108) (tgt := 112) ⟨by omega, by omega⟩ dX10_alike_105 rfl rfl (fun c55 => ?_) (fun c55 => ?_)
              · refine g_iload (pc' := 114) 3 dX10_alike_112 rfl rfl ?_
                refine g_i2l (pc' := 115) ⟨by omega, by omega⟩ dX10_alike_114 rfl ?_
                refine g_lmul (pc' := 116) dX10_alike_115 rfl ?_
                refine g_nrmL (fun n56 rn56 en56 => ?_)
                refine g_lc_ne (pc' := 120) (tgt := 124) rn54 rn56 dX10_alike_116 dX10_alike_117 rfl rfl (fun c57 => ?_) (fun c57 => ?_)
                · refine g_iconst (pc' := 125) dX10_alike_124 rfl ?_
                  refine g_ireturn dX10_alike_125 ?_
                  exact ⟨iM1, fM1, q99_0_M1, q99_1_M1, q99_2_M1, q99_3_M1, q100_0_M1, q100_1_M1, q100_2_M1, q100_3_M1, q100_49_M1, q100_50_M1, q100_51_M1, q100_52_M1, q103_0_M1, q103_1_M1, q97_12_M1, by first | assumption | decide | omega⟩
                · refine g_iconst (pc' := 121) dX10_alike_120 rfl ?_
                  refine g_goto (tgt := 125) dX10_alike_121 rfl ?_
                  refine g_ireturn dX10_alike_125 ?_
                  exact ⟨iM1, fM1, q99_0_M1, q99_1_M1, q99_2_M1, q99_3_M1, q100_0_M1, q100_1_M1, q100_2_M1, q100_3_M1, q100_49_M1, q100_50_M1, q100_51_M1, q100_52_M1, q103_0_M1, q103_1_M1, q97_12_M1, by first | assumption | decide | omega⟩
              · refine g_iconst (pc' := 109) dX10_alike_108 rfl ?_
                refine g_goto (tgt := 114) dX10_alike_109 rfl ?_
                refine g_i2l (pc' := 115) (by decide) dX10_alike_114 rfl ?_
                refine g_lmul (pc' := 116) dX10_alike_115 rfl ?_
                refine g_nrmL (fun n58 rn58 en58 => ?_)
                refine g_lc_ne (pc' := 120) (tgt := 124) rn54 rn58 dX10_alike_116 dX10_alike_117 rfl rfl (fun c59 => ?_) (fun c59 => ?_)
                · refine g_iconst (pc' := 125) dX10_alike_124 rfl ?_
                  refine g_ireturn dX10_alike_125 ?_
                  exact ⟨iM1, fM1, q99_0_M1, q99_1_M1, q99_2_M1, q99_3_M1, q100_0_M1, q100_1_M1, q100_2_M1, q100_3_M1, q100_49_M1, q100_50_M1, q100_51_M1, q100_52_M1, q103_0_M1, q103_1_M1, q97_12_M1, by first | assumption | decide | omega⟩
                · refine g_iconst (pc' := 121) dX10_alike_120 rfl ?_
                  refine g_goto (tgt := 125) dX10_alike_121 rfl ?_
                  refine g_ireturn dX10_alike_125 ?_
                  exact ⟨iM1, fM1, q99_0_M1, q99_1_M1, q99_2_M1, q99_3_M1, q100_0_M1, q100_1_M1, q100_2_M1, q100_3_M1, q100_49_M1, q100_50_M1, q100_51_M1, q100_52_M1, q103_0_M1, q103_1_M1, q97_12_M1, by first | assumption | decide | omega⟩
          · refine g_lconst (pc' := 71) (v := 0) dX10_alike_70 rfl (by decide) ?_
            refine g_goto (tgt := 84) dX10_alike_71 rfl ?_
            refine g_lstore (pc' := 86) (L' := [(8, vl 0), (6, vl 0), (5, vi z14), (4, vi z12), (0, vr X 97), (1, vi a), (2, vi b), (3, vi c)]) dX10_alike_84 rfl (by decide) rfl ?_
            refine g_lload (pc' := 88) 1 dX10_alike_86 rfl rfl ?_
            refine g_iload (pc' := 90) 2 dX10_alike_88 rfl rfl ?_
            refine g_if_ne (pc' := 93) (tgt := 97) ⟨by omega, by omega⟩ dX10_alike_90 rfl rfl (fun c60 => ?_) (fun c60 => ?_)
            · refine g_iload (pc' := 99) 2 dX10_alike_97 rfl rfl ?_
              refine g_i2l (pc' := 100) ⟨by omega, by omega⟩ dX10_alike_99 rfl ?_
              refine g_lmul (pc' := 101) dX10_alike_100 rfl ?_
              refine g_nrmL (fun n61 rn61 en61 => ?_)
              refine g_lload (pc' := 103) 0 dX10_alike_101 rfl rfl ?_
              refine g_iload (pc' := 105) 3 dX10_alike_103 rfl rfl ?_
              refine g_if_ne (pc' := 108) (tgt := 112) ⟨by omega, by omega⟩ dX10_alike_105 rfl rfl (fun c62 => ?_) (fun c62 => ?_)
              · refine g_iload (pc' := 114) 3 dX10_alike_112 rfl rfl ?_
                refine g_i2l (pc' := 115) ⟨by omega, by omega⟩ dX10_alike_114 rfl ?_
                refine g_lmul (pc' := 116) dX10_alike_115 rfl ?_
                refine g_nrmL (fun n63 rn63 en63 => ?_)
                refine g_lc_ne (pc' := 120) (tgt := 124) rn61 rn63 dX10_alike_116 dX10_alike_117 rfl rfl (fun c64 => ?_) (fun c64 => ?_)
                · refine g_iconst (pc' := 125) dX10_alike_124 rfl ?_
                  refine g_ireturn dX10_alike_125 ?_
                  exact ⟨iM1, fM1, q99_0_M1, q99_1_M1, q99_2_M1, q99_3_M1, q100_0_M1, q100_1_M1, q100_2_M1, q100_3_M1, q100_49_M1, q100_50_M1, q100_51_M1, q100_52_M1, q103_0_M1, q103_1_M1, q97_12_M1, by first | assumption | decide | omega⟩
                · refine g_iconst (pc' := 121) dX10_alike_120 rfl ?_
                  refine g_goto (tgt := 125) dX10_alike_121 rfl ?_
                  refine g_ireturn dX10_alike_125 ?_
                  exact ⟨iM1, fM1, q99_0_M1, q99_1_M1, q99_2_M1, q99_3_M1, q100_0_M1, q100_1_M1, q100_2_M1, q100_3_M1, q100_49_M1, q100_50_M1, q100_51_M1, q100_52_M1, q103_0_M1, q103_1_M1, q97_12_M1, by first | assumption | decide | omega⟩
              · refine g_iconst (pc' := 109) dX10_alike_108 rfl ?_
                refine g_goto (tgt := 114) dX10_alike_109 rfl ?_
                refine g_i2l (pc' := 115) (by decide) dX10_alike_114 rfl ?_
                refine g_lmul (pc' := 116) dX10_alike_115 rfl ?_
                refine g_nrmL (fun n65 rn65 en65 => ?_)
                refine g_lc_ne (pc' := 120) (tgt := 124) rn61 rn65 dX10_alike_116 dX10_alike_117 rfl rfl (fun c66 => ?_) (fun c66 => ?_)
                · refine g_iconst (pc' := 125) dX10_alike_124 rfl ?_
                  refine g_ireturn dX10_alike_125 ?_
                  exact ⟨iM1, fM1, q99_0_M1, q99_1_M1, q99_2_M1, q99_3_M1, q100_0_M1, q100_1_M1, q100_2_M1, q100_3_M1, q100_49_M1, q100_50_M1, q100_51_M1, q100_52_M1, q103_0_M1, q103_1_M1, q97_12_M1, by first | assumption | decide | omega⟩
                · refine g_iconst (pc' := 121) dX10_alike_120 rfl ?_
                  refine g_goto (tgt := 125) dX10_alike_121 rfl ?_
                  refine g_ireturn dX10_alike_125 ?_
                  exact ⟨iM1, fM1, q99_0_M1, q99_1_M1, q99_2_M1, q99_3_M1, q100_0_M1, q100_1_M1, q100_2_M1, q100_3_M1, q100_49_M1, q100_50_M1, q100_51_M1, q100_52_M1, q103_0_M1, q103_1_M1, q97_12_M1, by first | assumption | decide | omega⟩
            · refine g_iconst (pc' := 94) dX10_alike_93 rfl ?_
              refine g_goto (tgt := 99) dX10_alike_94 rfl ?_
              refine g_i2l (pc' := 100) (by decide) dX10_alike_99 rfl ?_
              refine g_lmul (pc' := 101) dX10_alike_100 rfl ?_
              refine g_nrmL (fun n67 rn67 en67 => ?_)
              refine g_lload (pc' := 103) 0 dX10_alike_101 rfl rfl ?_
              refine g_iload (pc' := 105) 3 dX10_alike_103 rfl rfl ?_
              refine g_if_ne (pc' := 108) (tgt := 112) ⟨by omega, by omega⟩ dX10_alike_105 rfl rfl (fun c68 => ?_) (fun c68 => ?_)
              · refine g_iload (pc' := 114) 3 dX10_alike_112 rfl rfl ?_
                refine g_i2l (pc' := 115) ⟨by omega, by omega⟩ dX10_alike_114 rfl ?_
                refine g_lmul (pc' := 116) dX10_alike_115 rfl ?_
                refine g_nrmL (fun n69 rn69 en69 => ?_)
                refine g_lc_ne (pc' := 120) (tgt := 124) rn67 rn69 dX10_alike_116 dX10_alike_117 rfl rfl (fun c70 => ?_) (fun c70 => ?_)
                · refine g_iconst (pc' := 125) dX10_alike_124 rfl ?_
                  refine g_ireturn dX10_alike_125 ?_
                  exact ⟨iM1, fM1, q99_0_M1, q99_1_M1, q99_2_M1, q99_3_M1, q100_0_M1, q100_1_M1, q100_2_M1, q100_3_M1, q100_49_M1, q100_50_M1, q100_51_M1, q100_52_M1, q103_0_M1, q103_1_M1, q97_12_M1, by first | assumption | decide | omega⟩
                · refine g_iconst (pc' := 121) dX10_alike_120 rfl ?_
                  refine g_goto (tgt := 125) dX10_alike_121 rfl ?_
                  refine g_ireturn dX10_alike_125 ?_
                  exact ⟨iM1, fM1, q99_0_M1, q99_1_M1, q99_2_M1, q99_3_M1, q100_0_M1, q100_1_M1, q100_2_M1, q100_3_M1, q100_49_M1, q100_50_M1, q100_51_M1, q100_52_M1, q103_0_M1, q103_1_M1, q97_12_M1, by first | assumption | decide | omega⟩
              · refine g_iconst (pc' := 109) dX10_alike_108 rfl ?_
                refine g_goto (tgt := 114) dX10_alike_109 rfl ?_
                refine g_i2l (pc' := 115) (by decide) dX10_alike_114 rfl ?_
                refine g_lmul (pc' := 116) dX10_alike_115 rfl ?_
                refine g_nrmL (fun n71 rn71 en71 => ?_)
                refine g_lc_ne (pc' := 120) (tgt := 124) rn67 rn71 dX10_alike_116 dX10_alike_117 rfl rfl (fun c72 => ?_) (fun c72 => ?_)
                · refine g_iconst (pc' := 125) dX10_alike_124 rfl ?_
                  refine g_ireturn dX10_alike_125 ?_
                  exact ⟨iM1, fM1, q99_0_M1, q99_1_M1, q99_2_M1, q99_3_M1, q100_0_M1, q100_1_M1, q100_2_M1, q100_3_M1, q100_49_M1, q100_50_M1, q100_51_M1, q100_52_M1, q103_0_M1, q103_1_M1, q97_12_M1, by first | assumption | decide | omega⟩
                · refine g_iconst (pc' := 121) dX10_alike_120 rfl ?_
                  refine g_goto (tgt := 125) dX10_alike_121 rfl ?_
                  refine g_ireturn dX10_alike_125 ?_
                  exact ⟨iM1, fM1, q99_0_M1, q99_1_M1, q99_2_M1, q99_3_M1, q100_0_M1, q100_1_M1, q100_2_M1, q100_3_M1, q100_49_M1, q100_50_M1, q100_51_M1, q100_52_M1, q103_0_M1, q103_1_M1, q97_12_M1, by first | assumption | decide | omega⟩
      · replace q8 := q8.resolve_left (fun h => absurd (c10.symm.trans h.1) (by decide))
        refine g_iconst (pc' := 29) dX10_alike_28 rfl ?_
        refine g_ireturn dX10_alike_29 ?_
        exact ⟨iM1, fM1, q99_0_M1, q99_1_M1, q99_2_M1, q99_3_M1, q100_0_M1, q100_1_M1, q100_2_M1, q100_3_M1, q100_49_M1, q100_50_M1, q100_51_M1, q100_52_M1, q103_0_M1, q103_1_M1, q97_12_M1, by first | assumption | decide | omega⟩
